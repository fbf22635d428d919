theorem thr_1 (T : jO) (v : Int32) : thr T v 1 = T 1 := rfl
theorem put_01 (T : jO) (i : Nat) (v : Int32) : put T 0 i v 1 = T 1 := rfl
def mNum (r : Nat → Int32) (n : Nat) : Nat → Int32
  | 0 => mStg r n
  | 1 => if mFree r n = true then -1 else r ((32 + 12 * n))
  | 2 => if mFree r n = true then -1 else r ((32 + 12 * n) + 1)
  | 3 => if mFree r n = true then -1 else r ((32 + 12 * n) + 2)
  | 4 => if mFree r n = true then -1 else r ((32 + 12 * n) + 3)
  | 5 => r ((32 + 12 * n) + 5)
  | 6 => if r ((32 + 12 * n) + 5) = 0 then -1 else r ((32 + 12 * n) + 6)
  | 7 => if r ((32 + 12 * n) + 5) = 0 then -1 else r ((32 + 12 * n) + 7)
  | _ => r ((32 + 12 * n) + 4)
theorem le08 {q : Nat} (h : q ≤ 8) : q = 0 ∨ q = 1 ∨ q = 2 ∨ q = 3 ∨ q = 4 ∨ q = 5 ∨ q = 6 ∨ q = 7 ∨ q = 8 := by omega
theorem le12 {q : Nat} (h : q ≤ 12) : q = 0 ∨ q = 1 ∨ q = 2 ∨ q = 3 ∨ q = 4 ∨ q = 5 ∨ q = 6 ∨ q = 7 ∨ q = 8 ∨ q = 9 ∨ q = 10 ∨ q = 11 ∨ q = 12 := by omega
set_option maxRecDepth 100000 in
set_option maxHeartbeats 1000000 in
theorem c5_ofNumber (l : Launch) (E : jE) (S : jS) (x : jX) (T : jO) {n q : Nat} (hn : n < 64) (hq : q ≤ 8) : Ct l E yX5_ofNumber cX5_ofNumber 4 (some .int) 4 [.ref (ad E 10 0), .int (nI n), .int (nI q)] (setO S 10 T, x) (some (.int (mNum (T 1) n q))) (setO S 10 T, x) := by
  refine Ct.of (by decide +kernel) (Nat.le_refl _) (Nat.le_of_ble_eq_true rfl) rfl (fun J hJ hF => ?_)
  rcases le08 hq with rfl | rfl | rfl | rfl | rfl | rfl | rfl | rfl | rfl
  · refine r_iload_n hJ dX5_ofNumber_0 rfl jg1 ?_
    refine r_S1v hJ kX5_40 (c5_row l E _ x n) dX5_ofNumber_1 ⟨by decide, by decide⟩ (Nat.le_of_ble_eq_true rfl) ?_
    refine r_istore_n hJ dX5_ofNumber_4 rfl (jp3 rfl rfl) ?_
    refine r_iload_n hJ dX5_ofNumber_5 rfl jg2 ?_
    refine r_if_ne hJ (tgt := 18) dX5_ofNumber_6 (by decide) (fun c6 => ?_) (fun c6 => ?_)
    · exact absurd rfl c6
    · refine r_aload_n hJ dX5_ofNumber_9 rfl jg0 ?_
      refine r_g5_0 hJ m791 dX5_ofNumber_10 ?_
      refine r_iload_n hJ dX5_ofNumber_13 rfl jg1 ?_
      refine r_S2v hJ kX5_51 (h5_stageOf l E S x T (Or.inl rfl) (n := n) hn) dX5_ofNumber_14 ⟨by decide, by decide⟩ (Nat.le_of_ble_eq_true rfl) ?_
      exact ret_i hF dX5_ofNumber_17 rfl rfl
  · refine r_iload_n hJ dX5_ofNumber_0 rfl jg1 ?_
    refine r_S1v hJ kX5_40 (c5_row l E _ x n) dX5_ofNumber_1 ⟨by decide, by decide⟩ (Nat.le_of_ble_eq_true rfl) ?_
    refine r_istore_n hJ dX5_ofNumber_4 rfl (jp3 rfl rfl) ?_
    refine r_iload_n hJ dX5_ofNumber_5 rfl jg2 ?_
    refine r_if_ne hJ (tgt := 18) dX5_ofNumber_6 (by decide) (fun c6 => ?_) (fun c6 => ?_)
    · refine r_iload_n hJ dX5_ofNumber_18 rfl jg2 ?_
      refine r_iconst hJ (v := nI 5) dX5_ofNumber_19 (by decide) ?_
      refine r_icmp_ge hJ (tgt := 49) dX5_ofNumber_20 (by decide) (fun c20 => ?_) (fun c20 => ?_)
      · exact absurd c20 (by decide)
      · refine r_aload_n hJ dX5_ofNumber_23 rfl jg0 ?_
        refine r_g5_0 hJ m791 dX5_ofNumber_24 ?_
        refine r_iload_n hJ dX5_ofNumber_27 rfl jg1 ?_
        refine r_S2v hJ kX5_43 (h5_isFree l E S x T (Or.inl rfl) (n := n) hn) dX5_ofNumber_28 ⟨by decide, by decide⟩ (Nat.le_of_ble_eq_true rfl) ?_
        refine r_if_eq hJ (tgt := 38) dX5_ofNumber_31 (by decide) (fun c31 => ?_) (fun c31 => ?_)
        · have c31 : mFree (T 1) n = false := bI_0.mp c31
          refine r_aload_n hJ dX5_ofNumber_38 rfl jg0 ?_
          refine r_g5_0 hJ m791 dX5_ofNumber_39 ?_
          refine r_iload_n hJ dX5_ofNumber_42 rfl jg3 ?_
          refine r_iload_n hJ dX5_ofNumber_43 rfl jg2 ?_
          refine r_iaddN hJ dX5_ofNumber_44 ?_
          refine r_iconst hJ (v := nI 1) dX5_ofNumber_45 (by decide) ?_
          refine r_isub hJ dX5_ofNumber_46 ?_
          have hq : nI ((32 + 12 * n) + 1) - nI 1 = nI ((32 + 12 * n) + 0) := nI_sub1 (by omega)
          refine r_ialdO hJ (by omega) (alM1 (by omega)) hq dX5_ofNumber_47 ?_
          exact ret_i hF dX5_ofNumber_48 (by simp [mNum, c31]) rfl
        · have c31 : mFree (T 1) n = true := bI_ne c31
          refine r_iconst hJ (v := (-1)) dX5_ofNumber_34 (by decide) ?_
          refine r_goto hJ (tgt := 48) dX5_ofNumber_35 (by decide) ?_
          exact ret_i hF dX5_ofNumber_48 (by simp [mNum, c31]) rfl
    · exact absurd c6 (by decide)
  · refine r_iload_n hJ dX5_ofNumber_0 rfl jg1 ?_
    refine r_S1v hJ kX5_40 (c5_row l E _ x n) dX5_ofNumber_1 ⟨by decide, by decide⟩ (Nat.le_of_ble_eq_true rfl) ?_
    refine r_istore_n hJ dX5_ofNumber_4 rfl (jp3 rfl rfl) ?_
    refine r_iload_n hJ dX5_ofNumber_5 rfl jg2 ?_
    refine r_if_ne hJ (tgt := 18) dX5_ofNumber_6 (by decide) (fun c6 => ?_) (fun c6 => ?_)
    · refine r_iload_n hJ dX5_ofNumber_18 rfl jg2 ?_
      refine r_iconst hJ (v := nI 5) dX5_ofNumber_19 (by decide) ?_
      refine r_icmp_ge hJ (tgt := 49) dX5_ofNumber_20 (by decide) (fun c20 => ?_) (fun c20 => ?_)
      · exact absurd c20 (by decide)
      · refine r_aload_n hJ dX5_ofNumber_23 rfl jg0 ?_
        refine r_g5_0 hJ m791 dX5_ofNumber_24 ?_
        refine r_iload_n hJ dX5_ofNumber_27 rfl jg1 ?_
        refine r_S2v hJ kX5_43 (h5_isFree l E S x T (Or.inl rfl) (n := n) hn) dX5_ofNumber_28 ⟨by decide, by decide⟩ (Nat.le_of_ble_eq_true rfl) ?_
        refine r_if_eq hJ (tgt := 38) dX5_ofNumber_31 (by decide) (fun c31 => ?_) (fun c31 => ?_)
        · have c31 : mFree (T 1) n = false := bI_0.mp c31
          refine r_aload_n hJ dX5_ofNumber_38 rfl jg0 ?_
          refine r_g5_0 hJ m791 dX5_ofNumber_39 ?_
          refine r_iload_n hJ dX5_ofNumber_42 rfl jg3 ?_
          refine r_iload_n hJ dX5_ofNumber_43 rfl jg2 ?_
          refine r_iaddN hJ dX5_ofNumber_44 ?_
          refine r_iconst hJ (v := nI 1) dX5_ofNumber_45 (by decide) ?_
          refine r_isub hJ dX5_ofNumber_46 ?_
          have hq : nI ((32 + 12 * n) + 2) - nI 1 = nI ((32 + 12 * n) + 1) := nI_sub1 (by omega)
          refine r_ialdO hJ (by omega) (alM1 (by omega)) hq dX5_ofNumber_47 ?_
          exact ret_i hF dX5_ofNumber_48 (by simp [mNum, c31]) rfl
        · have c31 : mFree (T 1) n = true := bI_ne c31
          refine r_iconst hJ (v := (-1)) dX5_ofNumber_34 (by decide) ?_
          refine r_goto hJ (tgt := 48) dX5_ofNumber_35 (by decide) ?_
          exact ret_i hF dX5_ofNumber_48 (by simp [mNum, c31]) rfl
    · exact absurd c6 (by decide)
  · refine r_iload_n hJ dX5_ofNumber_0 rfl jg1 ?_
    refine r_S1v hJ kX5_40 (c5_row l E _ x n) dX5_ofNumber_1 ⟨by decide, by decide⟩ (Nat.le_of_ble_eq_true rfl) ?_
    refine r_istore_n hJ dX5_ofNumber_4 rfl (jp3 rfl rfl) ?_
    refine r_iload_n hJ dX5_ofNumber_5 rfl jg2 ?_
    refine r_if_ne hJ (tgt := 18) dX5_ofNumber_6 (by decide) (fun c6 => ?_) (fun c6 => ?_)
    · refine r_iload_n hJ dX5_ofNumber_18 rfl jg2 ?_
      refine r_iconst hJ (v := nI 5) dX5_ofNumber_19 (by decide) ?_
      refine r_icmp_ge hJ (tgt := 49) dX5_ofNumber_20 (by decide) (fun c20 => ?_) (fun c20 => ?_)
      · exact absurd c20 (by decide)
      · refine r_aload_n hJ dX5_ofNumber_23 rfl jg0 ?_
        refine r_g5_0 hJ m791 dX5_ofNumber_24 ?_
        refine r_iload_n hJ dX5_ofNumber_27 rfl jg1 ?_
        refine r_S2v hJ kX5_43 (h5_isFree l E S x T (Or.inl rfl) (n := n) hn) dX5_ofNumber_28 ⟨by decide, by decide⟩ (Nat.le_of_ble_eq_true rfl) ?_
        refine r_if_eq hJ (tgt := 38) dX5_ofNumber_31 (by decide) (fun c31 => ?_) (fun c31 => ?_)
        · have c31 : mFree (T 1) n = false := bI_0.mp c31
          refine r_aload_n hJ dX5_ofNumber_38 rfl jg0 ?_
          refine r_g5_0 hJ m791 dX5_ofNumber_39 ?_
          refine r_iload_n hJ dX5_ofNumber_42 rfl jg3 ?_
          refine r_iload_n hJ dX5_ofNumber_43 rfl jg2 ?_
          refine r_iaddN hJ dX5_ofNumber_44 ?_
          refine r_iconst hJ (v := nI 1) dX5_ofNumber_45 (by decide) ?_
          refine r_isub hJ dX5_ofNumber_46 ?_
          have hq : nI ((32 + 12 * n) + 3) - nI 1 = nI ((32 + 12 * n) + 2) := nI_sub1 (by omega)
          refine r_ialdO hJ (by omega) (alM1 (by omega)) hq dX5_ofNumber_47 ?_
          exact ret_i hF dX5_ofNumber_48 (by simp [mNum, c31]) rfl
        · have c31 : mFree (T 1) n = true := bI_ne c31
          refine r_iconst hJ (v := (-1)) dX5_ofNumber_34 (by decide) ?_
          refine r_goto hJ (tgt := 48) dX5_ofNumber_35 (by decide) ?_
          exact ret_i hF dX5_ofNumber_48 (by simp [mNum, c31]) rfl
    · exact absurd c6 (by decide)
  · refine r_iload_n hJ dX5_ofNumber_0 rfl jg1 ?_
    refine r_S1v hJ kX5_40 (c5_row l E _ x n) dX5_ofNumber_1 ⟨by decide, by decide⟩ (Nat.le_of_ble_eq_true rfl) ?_
    refine r_istore_n hJ dX5_ofNumber_4 rfl (jp3 rfl rfl) ?_
    refine r_iload_n hJ dX5_ofNumber_5 rfl jg2 ?_
    refine r_if_ne hJ (tgt := 18) dX5_ofNumber_6 (by decide) (fun c6 => ?_) (fun c6 => ?_)
    · refine r_iload_n hJ dX5_ofNumber_18 rfl jg2 ?_
      refine r_iconst hJ (v := nI 5) dX5_ofNumber_19 (by decide) ?_
      refine r_icmp_ge hJ (tgt := 49) dX5_ofNumber_20 (by decide) (fun c20 => ?_) (fun c20 => ?_)
      · exact absurd c20 (by decide)
      · refine r_aload_n hJ dX5_ofNumber_23 rfl jg0 ?_
        refine r_g5_0 hJ m791 dX5_ofNumber_24 ?_
        refine r_iload_n hJ dX5_ofNumber_27 rfl jg1 ?_
        refine r_S2v hJ kX5_43 (h5_isFree l E S x T (Or.inl rfl) (n := n) hn) dX5_ofNumber_28 ⟨by decide, by decide⟩ (Nat.le_of_ble_eq_true rfl) ?_
        refine r_if_eq hJ (tgt := 38) dX5_ofNumber_31 (by decide) (fun c31 => ?_) (fun c31 => ?_)
        · have c31 : mFree (T 1) n = false := bI_0.mp c31
          refine r_aload_n hJ dX5_ofNumber_38 rfl jg0 ?_
          refine r_g5_0 hJ m791 dX5_ofNumber_39 ?_
          refine r_iload_n hJ dX5_ofNumber_42 rfl jg3 ?_
          refine r_iload_n hJ dX5_ofNumber_43 rfl jg2 ?_
          refine r_iaddN hJ dX5_ofNumber_44 ?_
          refine r_iconst hJ (v := nI 1) dX5_ofNumber_45 (by decide) ?_
          refine r_isub hJ dX5_ofNumber_46 ?_
          have hq : nI ((32 + 12 * n) + 4) - nI 1 = nI ((32 + 12 * n) + 3) := nI_sub1 (by omega)
          refine r_ialdO hJ (by omega) (alM1 (by omega)) hq dX5_ofNumber_47 ?_
          exact ret_i hF dX5_ofNumber_48 (by simp [mNum, c31]) rfl
        · have c31 : mFree (T 1) n = true := bI_ne c31
          refine r_iconst hJ (v := (-1)) dX5_ofNumber_34 (by decide) ?_
          refine r_goto hJ (tgt := 48) dX5_ofNumber_35 (by decide) ?_
          exact ret_i hF dX5_ofNumber_48 (by simp [mNum, c31]) rfl
    · exact absurd c6 (by decide)
  · refine r_iload_n hJ dX5_ofNumber_0 rfl jg1 ?_
    refine r_S1v hJ kX5_40 (c5_row l E _ x n) dX5_ofNumber_1 ⟨by decide, by decide⟩ (Nat.le_of_ble_eq_true rfl) ?_
    refine r_istore_n hJ dX5_ofNumber_4 rfl (jp3 rfl rfl) ?_
    refine r_iload_n hJ dX5_ofNumber_5 rfl jg2 ?_
    refine r_if_ne hJ (tgt := 18) dX5_ofNumber_6 (by decide) (fun c6 => ?_) (fun c6 => ?_)
    · refine r_iload_n hJ dX5_ofNumber_18 rfl jg2 ?_
      refine r_iconst hJ (v := nI 5) dX5_ofNumber_19 (by decide) ?_
      refine r_icmp_ge hJ (tgt := 49) dX5_ofNumber_20 (by decide) (fun c20 => ?_) (fun c20 => ?_)
      · refine r_iload_n hJ dX5_ofNumber_49 rfl jg2 ?_
        refine r_iconst hJ (v := nI 5) dX5_ofNumber_50 (by decide) ?_
        refine r_icmp_eq hJ (tgt := 60) dX5_ofNumber_51 (by decide) (fun c51 => ?_) (fun c51 => ?_)
        · refine r_aload_n hJ dX5_ofNumber_60 rfl jg0 ?_
          refine r_g5_0 hJ m791 dX5_ofNumber_61 ?_
          refine r_iload_n hJ dX5_ofNumber_64 rfl jg2 ?_
          refine r_iconst hJ (v := nI 5) dX5_ofNumber_65 (by decide) ?_
          refine r_icmp_ne hJ (tgt := 75) dX5_ofNumber_66 (by decide) (fun c66 => ?_) (fun c66 => ?_)
          · exact absurd rfl c66
          · refine r_iload_n hJ dX5_ofNumber_69 rfl jg3 ?_
            refine r_iconst hJ (v := nI 5) dX5_ofNumber_70 (by decide) ?_
            refine r_iaddN hJ dX5_ofNumber_71 ?_
            refine r_goto hJ (tgt := 78) dX5_ofNumber_72 (by decide) ?_
            refine r_ialdO hJ (by omega) (alM1 (by omega)) rfl dX5_ofNumber_78 ?_
            exact ret_i hF dX5_ofNumber_79 (by simp [mNum]) rfl
        · exact absurd (by decide) c51
      · exact absurd (by decide) c20
    · exact absurd c6 (by decide)
  · refine r_iload_n hJ dX5_ofNumber_0 rfl jg1 ?_
    refine r_S1v hJ kX5_40 (c5_row l E _ x n) dX5_ofNumber_1 ⟨by decide, by decide⟩ (Nat.le_of_ble_eq_true rfl) ?_
    refine r_istore_n hJ dX5_ofNumber_4 rfl (jp3 rfl rfl) ?_
    refine r_iload_n hJ dX5_ofNumber_5 rfl jg2 ?_
    refine r_if_ne hJ (tgt := 18) dX5_ofNumber_6 (by decide) (fun c6 => ?_) (fun c6 => ?_)
    · refine r_iload_n hJ dX5_ofNumber_18 rfl jg2 ?_
      refine r_iconst hJ (v := nI 5) dX5_ofNumber_19 (by decide) ?_
      refine r_icmp_ge hJ (tgt := 49) dX5_ofNumber_20 (by decide) (fun c20 => ?_) (fun c20 => ?_)
      · refine r_iload_n hJ dX5_ofNumber_49 rfl jg2 ?_
        refine r_iconst hJ (v := nI 5) dX5_ofNumber_50 (by decide) ?_
        refine r_icmp_eq hJ (tgt := 60) dX5_ofNumber_51 (by decide) (fun c51 => ?_) (fun c51 => ?_)
        · exact absurd c51 (by decide)
        · refine r_iload_n hJ dX5_ofNumber_54 rfl jg2 ?_
          refine r_bipush hJ (v := nI 8) dX5_ofNumber_55 (by decide) ?_
          refine r_icmp_ne hJ (tgt := 80) dX5_ofNumber_57 (by decide) (fun c57 => ?_) (fun c57 => ?_)
          · refine r_aload_n hJ dX5_ofNumber_80 rfl jg0 ?_
            refine r_g5_0 hJ m791 dX5_ofNumber_81 ?_
            refine r_iload_n hJ dX5_ofNumber_84 rfl jg3 ?_
            refine r_iconst hJ (v := nI 5) dX5_ofNumber_85 (by decide) ?_
            refine r_iaddN hJ dX5_ofNumber_86 ?_
            refine r_ialdO hJ (by omega) (alM1 (by omega)) rfl dX5_ofNumber_87 ?_
            refine r_if_ne hJ (tgt := 95) dX5_ofNumber_88 (by decide) (fun c88 => ?_) (fun c88 => ?_)
            · refine r_aload_n hJ dX5_ofNumber_95 rfl jg0 ?_
              refine r_g5_0 hJ m791 dX5_ofNumber_96 ?_
              refine r_iload_n hJ dX5_ofNumber_99 rfl jg3 ?_
              refine r_bipush hJ (v := nI 6) dX5_ofNumber_100 (by decide) ?_
              refine r_iaddN hJ dX5_ofNumber_102 ?_
              refine r_iload_n hJ dX5_ofNumber_103 rfl jg2 ?_
              refine r_iaddN hJ dX5_ofNumber_104 ?_
              refine r_bipush hJ (v := nI 6) dX5_ofNumber_105 (by decide) ?_
              refine r_isub hJ dX5_ofNumber_107 ?_
              have hq : nI ((32 + 12 * n) + 6 + 6) - nI 6 = nI ((32 + 12 * n) + 6) := pk_sub (by omega)
              refine r_ialdO hJ (by omega) (alM1 (by omega)) hq dX5_ofNumber_108 ?_
              exact ret_i hF dX5_ofNumber_109 (by simp [mNum, c88]) rfl
            · refine r_iconst hJ (v := (-1)) dX5_ofNumber_91 (by decide) ?_
              refine r_goto hJ (tgt := 109) dX5_ofNumber_92 (by decide) ?_
              exact ret_i hF dX5_ofNumber_109 (by simp [mNum, c88]) rfl
          · exact absurd c57 (by decide)
      · exact absurd (by decide) c20
    · exact absurd c6 (by decide)
  · refine r_iload_n hJ dX5_ofNumber_0 rfl jg1 ?_
    refine r_S1v hJ kX5_40 (c5_row l E _ x n) dX5_ofNumber_1 ⟨by decide, by decide⟩ (Nat.le_of_ble_eq_true rfl) ?_
    refine r_istore_n hJ dX5_ofNumber_4 rfl (jp3 rfl rfl) ?_
    refine r_iload_n hJ dX5_ofNumber_5 rfl jg2 ?_
    refine r_if_ne hJ (tgt := 18) dX5_ofNumber_6 (by decide) (fun c6 => ?_) (fun c6 => ?_)
    · refine r_iload_n hJ dX5_ofNumber_18 rfl jg2 ?_
      refine r_iconst hJ (v := nI 5) dX5_ofNumber_19 (by decide) ?_
      refine r_icmp_ge hJ (tgt := 49) dX5_ofNumber_20 (by decide) (fun c20 => ?_) (fun c20 => ?_)
      · refine r_iload_n hJ dX5_ofNumber_49 rfl jg2 ?_
        refine r_iconst hJ (v := nI 5) dX5_ofNumber_50 (by decide) ?_
        refine r_icmp_eq hJ (tgt := 60) dX5_ofNumber_51 (by decide) (fun c51 => ?_) (fun c51 => ?_)
        · exact absurd c51 (by decide)
        · refine r_iload_n hJ dX5_ofNumber_54 rfl jg2 ?_
          refine r_bipush hJ (v := nI 8) dX5_ofNumber_55 (by decide) ?_
          refine r_icmp_ne hJ (tgt := 80) dX5_ofNumber_57 (by decide) (fun c57 => ?_) (fun c57 => ?_)
          · refine r_aload_n hJ dX5_ofNumber_80 rfl jg0 ?_
            refine r_g5_0 hJ m791 dX5_ofNumber_81 ?_
            refine r_iload_n hJ dX5_ofNumber_84 rfl jg3 ?_
            refine r_iconst hJ (v := nI 5) dX5_ofNumber_85 (by decide) ?_
            refine r_iaddN hJ dX5_ofNumber_86 ?_
            refine r_ialdO hJ (by omega) (alM1 (by omega)) rfl dX5_ofNumber_87 ?_
            refine r_if_ne hJ (tgt := 95) dX5_ofNumber_88 (by decide) (fun c88 => ?_) (fun c88 => ?_)
            · refine r_aload_n hJ dX5_ofNumber_95 rfl jg0 ?_
              refine r_g5_0 hJ m791 dX5_ofNumber_96 ?_
              refine r_iload_n hJ dX5_ofNumber_99 rfl jg3 ?_
              refine r_bipush hJ (v := nI 6) dX5_ofNumber_100 (by decide) ?_
              refine r_iaddN hJ dX5_ofNumber_102 ?_
              refine r_iload_n hJ dX5_ofNumber_103 rfl jg2 ?_
              refine r_iaddN hJ dX5_ofNumber_104 ?_
              refine r_bipush hJ (v := nI 6) dX5_ofNumber_105 (by decide) ?_
              refine r_isub hJ dX5_ofNumber_107 ?_
              have hq : nI ((32 + 12 * n) + 6 + 7) - nI 6 = nI ((32 + 12 * n) + 7) := pk_sub (by omega)
              refine r_ialdO hJ (by omega) (alM1 (by omega)) hq dX5_ofNumber_108 ?_
              exact ret_i hF dX5_ofNumber_109 (by simp [mNum, c88]) rfl
            · refine r_iconst hJ (v := (-1)) dX5_ofNumber_91 (by decide) ?_
              refine r_goto hJ (tgt := 109) dX5_ofNumber_92 (by decide) ?_
              exact ret_i hF dX5_ofNumber_109 (by simp [mNum, c88]) rfl
          · exact absurd c57 (by decide)
      · exact absurd (by decide) c20
    · exact absurd c6 (by decide)
  · refine r_iload_n hJ dX5_ofNumber_0 rfl jg1 ?_
    refine r_S1v hJ kX5_40 (c5_row l E _ x n) dX5_ofNumber_1 ⟨by decide, by decide⟩ (Nat.le_of_ble_eq_true rfl) ?_
    refine r_istore_n hJ dX5_ofNumber_4 rfl (jp3 rfl rfl) ?_
    refine r_iload_n hJ dX5_ofNumber_5 rfl jg2 ?_
    refine r_if_ne hJ (tgt := 18) dX5_ofNumber_6 (by decide) (fun c6 => ?_) (fun c6 => ?_)
    · refine r_iload_n hJ dX5_ofNumber_18 rfl jg2 ?_
      refine r_iconst hJ (v := nI 5) dX5_ofNumber_19 (by decide) ?_
      refine r_icmp_ge hJ (tgt := 49) dX5_ofNumber_20 (by decide) (fun c20 => ?_) (fun c20 => ?_)
      · refine r_iload_n hJ dX5_ofNumber_49 rfl jg2 ?_
        refine r_iconst hJ (v := nI 5) dX5_ofNumber_50 (by decide) ?_
        refine r_icmp_eq hJ (tgt := 60) dX5_ofNumber_51 (by decide) (fun c51 => ?_) (fun c51 => ?_)
        · exact absurd c51 (by decide)
        · refine r_iload_n hJ dX5_ofNumber_54 rfl jg2 ?_
          refine r_bipush hJ (v := nI 8) dX5_ofNumber_55 (by decide) ?_
          refine r_icmp_ne hJ (tgt := 80) dX5_ofNumber_57 (by decide) (fun c57 => ?_) (fun c57 => ?_)
          · exact absurd rfl c57
          · refine r_aload_n hJ dX5_ofNumber_60 rfl jg0 ?_
            refine r_g5_0 hJ m791 dX5_ofNumber_61 ?_
            refine r_iload_n hJ dX5_ofNumber_64 rfl jg2 ?_
            refine r_iconst hJ (v := nI 5) dX5_ofNumber_65 (by decide) ?_
            refine r_icmp_ne hJ (tgt := 75) dX5_ofNumber_66 (by decide) (fun c66 => ?_) (fun c66 => ?_)
            · refine r_iload_n hJ dX5_ofNumber_75 rfl jg3 ?_
              refine r_iconst hJ (v := nI 4) dX5_ofNumber_76 (by decide) ?_
              refine r_iaddN hJ dX5_ofNumber_77 ?_
              refine r_ialdO hJ (by omega) (alM1 (by omega)) rfl dX5_ofNumber_78 ?_
              exact ret_i hF dX5_ofNumber_79 (by simp [mNum]) rfl
            · exact absurd c66 (by decide)
      · exact absurd (by decide) c20
    · exact absurd c6 (by decide)

def mNumber (T : jO) (z : Nat) (n q : Int32) : Int32 × jO :=
  if witQ n (nI 0) (nI (z - 1)) = true then
    if witQ q (nI 0) (nI 8) = true then (mNum (T 1) (toN n) (toN q), thr T (nI 0)) else (nI 0, thr (thr T (nI 0)) (nI 2))
  else (nI 0, thr (thr T (nI 0)) (nI 1))
set_option maxRecDepth 100000 in
set_option maxHeartbeats 1000000 in
theorem c5_number (l : Launch) (E : jE) (S : jS) (x : jX) (T : jO) {z : Nat} (hM : MI (T 1) z) (n q : Int32) : Ct l E yX5_number cX5_number 3 (some .int) 5 [.ref (ad E 10 0), .int n, .int q] (setO S 10 T, x) (some (.int (mNumber T z n q).1)) (setO S 10 (mNumber T z n q).2, x) := by
  refine Ct.of (by decide +kernel) (Nat.le_refl _) (Nat.le_of_ble_eq_true rfl) rfl (fun J hJ hF => ?_)
  have hz := hM.1.1
  have hz6 := hM.1.2.2
  have hz4 := hM.1.2.1
  refine r_aload_n hJ dX5_number_0 rfl jg0 ?_
  refine r_iconst hJ (v := nI 0) dX5_number_1 (by decide) ?_
  refine r_p5_6 hJ m797 dX5_number_2 ?_
  refine r_aload_n hJ dX5_number_5 rfl jg0 ?_
  refine r_iload_n hJ dX5_number_6 rfl jg1 ?_
  refine r_V1v hJ kX5_97 (rcv5 E) (c5_isNumber l E S x (thr T (nI 0)) (z := z) (by omega) hz n) dX5_number_7 ⟨by decide, by decide⟩ (Nat.le_of_ble_eq_true rfl) ?_
  refine r_if_ne hJ (tgt := 19) dX5_number_10 (by decide) (fun c10 => ?_) (fun c10 => ?_)
  · have c10 : witQ n (nI 0) (nI (z - 1)) = true := bI_ne c10
    refine r_iload_n hJ dX5_number_19 rfl jg2 ?_
    refine r_iconst hJ (v := nI 0) dX5_number_20 (by decide) ?_
    refine r_bipush hJ (v := nI 8) dX5_number_21 (by decide) ?_
    refine r_S3v hJ kX5_29 (c5_in l E _ x q (nI 0) (nI 8)) dX5_number_23 ⟨by decide, by decide⟩ (Nat.le_of_ble_eq_true rfl) ?_
    refine r_if_eq hJ (tgt := 38) dX5_number_26 (by decide) (fun c26 => ?_) (fun c26 => ?_)
    · have c26 : witQ q (nI 0) (nI 8) = false := bI_0.mp c26
      refine r_aload_n hJ dX5_number_38 rfl jg0 ?_
      refine r_iconst hJ (v := nI 2) dX5_number_39 (by decide) ?_
      refine r_V1v hJ kX5_36 (rcv5 E) (c5_fails l E _ x _ (nI 2)) dX5_number_40 ⟨by decide, by decide⟩ (Nat.le_of_ble_eq_true rfl) ?_
      exact ret_i hF dX5_number_43 (by simp [mNumber, c10, c26, thr_1]) (by simp [mNumber, thr, c10, c26, thr_1])
    · have c26 : witQ q (nI 0) (nI 8) = true := bI_ne c26
      refine r_aload_n hJ dX5_number_29 rfl jg0 ?_
      refine r_iload_n hJ dX5_number_30 rfl jg1 ?_
      refine r_iload_n hJ dX5_number_31 rfl jg2 ?_
      obtain ⟨n1, n2⟩ := wit_N (by omega) c10
      obtain ⟨q1, q2⟩ := wit_N (by decide) c26
      have hon := c5_ofNumber l E S x (thr T (nI 0)) (n := toN n) (q := toN q) (by omega) q2
      rw [← n1, ← q1] at hon
      refine r_V2v hJ kX5_165 (rcv5 E) (hon) dX5_number_32 ⟨by decide, by decide⟩ (Nat.le_of_ble_eq_true rfl) ?_
      refine r_goto hJ (tgt := 43) dX5_number_35 (by decide) ?_
      exact ret_i hF dX5_number_43 (by simp [mNumber, c10, c26, thr_1]) (by simp [mNumber, thr, c10, c26, thr_1])
  · have c10 : witQ n (nI 0) (nI (z - 1)) = false := bI_0.mp c10
    refine r_aload_n hJ dX5_number_13 rfl jg0 ?_
    refine r_iconst hJ (v := nI 1) dX5_number_14 (by decide) ?_
    refine r_V1v hJ kX5_36 (rcv5 E) (c5_fails l E _ x _ (nI 1)) dX5_number_15 ⟨by decide, by decide⟩ (Nat.le_of_ble_eq_true rfl) ?_
    exact ret_i hF dX5_number_18 (by simp [mNumber, c10, thr_1]) (by simp [mNumber, thr, c10, thr_1])

def mSum (r : Nat → Int32) (a b : Nat) : Nat → Int32
  | 0 => nI 0
  | k + 1 => mSum r a b k + r (a + b * k)
set_option maxRecDepth 100000 in
set_option maxHeartbeats 1000000 in
theorem c5_sumOf (l : Launch) (E : jE) (S : jS) (x : jX) (T : jO) {a b m : Nat} (hm : m ≤ 64) (hlt : ∀ k, k < m → a + b * k < aln 10 1) : Ct l E yX5_sumOf cX5_sumOf 6 (some .int) 1 [.ref (ad E 10 0), .int (nI a), .int (nI b), .int (nI m)] (setO S 10 T, x) (some (.int (mSum (T 1) a b m))) (setO S 10 T, x) := by
  refine Ct.of (by decide +kernel) (Nat.le_refl _) (Nat.le_of_ble_eq_true rfl) rfl (fun J hJ hF => ?_)
  have loop : ∀ (k i : Nat), i + k = m → J (setO S 10 T, x) 6 [some (.ref (ad E 10 0)), some (.int (nI a)), some (.int (nI b)), some (.int (nI m)), some (.int (mSum (T 1) a b i)), some (.int (nI i))] [] := by
    intro k
    induction k with
    | zero =>
      intro i hi 
      obtain rfl : i = m := by omega
      refine r_iload hJ dX5_sumOf_6 jg5 ?_
      refine r_iload_n hJ dX5_sumOf_8 rfl jg3 ?_
      refine r_icmp_ge hJ (tgt := 34) dX5_sumOf_9 (by decide) (fun c9 => ?_) (fun c9 => ?_)
      · refine r_iload hJ dX5_sumOf_34 jg4 ?_
        exact ret_i hF dX5_sumOf_36 rfl rfl
      · exact absurd (nI_le (by omega) (by omega)) c9
    | succ k ih =>
      intro i hi 
      refine r_iload hJ dX5_sumOf_6 jg5 ?_
      refine r_iload_n hJ dX5_sumOf_8 rfl jg3 ?_
      refine r_icmp_ge hJ (tgt := 34) dX5_sumOf_9 (by decide) (fun c9 => ?_) (fun c9 => ?_)
      · exact absurd c9 (nI_ge (by omega) (by omega))
      · refine r_iload hJ dX5_sumOf_12 jg4 ?_
        refine r_aload_n hJ dX5_sumOf_14 rfl jg0 ?_
        refine r_g5_0 hJ m791 dX5_sumOf_15 ?_
        refine r_iload_n hJ dX5_sumOf_18 rfl jg1 ?_
        refine r_iload_n hJ dX5_sumOf_19 rfl jg2 ?_
        refine r_iload hJ dX5_sumOf_20 jg5 ?_
        refine r_imulN hJ dX5_sumOf_22 ?_
        refine r_iaddN hJ dX5_sumOf_23 ?_
        refine r_ialdO hJ (by omega) (hlt i (by omega)) rfl dX5_sumOf_24 ?_
        refine r_iadd hJ dX5_sumOf_25 ?_
        refine r_istore hJ dX5_sumOf_26 (jp4 rfl rfl) ?_
        refine r_iinc hJ dX5_sumOf_28 jg5 (ii1 _) (jp5 rfl rfl) ?_
        refine r_goto hJ (tgt := 6) dX5_sumOf_31 (by decide) ?_
        exact ih (i + 1) (by omega)
  refine r_iconst hJ (v := nI 0) dX5_sumOf_0 (by decide) ?_
  refine r_istore hJ dX5_sumOf_1 (jp4 rfl rfl) ?_
  refine r_iconst hJ (v := nI 0) dX5_sumOf_3 (by decide) ?_
  refine r_istore hJ dX5_sumOf_4 (jp5 rfl rfl) ?_
  exact loop m 0 (by omega)

def mSetting (T : jO) (s : Int32) : Int32 × jO := if witQ s (nI 0) (nI 3) = true then (T 1 (1 + toN s), thr T (nI 0)) else (nI 0, thr (thr T (nI 0)) (nI 1))
set_option maxRecDepth 100000 in
set_option maxHeartbeats 1000000 in
theorem c5_setting (l : Launch) (E : jE) (S : jS) (x : jX) (T : jO) (s : Int32) : Ct l E yX5_setting cX5_setting 2 (some .int) 2 [.ref (ad E 10 0), .int s] (setO S 10 T, x) (some (.int (mSetting T s).1)) (setO S 10 (mSetting T s).2, x) := by
  refine Ct.of (by decide +kernel) (Nat.le_refl _) (Nat.le_of_ble_eq_true rfl) rfl (fun J hJ hF => ?_)
  refine r_aload_n hJ dX5_setting_0 rfl jg0 ?_
  refine r_iconst hJ (v := nI 0) dX5_setting_1 (by decide) ?_
  refine r_p5_6 hJ m797 dX5_setting_2 ?_
  refine r_iload_n hJ dX5_setting_5 rfl jg1 ?_
  refine r_iconst hJ (v := nI 0) dX5_setting_6 (by decide) ?_
  refine r_iconst hJ (v := nI 3) dX5_setting_7 (by decide) ?_
  refine r_S3v hJ kX5_29 (c5_in l E _ x s (nI 0) (nI 3)) dX5_setting_8 ⟨by decide, by decide⟩ (Nat.le_of_ble_eq_true rfl) ?_
  refine r_if_eq hJ (tgt := 25) dX5_setting_11 (by decide) (fun c11 => ?_) (fun c11 => ?_)
  · have c11 : witQ s (nI 0) (nI 3) = false := bI_0.mp c11
    refine r_aload_n hJ dX5_setting_25 rfl jg0 ?_
    refine r_iconst hJ (v := nI 1) dX5_setting_26 (by decide) ?_
    refine r_V1v hJ kX5_36 (rcv5 E) (c5_fails l E _ x _ (nI 1)) dX5_setting_27 ⟨by decide, by decide⟩ (Nat.le_of_ble_eq_true rfl) ?_
    exact ret_i hF dX5_setting_30 (by simp [mSetting, c11, put_01]) (by simp [mSetting, thr, c11, put_01])
  · have c11 : witQ s (nI 0) (nI 3) = true := bI_ne c11
    refine r_aload_n hJ dX5_setting_14 rfl jg0 ?_
    refine r_g5_0 hJ m791 dX5_setting_15 ?_
    refine r_iconst hJ (v := nI 1) dX5_setting_18 (by decide) ?_
    refine r_iload_n hJ dX5_setting_19 rfl jg1 ?_
    refine r_iadd hJ dX5_setting_20 ?_
    obtain ⟨e1, e2⟩ := wit_N (by decide) c11
    have ex : nI 1 + s = nI (1 + toN s) := (congrArg (nI 1 + ·) e1).trans (nI_add _ _)
    refine r_ialdO hJ (by omega) (alM1 (by omega)) ex dX5_setting_21 ?_
    refine r_goto hJ (tgt := 30) dX5_setting_22 (by decide) ?_
    exact ret_i hF dX5_setting_30 (by simp [mSetting, c11, put_01]) (by simp [mSetting, thr, c11, put_01])

theorem MI_cpy {p r : Nat → Int32} {z : Nat} (h : MI r z) : MI (cpy p r 800) z := by
  have e : ∀ q, q < 800 → cpy p r 800 q = r q := fun q hq => by unfold cpy; rw [if_pos hq]
  exact MI_of (e _ (by decide)) (fun n hn => ⟨e _ (by omega), e _ (by omega), fun k hk => e _ (by omega)⟩) h
def thn (T : jO) : Nat → Int32 := cpy (T 2) (T 1) 800
def mTks (z : Nat) : Nat → (Nat → Int32) → (Nat → Int32)
  | 0, r => r
  | k + 1, r => mTks z k (mTick r z)
def mFrL (z : Nat) (m : Int32) : Nat → Nat → (Nat → Int32) → (Nat → Int32) × Nat
  | 0, i, r => (r, i)
  | k + 1, i, r => if nI (cnt (fun n => decide (mStg r n = nI 0)) z) < m then mFrL z m k (i + 1) (mTick r z) else (r, i)
def mFrV (z : Nat) (m : Int32) (F : (Nat → Int32) × Nat) : Int32 := if nI (cnt (fun n => decide (mStg F.1 n = nI 0)) z) < m then -1 else nI F.2
def mWiL (z : Nat) (h : Int32) (n : Nat) : Nat → Nat → (Nat → Int32) → (Nat → Int32) × Nat
  | 0, i, r => (r, i)
  | k + 1, i, r => if r ((32 + 12 * n)) = h then (r, i) else mWiL z h n k (i + 1) (mTick r z)
set_option maxRecDepth 100000 in
set_option maxHeartbeats 1000000 in
theorem c5_whoThen (l : Launch) (E : jE) (S : jS) (x : jX) (T : jO) {z : Nat} (hM : MI (T 1) z) {n b : Nat} (hn : n < 64) (hb : b ≤ 500) : Ct l E yX5_whoThen cX5_whoThen 4 (some .int) 6 [.ref (ad E 10 0), .int (nI n), .int (nI b)] (setO S 10 T, x) (some (.int (mTks z b (thn T) ((32 + 12 * n))))) (setO S 10 (putA T 2 (mTks z b (thn T))), x) := by
  refine Ct.of (by decide +kernel) (Nat.le_refl _) (Nat.le_of_ble_eq_true rfl) rfl (fun J hJ hF => ?_)
  have hz := hM.1.1
  have hz6 := hM.1.2.2
  have hz4 := hM.1.2.1
  have loop : ∀ (k i : Nat) (r' : Nat → Int32), i + k = b → MI r' z → mTks z k r' = mTks z b (thn T) → J (setO S 10 (putA T 2 r'), x) 6 [some (.ref (ad E 10 0)), some (.int (nI n)), some (.int (nI b)), some (.int (nI i))] [] := by
    intro k
    induction k with
    | zero =>
      intro i r' hi hM' he
      obtain rfl : i = b := by omega
      refine r_iload_n hJ dX5_whoThen_6 rfl jg3 ?_
      refine r_iload_n hJ dX5_whoThen_7 rfl jg2 ?_
      refine r_icmp_ge hJ (tgt := 25) dX5_whoThen_8 (by decide) (fun c8 => ?_) (fun c8 => ?_)
      · refine r_aload_n hJ dX5_whoThen_25 rfl jg0 ?_
        refine r_g5_1 hJ m792 dX5_whoThen_26 ?_
        refine r_iload_n hJ dX5_whoThen_29 rfl jg1 ?_
        refine r_S1v hJ kX5_40 (c5_row l E _ x n) dX5_whoThen_30 ⟨by decide, by decide⟩ (Nat.le_of_ble_eq_true rfl) ?_
        refine r_ialdA hJ (alM2 (by omega)) rfl dX5_whoThen_33 ?_
        exact ret_i hF dX5_whoThen_34 (by rw [← he]; rfl) (by rw [← he]; rfl)
      · exact absurd (nI_le (by omega) (by omega)) c8
    | succ k ih =>
      intro i r' hi hM' he
      refine r_iload_n hJ dX5_whoThen_6 rfl jg3 ?_
      refine r_iload_n hJ dX5_whoThen_7 rfl jg2 ?_
      refine r_icmp_ge hJ (tgt := 25) dX5_whoThen_8 (by decide) (fun c8 => ?_) (fun c8 => ?_)
      · exact absurd c8 (nI_ge (by omega) (by omega))
      · refine r_aload_n hJ dX5_whoThen_11 rfl jg0 ?_
        refine r_g5_1 hJ m792 dX5_whoThen_12 ?_
        refine r_S1v hJ kX5_111 (c5_passes l E S x T (Or.inr rfl) r' hM') dX5_whoThen_15 ⟨by decide, by decide⟩ (Nat.le_of_ble_eq_true rfl) ?_
        refine r_pop hJ dX5_whoThen_18 rfl ?_
        refine r_iinc hJ dX5_whoThen_19 jg3 (ii1 _) (jp3 rfl rfl) ?_
        refine r_goto hJ (tgt := 6) dX5_whoThen_22 (by decide) ?_
        exact ih (i + 1) _ (by omega) (MI_tick hM') he
  refine r_aload_n hJ dX5_whoThen_0 rfl jg0 ?_
  refine r_V0u hJ kX5_183 (rcv5 E) (c5_tries l E S x T) dX5_whoThen_1 ⟨by decide, by decide⟩ (Nat.le_of_ble_eq_true rfl) ?_
  refine r_iconst hJ (v := nI 0) dX5_whoThen_4 (by decide) ?_
  refine r_istore_n hJ dX5_whoThen_5 rfl (jp3 rfl rfl) ?_
  exact loop b 0 (thn T) (by omega) (MI_cpy hM) rfl

def mWho (T : jO) (z : Nat) (n b : Int32) : Int32 × jO :=
  if witQ n (nI 0) (nI (z - 1)) = true then
    if witQ b (nI 0) (nI 500) = true then (mTks z (toN b) (thn T) ((32 + 12 * (toN n))), putA (thr T (nI 0)) 2 (mTks z (toN b) (thn T))) else (nI 0, thr (thr T (nI 0)) (nI 2))
  else (nI 0, thr (thr T (nI 0)) (nI 1))
set_option maxRecDepth 100000 in
set_option maxHeartbeats 1000000 in
theorem c5_whoAfter (l : Launch) (E : jE) (S : jS) (x : jX) (T : jO) {z : Nat} (hM : MI (T 1) z) (n b : Int32) : Ct l E yX5_whoAfter cX5_whoAfter 3 (some .int) 7 [.ref (ad E 10 0), .int n, .int b] (setO S 10 T, x) (some (.int (mWho T z n b).1)) (setO S 10 (mWho T z n b).2, x) := by
  refine Ct.of (by decide +kernel) (Nat.le_refl _) (Nat.le_of_ble_eq_true rfl) rfl (fun J hJ hF => ?_)
  have hz := hM.1.1
  have hz6 := hM.1.2.2
  have hz4 := hM.1.2.1
  refine r_aload_n hJ dX5_whoAfter_0 rfl jg0 ?_
  refine r_iconst hJ (v := nI 0) dX5_whoAfter_1 (by decide) ?_
  refine r_p5_6 hJ m797 dX5_whoAfter_2 ?_
  refine r_aload_n hJ dX5_whoAfter_5 rfl jg0 ?_
  refine r_iload_n hJ dX5_whoAfter_6 rfl jg1 ?_
  refine r_V1v hJ kX5_97 (rcv5 E) (c5_isNumber l E S x (thr T (nI 0)) (z := z) (by omega) hz n) dX5_whoAfter_7 ⟨by decide, by decide⟩ (Nat.le_of_ble_eq_true rfl) ?_
  refine r_if_ne hJ (tgt := 19) dX5_whoAfter_10 (by decide) (fun c10 => ?_) (fun c10 => ?_)
  · have c10 : witQ n (nI 0) (nI (z - 1)) = true := bI_ne c10
    refine r_iload_n hJ dX5_whoAfter_19 rfl jg2 ?_
    refine r_iconst hJ (v := nI 0) dX5_whoAfter_20 (by decide) ?_
    refine r_sipush hJ (v := nI 500) dX5_whoAfter_21 (by decide) ?_
    refine r_S3v hJ kX5_29 (c5_in l E _ x b (nI 0) (nI 500)) dX5_whoAfter_24 ⟨by decide, by decide⟩ (Nat.le_of_ble_eq_true rfl) ?_
    refine r_if_eq hJ (tgt := 39) dX5_whoAfter_27 (by decide) (fun c27 => ?_) (fun c27 => ?_)
    · have c27 : witQ b (nI 0) (nI 500) = false := bI_0.mp c27
      refine r_aload_n hJ dX5_whoAfter_39 rfl jg0 ?_
      refine r_iconst hJ (v := nI 2) dX5_whoAfter_40 (by decide) ?_
      refine r_V1v hJ kX5_36 (rcv5 E) (c5_fails l E _ x _ (nI 2)) dX5_whoAfter_41 ⟨by decide, by decide⟩ (Nat.le_of_ble_eq_true rfl) ?_
      exact ret_i hF dX5_whoAfter_44 (by simp [mWho, c10, c27]) (by simp [mWho, thr, c10, c27])
    · have c27 : witQ b (nI 0) (nI 500) = true := bI_ne c27
      refine r_aload_n hJ dX5_whoAfter_30 rfl jg0 ?_
      refine r_iload_n hJ dX5_whoAfter_31 rfl jg1 ?_
      refine r_iload_n hJ dX5_whoAfter_32 rfl jg2 ?_
      obtain ⟨n1, n2⟩ := wit_N (by omega) c10
      obtain ⟨q1, q2⟩ := wit_N (by decide) c27
      have hon := c5_whoThen l E S x (thr T (nI 0)) hM (n := toN n) (b := toN b) (by omega) q2
      rw [← n1, ← q1, show thn (thr T (nI 0)) = thn T from rfl] at hon
      refine r_V2v hJ kX5_186 (rcv5 E) (hon) dX5_whoAfter_33 ⟨by decide, by decide⟩ (Nat.le_of_ble_eq_true rfl) ?_
      refine r_goto hJ (tgt := 44) dX5_whoAfter_36 (by decide) ?_
      exact ret_i hF dX5_whoAfter_44 (by simp [mWho, c10, c27]) (by simp [mWho, thr, c10, c27])
  · have c10 : witQ n (nI 0) (nI (z - 1)) = false := bI_0.mp c10
    refine r_aload_n hJ dX5_whoAfter_13 rfl jg0 ?_
    refine r_iconst hJ (v := nI 1) dX5_whoAfter_14 (by decide) ?_
    refine r_V1v hJ kX5_36 (rcv5 E) (c5_fails l E _ x _ (nI 1)) dX5_whoAfter_15 ⟨by decide, by decide⟩ (Nat.le_of_ble_eq_true rfl) ?_
    exact ret_i hF dX5_whoAfter_18 (by simp [mWho, c10]) (by simp [mWho, thr, c10])

set_option maxRecDepth 100000 in
set_option maxHeartbeats 1000000 in
theorem c5_freeThen (l : Launch) (E : jE) (S : jS) (x : jX) (T : jO) {z : Nat} (hM : MI (T 1) z) (m : Int32) : Ct l E yX5_freeThen cX5_freeThen 3 (some .int) 6 [.ref (ad E 10 0), .int m] (setO S 10 T, x) (some (.int (mFrV z m (mFrL z m 500 0 (thn T))))) (setO S 10 (putA T 2 (mFrL z m 500 0 (thn T)).1), x) := by
  refine Ct.of (by decide +kernel) (Nat.le_refl _) (Nat.le_of_ble_eq_true rfl) rfl (fun J hJ hF => ?_)
  have hz := hM.1.1
  have hz6 := hM.1.2.2
  have hz4 := hM.1.2.1
  have fin : ∀ (r' : Nat → Int32) (i : Nat), MI r' z → (r', i) = mFrL z m 500 0 (thn T) → J (setO S 10 (putA T 2 r'), x) 39 [some (.ref (ad E 10 0)), some (.int m), some (.int (nI i))] [] := by
    intro r' i hM' he
    refine r_aload_n hJ dX5_freeThen_39 rfl jg0 ?_
    refine r_g5_1 hJ m792 dX5_freeThen_40 ?_
    refine r_iconst hJ (v := nI 0) dX5_freeThen_43 (by decide) ?_
    refine r_S2v hJ kX5_174 (c5_atStage l E S x T (Or.inr rfl) r' hM'.1.1 hM'.1.2.2 (nI 0)) dX5_freeThen_44 ⟨by decide, by decide⟩ (Nat.le_of_ble_eq_true rfl) ?_
    refine r_iload_n hJ dX5_freeThen_47 rfl jg1 ?_
    refine r_icmp_ge hJ (tgt := 55) dX5_freeThen_48 (by decide) (fun c48 => ?_) (fun c48 => ?_)
    · have c48 := Int32.not_lt.mpr c48
      refine r_iload_n hJ dX5_freeThen_55 rfl jg2 ?_
      exact ret_i hF dX5_freeThen_56 (by rw [← he]; simp only [mFrV, c48, if_true, if_false] <;> rfl) (by rw [← he])
    · have c48 := Int32.not_le.mp c48
      refine r_iconst hJ (v := (-1)) dX5_freeThen_51 (by decide) ?_
      refine r_goto hJ (tgt := 56) dX5_freeThen_52 (by decide) ?_
      exact ret_i hF dX5_freeThen_56 (by rw [← he]; simp only [mFrV, c48, if_true, if_false] <;> rfl) (by rw [← he])
  have loop : ∀ (k i : Nat) (r' : Nat → Int32), i + k = 500 → MI r' z → mFrL z m k i r' = mFrL z m 500 0 (thn T) → J (setO S 10 (putA T 2 r'), x) 6 [some (.ref (ad E 10 0)), some (.int m), some (.int (nI i))] [] := by
    intro k
    induction k with
    | zero =>
      intro i r' hi hM' he
      obtain rfl : i = 500 := by omega
      refine r_iload_n hJ dX5_freeThen_6 rfl jg2 ?_
      refine r_sipush hJ (v := nI 500) dX5_freeThen_7 (by decide) ?_
      refine r_icmp_ge hJ (tgt := 39) dX5_freeThen_10 (by decide) (fun c10 => ?_) (fun c10 => ?_)
      · exact fin _ _ hM' he
      · exact absurd (nI_le (by omega) (by omega)) c10
    | succ k ih =>
      intro i r' hi hM' he
      refine r_iload_n hJ dX5_freeThen_6 rfl jg2 ?_
      refine r_sipush hJ (v := nI 500) dX5_freeThen_7 (by decide) ?_
      refine r_icmp_ge hJ (tgt := 39) dX5_freeThen_10 (by decide) (fun c10 => ?_) (fun c10 => ?_)
      · exact absurd c10 (nI_ge (by omega) (by omega))
      · refine r_aload_n hJ dX5_freeThen_13 rfl jg0 ?_
        refine r_g5_1 hJ m792 dX5_freeThen_14 ?_
        refine r_iconst hJ (v := nI 0) dX5_freeThen_17 (by decide) ?_
        refine r_S2v hJ kX5_174 (c5_atStage l E S x T (Or.inr rfl) r' hM'.1.1 hM'.1.2.2 (nI 0)) dX5_freeThen_18 ⟨by decide, by decide⟩ (Nat.le_of_ble_eq_true rfl) ?_
        refine r_iload_n hJ dX5_freeThen_21 rfl jg1 ?_
        refine r_icmp_ge hJ (tgt := 39) dX5_freeThen_22 (by decide) (fun c22 => ?_) (fun c22 => ?_)
        · have c22 := Int32.not_lt.mpr c22
          rw [mFrL, if_neg c22] at he
          exact fin _ _ hM' he
        · have c22 := Int32.not_le.mp c22
          rw [mFrL, if_pos c22] at he
          refine r_aload_n hJ dX5_freeThen_25 rfl jg0 ?_
          refine r_g5_1 hJ m792 dX5_freeThen_26 ?_
          refine r_S1v hJ kX5_111 (c5_passes l E S x T (Or.inr rfl) r' hM') dX5_freeThen_29 ⟨by decide, by decide⟩ (Nat.le_of_ble_eq_true rfl) ?_
          refine r_pop hJ dX5_freeThen_32 rfl ?_
          refine r_iinc hJ dX5_freeThen_33 jg2 (ii1 _) (jp2 rfl rfl) ?_
          refine r_goto hJ (tgt := 6) dX5_freeThen_36 (by decide) ?_
          exact ih (i + 1) _ (by omega) (MI_tick hM') he
  refine r_aload_n hJ dX5_freeThen_0 rfl jg0 ?_
  refine r_V0u hJ kX5_183 (rcv5 E) (c5_tries l E S x T) dX5_freeThen_1 ⟨by decide, by decide⟩ (Nat.le_of_ble_eq_true rfl) ?_
  refine r_iconst hJ (v := nI 0) dX5_freeThen_4 (by decide) ?_
  refine r_istore_n hJ dX5_freeThen_5 rfl (jp2 rfl rfl) ?_
  exact loop 500 0 (thn T) (by omega) (MI_cpy hM) rfl

def mFreeIn (T : jO) (z : Nat) (m : Int32) : Int32 × jO :=
  if witQ m (nI 1) (nI 64) = true then (mFrV z m (mFrL z m 500 0 (thn T)), putA (thr T (nI 0)) 2 (mFrL z m 500 0 (thn T)).1) else (nI 0, thr (thr T (nI 0)) (nI 1))
set_option maxRecDepth 100000 in
set_option maxHeartbeats 1000000 in
theorem c5_freeIn (l : Launch) (E : jE) (S : jS) (x : jX) (T : jO) {z : Nat} (hM : MI (T 1) z) (m : Int32) : Ct l E yX5_freeIn cX5_freeIn 2 (some .int) 7 [.ref (ad E 10 0), .int m] (setO S 10 T, x) (some (.int (mFreeIn T z m).1)) (setO S 10 (mFreeIn T z m).2, x) := by
  refine Ct.of (by decide +kernel) (Nat.le_refl _) (Nat.le_of_ble_eq_true rfl) rfl (fun J hJ hF => ?_)
  have hz := hM.1.1
  have hz6 := hM.1.2.2
  have hz4 := hM.1.2.1
  refine r_aload_n hJ dX5_freeIn_0 rfl jg0 ?_
  refine r_iconst hJ (v := nI 0) dX5_freeIn_1 (by decide) ?_
  refine r_p5_6 hJ m797 dX5_freeIn_2 ?_
  refine r_iload_n hJ dX5_freeIn_5 rfl jg1 ?_
  refine r_iconst hJ (v := nI 1) dX5_freeIn_6 (by decide) ?_
  refine r_bipush hJ (v := nI 64) dX5_freeIn_7 (by decide) ?_
  refine r_S3v hJ kX5_29 (c5_in l E _ x m (nI 1) (nI 64)) dX5_freeIn_9 ⟨by decide, by decide⟩ (Nat.le_of_ble_eq_true rfl) ?_
  refine r_if_eq hJ (tgt := 23) dX5_freeIn_12 (by decide) (fun c12 => ?_) (fun c12 => ?_)
  · have c12 : witQ m (nI 1) (nI 64) = false := bI_0.mp c12
    refine r_aload_n hJ dX5_freeIn_23 rfl jg0 ?_
    refine r_iconst hJ (v := nI 1) dX5_freeIn_24 (by decide) ?_
    refine r_V1v hJ kX5_36 (rcv5 E) (c5_fails l E _ x _ (nI 1)) dX5_freeIn_25 ⟨by decide, by decide⟩ (Nat.le_of_ble_eq_true rfl) ?_
    exact ret_i hF dX5_freeIn_28 (by simp [mFreeIn, c12]) (by simp [mFreeIn, thr, c12])
  · have c12 : witQ m (nI 1) (nI 64) = true := bI_ne c12
    refine r_aload_n hJ dX5_freeIn_15 rfl jg0 ?_
    refine r_iload_n hJ dX5_freeIn_16 rfl jg1 ?_
    have hon := c5_freeThen l E S x (thr T (nI 0)) hM m
    rw [show thn (thr T (nI 0)) = thn T from rfl] at hon
    refine r_V1v hJ kX5_189 (rcv5 E) (hon) dX5_freeIn_17 ⟨by decide, by decide⟩ (Nat.le_of_ble_eq_true rfl) ?_
    refine r_goto hJ (tgt := 28) dX5_freeIn_20 (by decide) ?_
    exact ret_i hF dX5_freeIn_28 (by simp [mFreeIn, c12]) (by simp [mFreeIn, thr, c12])

def mWisV (T : jO) (z : Nat) (h : Int32) (n : Nat) : Int32 × jO :=
  if T 1 ((32 + 12 * n)) = h then (nI 0, T)
  else if mMayW (T 1) z h n = true then
    if mFree (T 1) n = true then (nI 0, T)
    else
      let F := mWiL z h n 500 0 (mWaits (thn T) n (toN (T 1 ((32 + 12 * n) + 5))) (toN h) (nI 1))
      (if F.1 ((32 + 12 * n)) = h then nI F.2 else -1, putA T 2 F.1)
  else (-1, T)
set_option maxRecDepth 100000 in
set_option maxHeartbeats 1000000 in
theorem c5_wishedThen (l : Launch) (E : jE) (S : jS) (x : jX) (T : jO) {z : Nat} (hM : MI (T 1) z) {n : Nat} (hn : n < 64) (h : Int32) (hh : witQ h (nI 0) (nI 7) = true) : Ct l E yX5_wishedThen cX5_wishedThen 4 (some .int) 6 [.ref (ad E 10 0), .int h, .int (nI n)] (setO S 10 T, x) (some (.int (mWisV T z h n).1)) (setO S 10 (mWisV T z h n).2, x) := by
  refine Ct.of (by decide +kernel) (Nat.le_refl _) (Nat.le_of_ble_eq_true rfl) rfl (fun J hJ hF => ?_)
  have hz := hM.1.1
  have hz6 := hM.1.2.2
  have hz4 := hM.1.2.1
  refine r_aload_n hJ dX5_wishedThen_0 rfl jg0 ?_
  refine r_g5_0 hJ m791 dX5_wishedThen_1 ?_
  refine r_iload_n hJ dX5_wishedThen_4 rfl jg2 ?_
  refine r_S1v hJ kX5_40 (c5_row l E _ x n) dX5_wishedThen_5 ⟨by decide, by decide⟩ (Nat.le_of_ble_eq_true rfl) ?_
  refine r_ialdO hJ (by omega) (alM1 (by omega)) rfl dX5_wishedThen_8 ?_
  refine r_iload_n hJ dX5_wishedThen_9 rfl jg1 ?_
  refine r_icmp_ne hJ (tgt := 15) dX5_wishedThen_10 (by decide) (fun c10 => ?_) (fun c10 => ?_)
  · have c10 : ¬ T 1 ((32 + 12 * n)) = h := c10
    refine r_aload_n hJ dX5_wishedThen_15 rfl jg0 ?_
    refine r_iload_n hJ dX5_wishedThen_16 rfl jg1 ?_
    refine r_iload_n hJ dX5_wishedThen_17 rfl jg2 ?_
    refine r_V2v hJ kX5_100 (rcv5 E) (c5_mayWish l E S x T hM (n := n) hn h) dX5_wishedThen_18 ⟨by decide, by decide⟩ (Nat.le_of_ble_eq_true rfl) ?_
    refine r_if_ne hJ (tgt := 26) dX5_wishedThen_21 (by decide) (fun c21 => ?_) (fun c21 => ?_)
    · have c21 : mMayW (T 1) z h n = true := bI_ne c21
      refine r_aload_n hJ dX5_wishedThen_26 rfl jg0 ?_
      refine r_g5_0 hJ m791 dX5_wishedThen_27 ?_
      refine r_iload_n hJ dX5_wishedThen_30 rfl jg2 ?_
      refine r_S2v hJ kX5_43 (h5_isFree l E S x T (Or.inl rfl) (n := n) hn) dX5_wishedThen_31 ⟨by decide, by decide⟩ (Nat.le_of_ble_eq_true rfl) ?_
      refine r_if_eq hJ (tgt := 39) dX5_wishedThen_34 (by decide) (fun c34 => ?_) (fun c34 => ?_)
      · have c34 : mFree (T 1) n = false := bI_0.mp c34
        refine r_aload_n hJ dX5_wishedThen_39 rfl jg0 ?_
        refine r_V0u hJ kX5_183 (rcv5 E) (c5_tries l E S x T) dX5_wishedThen_40 ⟨by decide, by decide⟩ (Nat.le_of_ble_eq_true rfl) ?_
        refine r_aload_n hJ dX5_wishedThen_43 rfl jg0 ?_
        refine r_g5_1 hJ m792 dX5_wishedThen_44 ?_
        refine r_iload_n hJ dX5_wishedThen_47 rfl jg2 ?_
        refine r_iload_n hJ dX5_wishedThen_48 rfl jg1 ?_
        refine r_iconst hJ (v := nI 1) dX5_wishedThen_49 (by decide) ?_
        obtain ⟨-, w, hw, hQ⟩ := hM.2 n hn
        obtain ⟨e1, e2⟩ := wit_N (by decide) hh
        have hwq := mQ_uniq hw hQ
        have hw3 := mMayW_3 hw hQ c21 c34
        rw [hwq] at hw3
        have hQ0 : mQ (thn T) n w := mQ_of (by unfold thn cpy; rw [if_pos (by omega)]) (fun k hk => by unfold thn cpy; rw [if_pos (by omega)]) hw hQ
        have hwa := c5_waits l E S x T (Or.inr rfl) (thn T) (n := n) (h := toN h) hn hw3 hQ0.1 (nI 1)
        rw [← e1] at hwa
        refine r_S4u hJ kX5_94 (hwa) dX5_wishedThen_50 ⟨by decide, by decide⟩ (Nat.le_of_ble_eq_true rfl) ?_
        refine r_iconst hJ (v := nI 0) dX5_wishedThen_53 (by decide) ?_
        refine r_istore_n hJ dX5_wishedThen_54 rfl (jp3 rfl rfl) ?_
        obtain ⟨F, hFF⟩ : ∃ F, mWiL z h n 500 0 (mWaits (thn T) n (toN (T 1 ((32 + 12 * n) + 5))) (toN h) (nI 1)) = F := ⟨_, rfl⟩
        have hres : mWisV T z h n = (if F.1 ((32 + 12 * n)) = h then nI F.2 else -1, putA T 2 F.1) := by
          unfold mWisV
          rw [if_neg c10, if_pos c21, if_neg (by rw [c34]; decide), hFF]
        have fin : ∀ (r' : Nat → Int32) (i : Nat), (r', i) = F → J (setO S 10 (putA T 2 r'), x) 89 [some (.ref (ad E 10 0)), some (.int h), some (.int (nI n)), some (.int (nI i))] [] := by
          intro r' i he
          refine r_aload_n hJ dX5_wishedThen_89 rfl jg0 ?_
          refine r_g5_1 hJ m792 dX5_wishedThen_90 ?_
          refine r_iload_n hJ dX5_wishedThen_93 rfl jg2 ?_
          refine r_S1v hJ kX5_40 (c5_row l E _ x n) dX5_wishedThen_94 ⟨by decide, by decide⟩ (Nat.le_of_ble_eq_true rfl) ?_
          refine r_ialdA hJ (alM2 (by omega)) rfl dX5_wishedThen_97 ?_
          refine r_iload_n hJ dX5_wishedThen_98 rfl jg1 ?_
          refine r_icmp_ne hJ (tgt := 106) dX5_wishedThen_99 (by decide) (fun c99 => ?_) (fun c99 => ?_)
          · have c99 : ¬ r' ((32 + 12 * n)) = h := c99
            refine r_iconst hJ (v := (-1)) dX5_wishedThen_106 (by decide) ?_
            exact ret_i hF dX5_wishedThen_107 (by rw [hres, ← he]; simp [c99]) (by rw [hres, ← he])
          · have c99 : r' ((32 + 12 * n)) = h := c99
            refine r_iload_n hJ dX5_wishedThen_102 rfl jg3 ?_
            refine r_goto hJ (tgt := 107) dX5_wishedThen_103 (by decide) ?_
            exact ret_i hF dX5_wishedThen_107 (by rw [hres, ← he]; simp [c99]) (by rw [hres, ← he])
        have loop : ∀ (k i : Nat) (r' : Nat → Int32), i + k = 500 → MI r' z → mWiL z h n k i r' = F → J (setO S 10 (putA T 2 r'), x) 55 [some (.ref (ad E 10 0)), some (.int h), some (.int (nI n)), some (.int (nI i))] [] := by
          intro k
          induction k with
          | zero =>
            intro i r' hi hM' he
            obtain rfl : i = 500 := by omega
            refine r_iload_n hJ dX5_wishedThen_55 rfl jg3 ?_
            refine r_sipush hJ (v := nI 500) dX5_wishedThen_56 (by decide) ?_
            refine r_icmp_ge hJ (tgt := 89) dX5_wishedThen_59 (by decide) (fun c59 => ?_) (fun c59 => ?_)
            · exact fin _ _ he
            · exact absurd (nI_le (by omega) (by omega)) c59
          | succ k ih =>
            intro i r' hi hM' he
            refine r_iload_n hJ dX5_wishedThen_55 rfl jg3 ?_
            refine r_sipush hJ (v := nI 500) dX5_wishedThen_56 (by decide) ?_
            refine r_icmp_ge hJ (tgt := 89) dX5_wishedThen_59 (by decide) (fun c59 => ?_) (fun c59 => ?_)
            · exact absurd c59 (nI_ge (by omega) (by omega))
            · refine r_aload_n hJ dX5_wishedThen_62 rfl jg0 ?_
              refine r_g5_1 hJ m792 dX5_wishedThen_63 ?_
              refine r_iload_n hJ dX5_wishedThen_66 rfl jg2 ?_
              refine r_S1v hJ kX5_40 (c5_row l E _ x n) dX5_wishedThen_67 ⟨by decide, by decide⟩ (Nat.le_of_ble_eq_true rfl) ?_
              refine r_ialdA hJ (alM2 (by omega)) rfl dX5_wishedThen_70 ?_
              refine r_iload_n hJ dX5_wishedThen_71 rfl jg1 ?_
              refine r_icmp_eq hJ (tgt := 89) dX5_wishedThen_72 (by decide) (fun c72 => ?_) (fun c72 => ?_)
              · rw [mWiL, if_pos (show r' ((32 + 12 * n)) = h from c72)] at he
                exact fin _ _ he
              · rw [mWiL, if_neg (show ¬ r' ((32 + 12 * n)) = h from c72)] at he
                refine r_aload_n hJ dX5_wishedThen_75 rfl jg0 ?_
                refine r_g5_1 hJ m792 dX5_wishedThen_76 ?_
                refine r_S1v hJ kX5_111 (c5_passes l E S x T (Or.inr rfl) r' hM') dX5_wishedThen_79 ⟨by decide, by decide⟩ (Nat.le_of_ble_eq_true rfl) ?_
                refine r_pop hJ dX5_wishedThen_82 rfl ?_
                refine r_iinc hJ dX5_wishedThen_83 jg3 (ii1 _) (jp3 rfl rfl) ?_
                refine r_goto hJ (tgt := 55) dX5_wishedThen_86 (by decide) ?_
                exact ih (i + 1) _ (by omega) (MI_tick hM') he
        exact loop 500 0 _ (by omega) (MI_waits hw3 (by omega) hQ0 (MI_cpy hM)) (by rw [← hwq]; exact hFF)
      · have c34 : mFree (T 1) n = true := bI_ne c34
        refine r_iconst hJ (v := nI 0) dX5_wishedThen_37 (by decide) ?_
        exact ret_i hF dX5_wishedThen_38 (by simp [mWisV, c10, c21, c34]) (by simp [mWisV, c10, c21, c34])
    · have c21 : mMayW (T 1) z h n = false := bI_0.mp c21
      refine r_iconst hJ (v := (-1)) dX5_wishedThen_24 (by decide) ?_
      exact ret_i hF dX5_wishedThen_25 (by simp [mWisV, c10, c21]) (by simp [mWisV, c10, c21])
  · have c10 : T 1 ((32 + 12 * n)) = h := c10
    refine r_iconst hJ (v := nI 0) dX5_wishedThen_13 (by decide) ?_
    exact ret_i hF dX5_wishedThen_14 (by simp [mWisV, c10]) (by simp [mWisV, c10])

def mWisIn (T : jO) (z : Nat) (h n : Int32) : Int32 × jO :=
  if witQ h (nI 0) (nI 7) = true ∧ witQ n (nI 0) (nI (z - 1)) = true then mWisV (thr T (nI 0)) z h (toN n) else (nI 0, thr (thr T (nI 0)) (nI 1))
set_option maxRecDepth 100000 in
set_option maxHeartbeats 1000000 in
theorem c5_wishedIn (l : Launch) (E : jE) (S : jS) (x : jX) (T : jO) {z : Nat} (hM : MI (T 1) z) (h n : Int32) : Ct l E yX5_wishedIn cX5_wishedIn 3 (some .int) 7 [.ref (ad E 10 0), .int h, .int n] (setO S 10 T, x) (some (.int (mWisIn T z h n).1)) (setO S 10 (mWisIn T z h n).2, x) := by
  refine Ct.of (by decide +kernel) (Nat.le_refl _) (Nat.le_of_ble_eq_true rfl) rfl (fun J hJ hF => ?_)
  have hz := hM.1.1
  have hz6 := hM.1.2.2
  have hz4 := hM.1.2.1
  refine r_aload_n hJ dX5_wishedIn_0 rfl jg0 ?_
  refine r_iconst hJ (v := nI 0) dX5_wishedIn_1 (by decide) ?_
  refine r_p5_6 hJ m797 dX5_wishedIn_2 ?_
  refine r_iload_n hJ dX5_wishedIn_5 rfl jg1 ?_
  refine r_S1v hJ kX5_73 (c5_isHolder l E _ x h) dX5_wishedIn_6 ⟨by decide, by decide⟩ (Nat.le_of_ble_eq_true rfl) ?_
  refine r_if_eq hJ (tgt := 20) dX5_wishedIn_9 (by decide) (fun c9 => ?_) (fun c9 => ?_)
  · have c9 : witQ h (nI 0) (nI 7) = false := bI_0.mp c9
    refine r_aload_n hJ dX5_wishedIn_20 rfl jg0 ?_
    refine r_iconst hJ (v := nI 1) dX5_wishedIn_21 (by decide) ?_
    refine r_V1v hJ kX5_36 (rcv5 E) (c5_fails l E _ x _ (nI 1)) dX5_wishedIn_22 ⟨by decide, by decide⟩ (Nat.le_of_ble_eq_true rfl) ?_
    exact ret_i hF dX5_wishedIn_25 (by simp [mWisIn, c9]) (by simp [mWisIn, thr, c9])
  · have c9 : witQ h (nI 0) (nI 7) = true := bI_ne c9
    refine r_aload_n hJ dX5_wishedIn_12 rfl jg0 ?_
    refine r_iload_n hJ dX5_wishedIn_13 rfl jg2 ?_
    refine r_V1v hJ kX5_97 (rcv5 E) (c5_isNumber l E S x (thr T (nI 0)) (z := z) (by omega) hz n) dX5_wishedIn_14 ⟨by decide, by decide⟩ (Nat.le_of_ble_eq_true rfl) ?_
    refine r_if_ne hJ (tgt := 26) dX5_wishedIn_17 (by decide) (fun c17 => ?_) (fun c17 => ?_)
    · have c17 : witQ n (nI 0) (nI (z - 1)) = true := bI_ne c17
      refine r_aload_n hJ dX5_wishedIn_26 rfl jg0 ?_
      refine r_iload_n hJ dX5_wishedIn_27 rfl jg1 ?_
      refine r_iload_n hJ dX5_wishedIn_28 rfl jg2 ?_
      obtain ⟨n1, n2⟩ := wit_N (by omega) c17
      have hon := c5_wishedThen l E S x (thr T (nI 0)) hM (n := toN n) (by omega) h c9
      rw [← n1] at hon
      refine r_V2v hJ kX5_192 (rcv5 E) (hon) dX5_wishedIn_29 ⟨by decide, by decide⟩ (Nat.le_of_ble_eq_true rfl) ?_
      exact ret_i hF dX5_wishedIn_32 (by simp [mWisIn, c9, c17]) (by simp [mWisIn, thr, c9, c17])
    · have c17 : witQ n (nI 0) (nI (z - 1)) = false := bI_0.mp c17
      refine r_aload_n hJ dX5_wishedIn_20 rfl jg0 ?_
      refine r_iconst hJ (v := nI 1) dX5_wishedIn_21 (by decide) ?_
      refine r_V1v hJ kX5_36 (rcv5 E) (c5_fails l E _ x _ (nI 1)) dX5_wishedIn_22 ⟨by decide, by decide⟩ (Nat.le_of_ble_eq_true rfl) ?_
      exact ret_i hF dX5_wishedIn_25 (by simp [mWisIn, c9, c17]) (by simp [mWisIn, thr, c9, c17])
