def prolP (P : jO) (n : Nat) (t : Int32) : jO :=
  let P1 := put P 0 1 (P 0 1 + nI 1)
  let P2 := if stg P1 n = nI 2 then put P1 0 2 (P1 0 2 + nI 1) else P1
  let P3 := put P2 4 n (P2 0 0 + t)
  put P3 5 n (P3 4 n + P3 1 0)
set_option maxRecDepth 100000 in
set_option maxHeartbeats 1000000 in
theorem c2_prolong (l : Launch) (E : jE) (S : jS) (x : jX) (P : jO) {o : Nat} (ho : o < 8) {n : Nat} (hn : n < 64) (t : Int32) : Ct l E yX2_prolong cX2_prolong 4 (some .int) 2 [.ref (ad E o 0), .int (nI n), .int t] (setO S o P, x) (some (.int (P 4 n))) (setO S o (prolP P n t), x) := by
  refine Ct.of (by decide +kernel) (Nat.le_refl _) (Nat.le_of_ble_eq_true rfl) rfl (fun J hJ hF => ?_)
  refine r_aload_n hJ dX2_prolong_0 rfl jg0 ?_
  refine r_g2_7 hJ ho m61 dX2_prolong_1 ?_
  refine r_iload_n hJ dX2_prolong_4 rfl jg1 ?_
  refine r_ialdO hJ (by omega) (alP4 ho (by omega)) rfl dX2_prolong_5 ?_
  refine r_istore_n hJ dX2_prolong_6 rfl (jp3 rfl rfl) ?_
  refine r_aload_n hJ dX2_prolong_7 rfl jg0 ?_
  refine r_dup hJ dX2_prolong_8 rfl ?_
  refine r_g2_1O hJ ho m53 dX2_prolong_9 ?_
  refine r_iconst hJ (v := nI 1) dX2_prolong_12 (by decide) ?_
  refine r_iadd hJ dX2_prolong_13 ?_
  refine r_p2_1 hJ ho m53 dX2_prolong_14 ?_
  refine r_aload_n hJ dX2_prolong_17 rfl jg0 ?_
  refine r_iload_n hJ dX2_prolong_18 rfl jg1 ?_
  refine r_V1v hJ kX2_95 (rcv2 E ho) (c2_stateOf l E S x _ ho hn) dX2_prolong_19 ⟨by decide, by decide⟩ (Nat.le_of_ble_eq_true rfl) ?_
  refine r_iconst hJ (v := nI 2) dX2_prolong_22 (by decide) ?_
  refine r_icmp_ne hJ (tgt := 36) dX2_prolong_23 (by decide) (fun c23 => ?_) (fun c23 => ?_)
  · refine r_aload_n hJ dX2_prolong_36 rfl jg0 ?_
    refine r_g2_7 hJ ho m61 dX2_prolong_37 ?_
    refine r_iload_n hJ dX2_prolong_40 rfl jg1 ?_
    refine r_aload_n hJ dX2_prolong_41 rfl jg0 ?_
    refine r_g2_0O hJ ho m51 dX2_prolong_42 ?_
    refine r_iload_n hJ dX2_prolong_45 rfl jg2 ?_
    refine r_iadd hJ dX2_prolong_46 ?_
    refine r_iast hJ (by omega) (alP4 ho (by omega)) rfl dX2_prolong_47 ?_
    refine r_aload_n hJ dX2_prolong_48 rfl jg0 ?_
    refine r_g2_8 hJ ho m62 dX2_prolong_49 ?_
    refine r_iload_n hJ dX2_prolong_52 rfl jg1 ?_
    refine r_aload_n hJ dX2_prolong_53 rfl jg0 ?_
    refine r_g2_7 hJ ho m61 dX2_prolong_54 ?_
    refine r_iload_n hJ dX2_prolong_57 rfl jg1 ?_
    refine r_ialdO hJ (by omega) (alP4 ho (by omega)) rfl dX2_prolong_58 ?_
    refine r_aload_n hJ dX2_prolong_59 rfl jg0 ?_
    refine r_g2_4 hJ ho m56 dX2_prolong_60 ?_
    refine r_iconst hJ (v := nI 0) dX2_prolong_63 (by decide) ?_
    refine r_ialdO hJ (by omega) (alP1 ho (by omega)) rfl dX2_prolong_64 ?_
    refine r_iadd hJ dX2_prolong_65 ?_
    refine r_iast hJ (by omega) (alP5 ho (by omega)) rfl dX2_prolong_66 ?_
    refine r_iload_n hJ dX2_prolong_67 rfl jg3 ?_
    exact ret_i hF dX2_prolong_68 rfl (by simp only [prolP, c23, if_true, if_false])
  · refine r_aload_n hJ dX2_prolong_26 rfl jg0 ?_
    refine r_dup hJ dX2_prolong_27 rfl ?_
    refine r_g2_2O hJ ho m54 dX2_prolong_28 ?_
    refine r_iconst hJ (v := nI 1) dX2_prolong_31 (by decide) ?_
    refine r_iadd hJ dX2_prolong_32 ?_
    refine r_p2_2 hJ ho m54 dX2_prolong_33 ?_
    refine r_aload_n hJ dX2_prolong_36 rfl jg0 ?_
    refine r_g2_7 hJ ho m61 dX2_prolong_37 ?_
    refine r_iload_n hJ dX2_prolong_40 rfl jg1 ?_
    refine r_aload_n hJ dX2_prolong_41 rfl jg0 ?_
    refine r_g2_0O hJ ho m51 dX2_prolong_42 ?_
    refine r_iload_n hJ dX2_prolong_45 rfl jg2 ?_
    refine r_iadd hJ dX2_prolong_46 ?_
    refine r_iast hJ (by omega) (alP4 ho (by omega)) rfl dX2_prolong_47 ?_
    refine r_aload_n hJ dX2_prolong_48 rfl jg0 ?_
    refine r_g2_8 hJ ho m62 dX2_prolong_49 ?_
    refine r_iload_n hJ dX2_prolong_52 rfl jg1 ?_
    refine r_aload_n hJ dX2_prolong_53 rfl jg0 ?_
    refine r_g2_7 hJ ho m61 dX2_prolong_54 ?_
    refine r_iload_n hJ dX2_prolong_57 rfl jg1 ?_
    refine r_ialdO hJ (by omega) (alP4 ho (by omega)) rfl dX2_prolong_58 ?_
    refine r_aload_n hJ dX2_prolong_59 rfl jg0 ?_
    refine r_g2_4 hJ ho m56 dX2_prolong_60 ?_
    refine r_iconst hJ (v := nI 0) dX2_prolong_63 (by decide) ?_
    refine r_ialdO hJ (by omega) (alP1 ho (by omega)) rfl dX2_prolong_64 ?_
    refine r_iadd hJ dX2_prolong_65 ?_
    refine r_iast hJ (by omega) (alP5 ho (by omega)) rfl dX2_prolong_66 ?_
    refine r_iload_n hJ dX2_prolong_67 rfl jg3 ?_
    exact ret_i hF dX2_prolong_68 rfl (by simp only [prolP, c23, if_true, if_false])

set_option maxRecDepth 100000 in
set_option maxHeartbeats 1000000 in
theorem c2_dropWish (l : Launch) (E : jE) (S : jS) (x : jX) (P : jO) {o : Nat} (ho : o < 8) {n : Nat} (hn : n < 64) {w : Nat} (hw3 : w ≤ 3) (hw : P 7 n = nI w) {q : Nat} (hq : q < w) : Ct l E yX2_dropWish cX2_dropWish 5 none 1 [.ref (ad E o 0), .int (nI n), .int (nI q)] (setO S o P, x) none (setO S o (dropP P n q), x) := by
  refine Ct.of (by decide +kernel) (Nat.le_refl _) (Nat.le_of_ble_eq_true rfl) rfl (fun J hJ hF => ?_)
  have loop : ∀ (k i : Nat) (P' : jO) (v4 : Option Value), i + k = w - 1 → P' 7 n = nI w → shiftP n k i P' = shiftP n (w - 1 - q) q P → J (setO S o P', x) 2 [some (.ref (ad E o 0)), some (.int (nI n)), some (.int (nI q)), some (.int (nI i)), v4] [] := by
    intro k
    induction k with
    | zero =>
      intro i P' v4 hi hw' he
      obtain rfl : i = w - 1 := by omega
      refine r_iload_n hJ dX2_dropWish_2 rfl jg3 ?_
      refine r_aload_n hJ dX2_dropWish_3 rfl jg0 ?_
      refine r_g2_10 hJ ho m64 dX2_dropWish_4 ?_
      refine r_iload_n hJ dX2_dropWish_7 rfl jg1 ?_
      refine r_ialdO hJ (by omega) (alP7 ho (by omega)) rfl dX2_dropWish_8 ?_
      refine r_iconst hJ (v := nI 1) dX2_dropWish_9 (by decide) ?_
      refine r_isub hJ dX2_dropWish_10 ?_
      rw [hw', pk_sub (by omega)]
      refine r_icmp_ge hJ (tgt := 59) dX2_dropWish_11 (by decide) (fun c11 => ?_) (fun c11 => ?_)
      · refine r_aload_n hJ dX2_dropWish_59 rfl jg0 ?_
        refine r_g2_10 hJ ho m64 dX2_dropWish_60 ?_
        refine r_iload_n hJ dX2_dropWish_63 rfl jg1 ?_
        refine r_dup2_11 hJ dX2_dropWish_64 rfl rfl ?_
        refine r_ialdO hJ (by omega) (alP7 ho (by omega)) rfl dX2_dropWish_65 ?_
        refine r_iconst hJ (v := nI 1) dX2_dropWish_66 (by decide) ?_
        refine r_isub hJ dX2_dropWish_67 ?_
        refine r_iast hJ (by omega) (alP7 ho (by omega)) rfl dX2_dropWish_68 ?_
        exact ret_v hF dX2_dropWish_69 rfl (by unfold dropP; rw [hw, toN_nI (by omega), ← he]; rfl)
      · exact absurd (nI_le (by omega) (by omega)) c11
    | succ k ih =>
      intro i P' v4 hi hw' he
      refine r_iload_n hJ dX2_dropWish_2 rfl jg3 ?_
      refine r_aload_n hJ dX2_dropWish_3 rfl jg0 ?_
      refine r_g2_10 hJ ho m64 dX2_dropWish_4 ?_
      refine r_iload_n hJ dX2_dropWish_7 rfl jg1 ?_
      refine r_ialdO hJ (by omega) (alP7 ho (by omega)) rfl dX2_dropWish_8 ?_
      refine r_iconst hJ (v := nI 1) dX2_dropWish_9 (by decide) ?_
      refine r_isub hJ dX2_dropWish_10 ?_
      rw [hw', pk_sub (by omega)]
      refine r_icmp_ge hJ (tgt := 59) dX2_dropWish_11 (by decide) (fun c11 => ?_) (fun c11 => ?_)
      · exact absurd c11 (nI_ge (by omega) (by omega))
      · refine r_iload_n hJ dX2_dropWish_14 rfl jg1 ?_
        refine r_iconst hJ (v := nI 3) dX2_dropWish_15 (by decide) ?_
        refine r_imul hJ dX2_dropWish_16 ?_
        refine r_iload_n hJ dX2_dropWish_17 rfl jg3 ?_
        refine r_iadd hJ dX2_dropWish_18 ?_
        rw [ix1]
        refine r_istore hJ dX2_dropWish_19 (jp4 rfl rfl) ?_
        refine r_aload_n hJ dX2_dropWish_21 rfl jg0 ?_
        refine r_g2_11 hJ ho m66 dX2_dropWish_22 ?_
        refine r_iload hJ dX2_dropWish_25 jg4 ?_
        refine r_aload_n hJ dX2_dropWish_27 rfl jg0 ?_
        refine r_g2_11 hJ ho m66 dX2_dropWish_28 ?_
        refine r_iload hJ dX2_dropWish_31 jg4 ?_
        refine r_iconst hJ (v := nI 1) dX2_dropWish_33 (by decide) ?_
        refine r_iadd hJ dX2_dropWish_34 ?_
        rw [nI_add]
        refine r_ialdO hJ (by omega) (alP8 ho (by omega)) rfl dX2_dropWish_35 ?_
        refine r_iast hJ (by omega) (alP8 ho (by omega)) rfl dX2_dropWish_36 ?_
        refine r_aload_n hJ dX2_dropWish_37 rfl jg0 ?_
        refine r_g2_12 hJ ho m67 dX2_dropWish_38 ?_
        refine r_iload hJ dX2_dropWish_41 jg4 ?_
        refine r_aload_n hJ dX2_dropWish_43 rfl jg0 ?_
        refine r_g2_12 hJ ho m67 dX2_dropWish_44 ?_
        refine r_iload hJ dX2_dropWish_47 jg4 ?_
        refine r_iconst hJ (v := nI 1) dX2_dropWish_49 (by decide) ?_
        refine r_iadd hJ dX2_dropWish_50 ?_
        rw [nI_add]
        refine r_ialdO hJ (by omega) (alP9 ho (by omega)) rfl dX2_dropWish_51 ?_
        refine r_iast hJ (by omega) (alP9 ho (by omega)) rfl dX2_dropWish_52 ?_
        refine r_iinc hJ dX2_dropWish_53 jg3 (ii1 _) (jp3 rfl rfl) ?_
        refine r_goto hJ (tgt := 2) dX2_dropWish_56 (by decide) ?_
        exact ih (i + 1) _ _ (by omega) (by rw [put_ne (by decide), put_ne (by decide)]; exact hw') he
  refine r_iload_n hJ dX2_dropWish_0 rfl jg2 ?_
  refine r_istore_n hJ dX2_dropWish_1 rfl (jp3 rfl rfl) ?_
  exact loop (w - 1 - q) q P none (by omega) hw rfl

theorem hasR_1 (P : jO) (h : Int32) : (nI (cnt (fun n => decide (P 2 n = h)) 64) < P 1 1) ↔ nI (hasP P h) < P 1 1 := Iff.rfl
set_option maxRecDepth 100000 in
set_option maxHeartbeats 1000000 in
theorem c2_free (l : Launch) (E : jE) (S : jS) (x : jX) (P : jO) {o : Nat} (ho : o < 8) {n : Nat} (hn : n < 64) (hP : PI P) : Ct l E yX2_free cX2_free 5 none 2 [.ref (ad E o 0), .int (nI n)] (setO S o P, x) none (setO S o (freeP P n), x) := by
  refine Ct.of (by decide +kernel) (Nat.le_refl _) (Nat.le_of_ble_eq_true rfl) rfl (fun J hJ hF => ?_)
  have loop : ∀ (k i : Nat) (P' : jO) (v3 v4 : Option Value), i + k = 3 → PI P' → serve n k P' = freeP P n → nc2 v3 = true → J (setO S o P', x) 19 [some (.ref (ad E o 0)), some (.int (nI n)), some (.int (nI i)), v3, v4] [] := by
    intro k
    induction k with
    | zero =>
      intro i P' v3 v4 hi hP he h3
      obtain rfl : i = 3 := by omega
      refine r_iload_n hJ dX2_free_19 rfl jg2 ?_
      refine r_iconst hJ (v := nI 3) dX2_free_20 (by decide) ?_
      refine r_icmp_ge hJ (tgt := 109) dX2_free_21 (by decide) (fun c21 => ?_) (fun c21 => ?_)
      · exact ret_v hF dX2_free_109 rfl (by rw [← he]; rfl)
      · exact absurd (nI_le (by omega) (by omega)) c21
    | succ k ih =>
      intro i P' v3 v4 hi hP he h3
      refine r_iload_n hJ dX2_free_19 rfl jg2 ?_
      refine r_iconst hJ (v := nI 3) dX2_free_20 (by decide) ?_
      refine r_icmp_ge hJ (tgt := 109) dX2_free_21 (by decide) (fun c21 => ?_) (fun c21 => ?_)
      · exact absurd c21 (nI_ge (by omega) (by omega))
      · refine r_aload_n hJ dX2_free_24 rfl jg0 ?_
        refine r_g2_5 hJ ho m58 dX2_free_25 ?_
        refine r_iload_n hJ dX2_free_28 rfl jg1 ?_
        refine r_ialdO hJ (by omega) (alP2 ho (by omega)) rfl dX2_free_29 ?_
        refine r_iconst hJ (v := (-1)) dX2_free_30 (by decide) ?_
        refine r_icmp_ne hJ (tgt := 109) dX2_free_31 (by decide) (fun c31 => ?_) (fun c31 => ?_)
        · have c31 := c31
          exact ret_v hF dX2_free_109 rfl (by rw [← he, serve, if_neg (by simp [c21, c31])])
        · refine r_aload_n hJ dX2_free_34 rfl jg0 ?_
          refine r_g2_10 hJ ho m64 dX2_free_35 ?_
          refine r_iload_n hJ dX2_free_38 rfl jg1 ?_
          refine r_ialdO hJ (by omega) (alP7 ho (by omega)) rfl dX2_free_39 ?_
          refine r_if_le hJ (tgt := 109) dX2_free_40 (by decide) (fun c40 => ?_) (fun c40 => ?_)
          · have c40 := Int32.not_lt.mpr c40
            exact ret_v hF dX2_free_109 rfl (by rw [← he, serve, if_neg (by simp [c21, c31, c40])])
          · have c40 := Int32.not_le.mp c40
            obtain ⟨g1, g2, g3, g4, g5⟩ := PI_pos hP hn c40
            have hs : serve n (k + 1) P' = serve n k (serveS P' n) := by rw [serve, if_pos ⟨c31, c40⟩]
            have hPs := PI_serveS hn hP c40
            rw [hs] at he
            refine r_aload_n hJ dX2_free_43 rfl jg0 ?_
            refine r_g2_11 hJ ho m66 dX2_free_44 ?_
            refine r_iload_n hJ dX2_free_47 rfl jg1 ?_
            refine r_iconst hJ (v := nI 3) dX2_free_48 (by decide) ?_
            refine r_imul hJ dX2_free_49 ?_
            refine r_ialdO hJ (by omega) (alP8 ho (by omega)) (pk_mul n 3) dX2_free_50 ?_
            refine r_istore_n hJ dX2_free_51 rfl (jp3 rfl rfl) ?_
            refine r_aload_n hJ dX2_free_52 rfl jg0 ?_
            refine r_g2_12 hJ ho m67 dX2_free_53 ?_
            refine r_iload_n hJ dX2_free_56 rfl jg1 ?_
            refine r_iconst hJ (v := nI 3) dX2_free_57 (by decide) ?_
            refine r_imul hJ dX2_free_58 ?_
            refine r_ialdO hJ (by omega) (alP9 ho (by omega)) (pk_mul n 3) dX2_free_59 ?_
            refine r_istore hJ dX2_free_60 (jp4 rfl rfl) ?_
            refine r_aload_n hJ dX2_free_62 rfl jg0 ?_
            refine r_iload_n hJ dX2_free_63 rfl jg1 ?_
            refine r_iconst hJ (v := nI 0) dX2_free_64 (by decide) ?_
            refine r_V2u hJ kX2_102 (rcv2 E ho) (c2_dropWish l E S x P' ho hn g2 g3 (q := 0) g1) dX2_free_65 ⟨by decide, by decide⟩ (Nat.le_of_ble_eq_true rfl) ?_
            refine r_aload_n hJ dX2_free_68 rfl jg0 ?_
            refine r_iload_n hJ dX2_free_69 rfl jg3 ?_
            refine r_V1v hJ kX2_88 (rcv2 E ho) (c2_numbersOf l E S x (dropP P' n 0) ho (P' 8 (n * 3))) dX2_free_70 ⟨by decide, by decide⟩ (Nat.le_of_ble_eq_true rfl) ?_
            refine r_aload_n hJ dX2_free_73 rfl jg0 ?_
            refine r_g2_4 hJ ho m56 dX2_free_74 ?_
            refine r_iconst hJ (v := nI 1) dX2_free_77 (by decide) ?_
            refine r_ialdO hJ (by omega) (alP1 ho (by omega)) rfl dX2_free_78 ?_
            refine r_icmp_ge hJ (tgt := 93) dX2_free_79 (by decide) (fun c79 => ?_) (fun c79 => ?_)
            · have hv : serveS P' n = put (dropP P' n 0) 11 (toN (P' 8 (n * 3))) ((dropP P' n 0) 11 (toN (P' 8 (n * 3))) + nI 1) := by simp only [serveS]; exact if_neg (Int32.not_lt.mpr c79)
              rw [hv] at he hPs
              refine r_aload_n hJ dX2_free_93 rfl jg0 ?_
              refine r_g2_14 hJ ho m69 dX2_free_94 ?_
              refine r_iload_n hJ dX2_free_97 rfl jg3 ?_
              refine r_dup2_11 hJ dX2_free_98 rfl rfl ?_
              refine r_ialdO hJ (by omega) (alP11 ho (by omega)) g5 dX2_free_99 ?_
              refine r_iconst hJ (v := nI 1) dX2_free_100 (by decide) ?_
              refine r_iadd hJ dX2_free_101 ?_
              refine r_iast hJ (by omega) (alP11 ho (by omega)) g5 dX2_free_102 ?_
              refine r_iinc hJ dX2_free_103 jg2 (ii1 _) (jp2 rfl rfl) ?_
              refine r_goto hJ (tgt := 19) dX2_free_106 (by decide) ?_
              exact ih (i + 1) _ _ _ (by omega) hPs he rfl
            · have hv : serveS P' n = leaseP (dropP P' n 0) (toN (P' 8 (n * 3))) n (P' 9 (n * 3)) := by simp only [serveS]; exact if_pos (Int32.not_le.mp c79)
              rw [hv] at he hPs
              refine r_aload_n hJ dX2_free_82 rfl jg0 ?_
              refine r_iload_n hJ dX2_free_83 rfl jg3 ?_
              refine r_iload_n hJ dX2_free_84 rfl jg1 ?_
              refine r_iload hJ dX2_free_85 jg4 ?_
              have hle := c2_lease l E S x (dropP P' n 0) ho g4 hn (P' 9 (n * 3))
              rw [← g5] at hle
              refine r_V3u hJ kX2_91 (rcv2 E ho) (hle) dX2_free_87 ⟨by decide, by decide⟩ (Nat.le_of_ble_eq_true rfl) ?_
              refine r_goto hJ (tgt := 103) dX2_free_90 (by decide) ?_
              refine r_iinc hJ dX2_free_103 jg2 (ii1 _) (jp2 rfl rfl) ?_
              refine r_goto hJ (tgt := 19) dX2_free_106 (by decide) ?_
              exact ih (i + 1) _ _ _ (by omega) hPs he rfl
  refine r_aload_n hJ dX2_free_0 rfl jg0 ?_
  refine r_g2_5 hJ ho m58 dX2_free_1 ?_
  refine r_iload_n hJ dX2_free_4 rfl jg1 ?_
  refine r_iconst hJ (v := (-1)) dX2_free_5 (by decide) ?_
  refine r_iast hJ (by omega) (alP2 ho (by omega)) rfl dX2_free_6 ?_
  refine r_aload_n hJ dX2_free_7 rfl jg0 ?_
  refine r_dup hJ dX2_free_8 rfl ?_
  refine r_g2_3O hJ ho m55 dX2_free_9 ?_
  refine r_iconst hJ (v := nI 1) dX2_free_12 (by decide) ?_
  refine r_iadd hJ dX2_free_13 ?_
  refine r_p2_3 hJ ho m55 dX2_free_14 ?_
  refine r_iconst hJ (v := nI 0) dX2_free_17 (by decide) ?_
  refine r_istore_n hJ dX2_free_18 rfl (jp2 rfl rfl) ?_
  exact loop 3 0 _ none none rfl (PI_put (by decide) (PI_put2 (Or.inl rfl) hP)) rfl rfl

set_option maxRecDepth 100000 in
set_option maxHeartbeats 1000000 in
theorem c2_freeSpan (l : Launch) (E : jE) (S : jS) (x : jX) (P : jO) {o : Nat} (ho : o < 8) (hP : PI P) (h : Int32) {a b : Nat} (hab : a ≤ b) (hb : b < 64) : Ct l E yX2_freeSpan cX2_freeSpan 6 (some .int) 3 [.ref (ad E o 0), .int h, .int (nI a), .int (nI b)] (setO S o P, x) (some (.int (nI (spanN h (b + 1 - a) a (P, 0)).2))) (setO S o (spanN h (b + 1 - a) a (P, 0)).1, x) := by
  refine Ct.of (by decide +kernel) (Nat.le_refl _) (Nat.le_of_ble_eq_true rfl) rfl (fun J hJ hF => ?_)
  have loop : ∀ (k i c : Nat) (P' : jO), i + k = b + 1 → PI P' → spanN h k i (P', c) = spanN h (b + 1 - a) a (P, 0) → J (setO S o P', x) 6 [some (.ref (ad E o 0)), some (.int h), some (.int (nI a)), some (.int (nI b)), some (.int (nI c)), some (.int (nI i))] [] := by
    intro k
    induction k with
    | zero =>
      intro i c P' hi hP he
      obtain rfl : i = b + 1 := by omega
      refine r_iload hJ dX2_freeSpan_6 jg5 ?_
      refine r_iload_n hJ dX2_freeSpan_8 rfl jg3 ?_
      refine r_icmp_gt hJ (tgt := 38) dX2_freeSpan_9 (by decide) (fun c9 => ?_) (fun c9 => ?_)
      · refine r_iload hJ dX2_freeSpan_38 jg4 ?_
        exact ret_i hF dX2_freeSpan_40 (by rw [← he]; rfl) (by rw [← he]; rfl)
      · exact absurd (nI_lt (by omega) (by omega)) c9
    | succ k ih =>
      intro i c P' hi hP he
      refine r_iload hJ dX2_freeSpan_6 jg5 ?_
      refine r_iload_n hJ dX2_freeSpan_8 rfl jg3 ?_
      refine r_icmp_gt hJ (tgt := 38) dX2_freeSpan_9 (by decide) (fun c9 => ?_) (fun c9 => ?_)
      · exact absurd c9 (nI_nlt (by omega) (by omega))
      · refine r_aload_n hJ dX2_freeSpan_12 rfl jg0 ?_
        refine r_g2_5 hJ ho m58 dX2_freeSpan_13 ?_
        refine r_iload hJ dX2_freeSpan_16 jg5 ?_
        refine r_ialdO hJ (by omega) (alP2 ho (by omega)) rfl dX2_freeSpan_18 ?_
        refine r_iload_n hJ dX2_freeSpan_19 rfl jg1 ?_
        refine r_icmp_ne hJ (tgt := 32) dX2_freeSpan_20 (by decide) (fun c20 => ?_) (fun c20 => ?_)
        · refine r_iinc hJ dX2_freeSpan_32 jg5 (ii1 _) (jp5 rfl rfl) ?_
          refine r_goto hJ (tgt := 6) dX2_freeSpan_35 (by decide) ?_
          exact ih (i + 1) c _ (by omega) hP (by rw [← he, spanN, if_neg c20])
        · refine r_iinc hJ dX2_freeSpan_23 jg4 (ii1 _) (jp4 rfl rfl) ?_
          refine r_aload_n hJ dX2_freeSpan_26 rfl jg0 ?_
          refine r_iload hJ dX2_freeSpan_27 jg5 ?_
          refine r_V1u hJ kX2_98 (rcv2 E ho) (c2_free l E S x P' ho (n := i) (by omega) hP) dX2_freeSpan_29 ⟨by decide, by decide⟩ (Nat.le_of_ble_eq_true rfl) ?_
          refine r_iinc hJ dX2_freeSpan_32 jg5 (ii1 _) (jp5 rfl rfl) ?_
          refine r_goto hJ (tgt := 6) dX2_freeSpan_35 (by decide) ?_
          exact ih (i + 1) (c + 1) _ (by omega) (PI_free (by omega) hP) (by rw [← he, spanN, if_pos c20])
  refine r_iconst hJ (v := nI 0) dX2_freeSpan_0 (by decide) ?_
  refine r_istore hJ dX2_freeSpan_1 (jp4 rfl rfl) ?_
  refine r_iload_n hJ dX2_freeSpan_3 rfl jg2 ?_
  refine r_istore hJ dX2_freeSpan_4 (jp5 rfl rfl) ?_
  exact loop (b + 1 - a) a 0 P (by omega) hP rfl

set_option maxRecDepth 100000 in
set_option maxHeartbeats 1000000 in
theorem c2_addWish (l : Launch) (E : jE) (S : jS) (x : jX) (P : jO) {o : Nat} (ho : o < 8) {h n : Nat} (hh : h < 8) (hn : n < 64) (t : Int32) {w : Nat} (hw3 : w ≤ 3) (hw : P 7 n = nI w) : Ct l E yX2_addWish cX2_addWish 5 (some .int) 2 [.ref (ad E o 0), .int (nI h), .int (nI n), .int t] (setO S o P, x) (some (.int (if P 2 n = -1 then nI 0 else addW P h n t 7 n))) (setO S o (addW P h n t), x) := by
  refine Ct.of (by decide +kernel) (Nat.le_refl _) (Nat.le_of_ble_eq_true rfl) rfl (fun J hJ hF => ?_)
  refine r_aload_n hJ dX2_addWish_0 rfl jg0 ?_
  refine r_g2_5 hJ ho m58 dX2_addWish_1 ?_
  refine r_iload_n hJ dX2_addWish_4 rfl jg2 ?_
  refine r_ialdO hJ (by omega) (alP2 ho (by omega)) rfl dX2_addWish_5 ?_
  refine r_iconst hJ (v := (-1)) dX2_addWish_6 (by decide) ?_
  refine r_icmp_ne hJ (tgt := 19) dX2_addWish_7 (by decide) (fun c7 => ?_) (fun c7 => ?_)
  · refine r_aload_n hJ dX2_addWish_19 rfl jg0 ?_
    refine r_g2_10 hJ ho m64 dX2_addWish_20 ?_
    refine r_iload_n hJ dX2_addWish_23 rfl jg2 ?_
    refine r_ialdO hJ (by omega) (alP7 ho (by omega)) rfl dX2_addWish_24 ?_
    refine r_iconst hJ (v := nI 3) dX2_addWish_25 (by decide) ?_
    refine r_icmp_ge hJ (tgt := 67) dX2_addWish_26 (by decide) (fun c26 => ?_) (fun c26 => ?_)
    · rw [hw, nI_leI (by omega) (by omega)] at c26
      have hadd : addW P h n t = P := by rw [addW, if_neg c7, hw, toN_nI (by omega), if_neg (by omega)]
      refine r_aload_n hJ dX2_addWish_67 rfl jg0 ?_
      refine r_g2_10 hJ ho m64 dX2_addWish_68 ?_
      refine r_iload_n hJ dX2_addWish_71 rfl jg2 ?_
      refine r_ialdO hJ (by omega) (alP7 ho (by omega)) rfl dX2_addWish_72 ?_
      exact ret_i hF dX2_addWish_73 (by rw [if_neg c7, hadd]) (by rw [hadd])
    · rw [hw, nI_leI (by omega) (by omega)] at c26
      have hadd : addW P h n t = put (put (put P 8 (n * 3 + w) (nI h)) 9 (n * 3 + w) t) 7 n ((put (put P 8 (n * 3 + w) (nI h)) 9 (n * 3 + w) t) 7 n + nI 1) := by rw [addW, if_neg c7, hw, toN_nI (by omega), if_pos (by omega)]
      refine r_iload_n hJ dX2_addWish_29 rfl jg2 ?_
      refine r_iconst hJ (v := nI 3) dX2_addWish_30 (by decide) ?_
      refine r_imul hJ dX2_addWish_31 ?_
      refine r_aload_n hJ dX2_addWish_32 rfl jg0 ?_
      refine r_g2_10 hJ ho m64 dX2_addWish_33 ?_
      refine r_iload_n hJ dX2_addWish_36 rfl jg2 ?_
      refine r_ialdO hJ (by omega) (alP7 ho (by omega)) rfl dX2_addWish_37 ?_
      refine r_iadd hJ dX2_addWish_38 ?_
      rw [hw, ix1]
      refine r_istore hJ dX2_addWish_39 (jp4 rfl rfl) ?_
      refine r_aload_n hJ dX2_addWish_41 rfl jg0 ?_
      refine r_g2_11 hJ ho m66 dX2_addWish_42 ?_
      refine r_iload hJ dX2_addWish_45 jg4 ?_
      refine r_iload_n hJ dX2_addWish_47 rfl jg1 ?_
      refine r_iast hJ (by omega) (alP8 ho (by omega)) rfl dX2_addWish_48 ?_
      refine r_aload_n hJ dX2_addWish_49 rfl jg0 ?_
      refine r_g2_12 hJ ho m67 dX2_addWish_50 ?_
      refine r_iload hJ dX2_addWish_53 jg4 ?_
      refine r_iload_n hJ dX2_addWish_55 rfl jg3 ?_
      refine r_iast hJ (by omega) (alP9 ho (by omega)) rfl dX2_addWish_56 ?_
      refine r_aload_n hJ dX2_addWish_57 rfl jg0 ?_
      refine r_g2_10 hJ ho m64 dX2_addWish_58 ?_
      refine r_iload_n hJ dX2_addWish_61 rfl jg2 ?_
      refine r_dup2_11 hJ dX2_addWish_62 rfl rfl ?_
      refine r_ialdO hJ (by omega) (alP7 ho (by omega)) rfl dX2_addWish_63 ?_
      refine r_iconst hJ (v := nI 1) dX2_addWish_64 (by decide) ?_
      refine r_iadd hJ dX2_addWish_65 ?_
      refine r_iast hJ (by omega) (alP7 ho (by omega)) rfl dX2_addWish_66 ?_
      refine r_aload_n hJ dX2_addWish_67 rfl jg0 ?_
      refine r_g2_10 hJ ho m64 dX2_addWish_68 ?_
      refine r_iload_n hJ dX2_addWish_71 rfl jg2 ?_
      refine r_ialdO hJ (by omega) (alP7 ho (by omega)) rfl dX2_addWish_72 ?_
      exact ret_i hF dX2_addWish_73 (by rw [if_neg c7, hadd]) (by rw [hadd])
  · refine r_aload_n hJ dX2_addWish_10 rfl jg0 ?_
    refine r_iload_n hJ dX2_addWish_11 rfl jg1 ?_
    refine r_iload_n hJ dX2_addWish_12 rfl jg2 ?_
    refine r_iload_n hJ dX2_addWish_13 rfl jg3 ?_
    refine r_V3u hJ kX2_91 (rcv2 E ho) (c2_lease l E S x P ho hh hn t) dX2_addWish_14 ⟨by decide, by decide⟩ (Nat.le_of_ble_eq_true rfl) ?_
    refine r_iconst hJ (v := nI 0) dX2_addWish_17 (by decide) ?_
    exact ret_i hF dX2_addWish_18 (by rw [if_pos c7]) (by rw [addW, if_pos c7])

set_option maxRecDepth 100000 in
set_option maxHeartbeats 1000000 in
theorem c2_countUnits (l : Launch) (E : jE) (S : jS) (x : jX) (P : jO) {o : Nat} (ho : o < 8) (hP : PI P) : Ct l E yX2_countUnits cX2_countUnits 2 none 2 [.ref (ad E o 0)] (setO S o P, x) none (setO S o (unitsN 64 0 P), x) := by
  refine Ct.of (by decide +kernel) (Nat.le_refl _) (Nat.le_of_ble_eq_true rfl) rfl (fun J hJ hF => ?_)
  have loop : ∀ (k i : Nat) (P' : jO), i + k = 64 → PI P' → unitsN k i P' = unitsN 64 0 P → J (setO S o P', x) 2 [some (.ref (ad E o 0)), some (.int (nI i))] [] := by
    intro k
    induction k with
    | zero =>
      intro i P' hi hP he
      obtain rfl : i = 64 := by omega
      refine r_iload_n hJ dX2_countUnits_2 rfl jg1 ?_
      refine r_bipush hJ (v := nI 64) dX2_countUnits_3 (by decide) ?_
      refine r_icmp_ge hJ (tgt := 38) dX2_countUnits_5 (by decide) (fun c5 => ?_) (fun c5 => ?_)
      · exact ret_v hF dX2_countUnits_38 rfl (by rw [← he]; rfl)
      · exact absurd (nI_le (by omega) (by omega)) c5
    | succ k ih =>
      intro i P' hi hP he
      refine r_iload_n hJ dX2_countUnits_2 rfl jg1 ?_
      refine r_bipush hJ (v := nI 64) dX2_countUnits_3 (by decide) ?_
      refine r_icmp_ge hJ (tgt := 38) dX2_countUnits_5 (by decide) (fun c5 => ?_) (fun c5 => ?_)
      · exact absurd c5 (nI_ge (by omega) (by omega))
      · refine r_aload_n hJ dX2_countUnits_8 rfl jg0 ?_
        refine r_iload_n hJ dX2_countUnits_9 rfl jg1 ?_
        refine r_V1v hJ kX2_95 (rcv2 E ho) (c2_stateOf l E S x P' ho (n := i) (by omega)) dX2_countUnits_10 ⟨by decide, by decide⟩ (Nat.le_of_ble_eq_true rfl) ?_
        refine r_iconst hJ (v := nI 1) dX2_countUnits_13 (by decide) ?_
        refine r_icmp_ne hJ (tgt := 32) dX2_countUnits_14 (by decide) (fun c14 => ?_) (fun c14 => ?_)
        · refine r_iinc hJ dX2_countUnits_32 jg1 (ii1 _) (jp1 rfl rfl) ?_
          refine r_goto hJ (tgt := 2) dX2_countUnits_35 (by decide) ?_
          exact ih (i + 1) _ (by omega) hP (by rw [← he, unitsN, if_neg (show ¬ stg _ i = 1 from c14)])
        · have hu : ∃ h, h < 8 ∧ P' 2 i = nI h := by
            rcases hP.2.1 i (by omega) with q | q
            · simp [stg, q, nI1] at c14
            · exact q
          obtain ⟨hq, hq8, hqe⟩ := hu
          have hqt : toN (P' 2 i) = hq := by rw [hqe, toN_nI (by omega)]
          refine r_aload_n hJ dX2_countUnits_17 rfl jg0 ?_
          refine r_g2_15 hJ ho m70 dX2_countUnits_18 ?_
          refine r_aload_n hJ dX2_countUnits_21 rfl jg0 ?_
          refine r_g2_5 hJ ho m58 dX2_countUnits_22 ?_
          refine r_iload_n hJ dX2_countUnits_25 rfl jg1 ?_
          refine r_ialdO hJ (by omega) (alP2 ho (by omega)) rfl dX2_countUnits_26 ?_
          refine r_dup2_11 hJ dX2_countUnits_27 rfl rfl ?_
          refine r_ialdO hJ (by omega) (alP12 ho (by omega)) hqe dX2_countUnits_28 ?_
          refine r_iconst hJ (v := nI 1) dX2_countUnits_29 (by decide) ?_
          refine r_iadd hJ dX2_countUnits_30 ?_
          refine r_iast hJ (by omega) (alP12 ho (by omega)) hqe dX2_countUnits_31 ?_
          refine r_iinc hJ dX2_countUnits_32 jg1 (ii1 _) (jp1 rfl rfl) ?_
          refine r_goto hJ (tgt := 2) dX2_countUnits_35 (by decide) ?_
          exact ih (i + 1) _ (by omega) (PI_put (by decide) hP) (by rw [← he, unitsN, if_pos (show stg _ i = 1 from c14), hqt])
  refine r_iconst hJ (v := nI 0) dX2_countUnits_0 (by decide) ?_
  refine r_istore_n hJ dX2_countUnits_1 rfl (jp1 rfl rfl) ?_
  exact loop 64 0 P (by omega) hP rfl

set_option maxRecDepth 100000 in
set_option maxHeartbeats 1000000 in
theorem c2_freeDue (l : Launch) (E : jE) (S : jS) (x : jX) (P : jO) {o : Nat} (ho : o < 8) (hP : PI P) : Ct l E yX2_freeDue cX2_freeDue 2 none 3 [.ref (ad E o 0)] (setO S o P, x) none (setO S o (dueN 64 0 P), x) := by
  refine Ct.of (by decide +kernel) (Nat.le_refl _) (Nat.le_of_ble_eq_true rfl) rfl (fun J hJ hF => ?_)
  have loop : ∀ (k i : Nat) (P' : jO), i + k = 64 → PI P' → dueN k i P' = dueN 64 0 P → J (setO S o P', x) 2 [some (.ref (ad E o 0)), some (.int (nI i))] [] := by
    intro k
    induction k with
    | zero =>
      intro i P' hi hP he
      obtain rfl : i = 64 := by omega
      refine r_iload_n hJ dX2_freeDue_2 rfl jg1 ?_
      refine r_bipush hJ (v := nI 64) dX2_freeDue_3 (by decide) ?_
      refine r_icmp_ge hJ (tgt := 42) dX2_freeDue_5 (by decide) (fun c5 => ?_) (fun c5 => ?_)
      · exact ret_v hF dX2_freeDue_42 rfl (by rw [← he]; rfl)
      · exact absurd (nI_le (by omega) (by omega)) c5
    | succ k ih =>
      intro i P' hi hP he
      refine r_iload_n hJ dX2_freeDue_2 rfl jg1 ?_
      refine r_bipush hJ (v := nI 64) dX2_freeDue_3 (by decide) ?_
      refine r_icmp_ge hJ (tgt := 42) dX2_freeDue_5 (by decide) (fun c5 => ?_) (fun c5 => ?_)
      · exact absurd c5 (nI_ge (by omega) (by omega))
      · refine r_aload_n hJ dX2_freeDue_8 rfl jg0 ?_
        refine r_g2_5 hJ ho m58 dX2_freeDue_9 ?_
        refine r_iload_n hJ dX2_freeDue_12 rfl jg1 ?_
        refine r_ialdO hJ (by omega) (alP2 ho (by omega)) rfl dX2_freeDue_13 ?_
        refine r_iconst hJ (v := (-1)) dX2_freeDue_14 (by decide) ?_
        refine r_icmp_eq hJ (tgt := 36) dX2_freeDue_15 (by decide) (fun c15 => ?_) (fun c15 => ?_)
        · refine r_iinc hJ dX2_freeDue_36 jg1 (ii1 _) (jp1 rfl rfl) ?_
          refine r_goto hJ (tgt := 2) dX2_freeDue_39 (by decide) ?_
          exact ih (i + 1) _ (by omega) hP (by rw [← he, dueN, if_neg (by simp [c15])])
        · refine r_aload_n hJ dX2_freeDue_18 rfl jg0 ?_
          refine r_g2_8 hJ ho m62 dX2_freeDue_19 ?_
          refine r_iload_n hJ dX2_freeDue_22 rfl jg1 ?_
          refine r_ialdO hJ (by omega) (alP5 ho (by omega)) rfl dX2_freeDue_23 ?_
          refine r_aload_n hJ dX2_freeDue_24 rfl jg0 ?_
          refine r_g2_0O hJ ho m51 dX2_freeDue_25 ?_
          refine r_icmp_ne hJ (tgt := 36) dX2_freeDue_28 (by decide) (fun c28 => ?_) (fun c28 => ?_)
          · refine r_iinc hJ dX2_freeDue_36 jg1 (ii1 _) (jp1 rfl rfl) ?_
            refine r_goto hJ (tgt := 2) dX2_freeDue_39 (by decide) ?_
            exact ih (i + 1) _ (by omega) hP (by rw [← he, dueN, if_neg (by simp [c28])])
          · refine r_aload_n hJ dX2_freeDue_31 rfl jg0 ?_
            refine r_iload_n hJ dX2_freeDue_32 rfl jg1 ?_
            refine r_V1u hJ kX2_98 (rcv2 E ho) (c2_free l E S x P' ho (n := i) (by omega) hP) dX2_freeDue_33 ⟨by decide, by decide⟩ (Nat.le_of_ble_eq_true rfl) ?_
            refine r_iinc hJ dX2_freeDue_36 jg1 (ii1 _) (jp1 rfl rfl) ?_
            refine r_goto hJ (tgt := 2) dX2_freeDue_39 (by decide) ?_
            exact ih (i + 1) _ (by omega) (PI_free (by omega) hP) (by rw [← he, dueN, if_pos ⟨c15, c28⟩])
  refine r_iconst hJ (v := nI 0) dX2_freeDue_0 (by decide) ?_
  refine r_istore_n hJ dX2_freeDue_1 rfl (jp1 rfl rfl) ?_
  exact loop 64 0 P (by omega) hP rfl

set_option maxRecDepth 100000 in
set_option maxHeartbeats 1000000 in
theorem c2_passUnits (l : Launch) (E : jE) (S : jS) (x : jX) (P : jO) {o : Nat} (ho : o < 8) (hP : PI P) {b : Nat} (hb : b < 2 ^ 30) : Ct l E yX2_passUnits cX2_passUnits 4 (some .int) 4 [.ref (ad E o 0), .int (nI b)] (setO S o P, x) (some (.int (passN b P 0 3 - P 0 3))) (setO S o (passN b P), x) := by
  refine Ct.of (by decide +kernel) (Nat.le_refl _) (Nat.le_of_ble_eq_true rfl) rfl (fun J hJ hF => ?_)
  have loop : ∀ (k i : Nat) (P' : jO), i + k = b → PI P' → passN k P' = passN b P → J (setO S o P', x) 7 [some (.ref (ad E o 0)), some (.int (nI b)), some (.int (P 0 3)), some (.int (nI i))] [] := by
    intro k
    induction k with
    | zero =>
      intro i P' hi hP he
      obtain rfl : i = b := by omega
      refine r_iload_n hJ dX2_passUnits_7 rfl jg3 ?_
      refine r_iload_n hJ dX2_passUnits_8 rfl jg1 ?_
      refine r_icmp_ge hJ (tgt := 36) dX2_passUnits_9 (by decide) (fun c9 => ?_) (fun c9 => ?_)
      · refine r_aload_n hJ dX2_passUnits_36 rfl jg0 ?_
        refine r_g2_3O hJ ho m55 dX2_passUnits_37 ?_
        refine r_iload_n hJ dX2_passUnits_40 rfl jg2 ?_
        refine r_isub hJ dX2_passUnits_41 ?_
        exact ret_i hF dX2_passUnits_42 (by rw [← he]; rfl) (by rw [← he]; rfl)
      · exact absurd (nI_le (by omega) (by omega)) c9
    | succ k ih =>
      intro i P' hi hP he
      refine r_iload_n hJ dX2_passUnits_7 rfl jg3 ?_
      refine r_iload_n hJ dX2_passUnits_8 rfl jg1 ?_
      refine r_icmp_ge hJ (tgt := 36) dX2_passUnits_9 (by decide) (fun c9 => ?_) (fun c9 => ?_)
      · exact absurd c9 (nI_ge (by omega) (by omega))
      · refine r_aload_n hJ dX2_passUnits_12 rfl jg0 ?_
        refine r_V0u hJ kX2_106 (rcv2 E ho) (c2_countUnits l E S x P' ho hP) dX2_passUnits_13 ⟨by decide, by decide⟩ (Nat.le_of_ble_eq_true rfl) ?_
        refine r_aload_n hJ dX2_passUnits_16 rfl jg0 ?_
        refine r_dup hJ dX2_passUnits_17 rfl ?_
        refine r_g2_0O hJ ho m51 dX2_passUnits_18 ?_
        refine r_iconst hJ (v := nI 1) dX2_passUnits_21 (by decide) ?_
        refine r_iadd hJ dX2_passUnits_22 ?_
        refine r_p2_0 hJ ho m51 dX2_passUnits_23 ?_
        refine r_aload_n hJ dX2_passUnits_26 rfl jg0 ?_
        refine r_V0u hJ kX2_109 (rcv2 E ho) (c2_freeDue l E S x _ ho (PI_put (by decide) (PI_unitsN 64 0 _ hP))) dX2_passUnits_27 ⟨by decide, by decide⟩ (Nat.le_of_ble_eq_true rfl) ?_
        refine r_iinc hJ dX2_passUnits_30 jg3 (ii1 _) (jp3 rfl rfl) ?_
        refine r_goto hJ (tgt := 7) dX2_passUnits_33 (by decide) ?_
        exact ih (i + 1) _ (by omega) (PI_tick hP) he
  refine r_aload_n hJ dX2_passUnits_0 rfl jg0 ?_
  refine r_g2_3O hJ ho m55 dX2_passUnits_1 ?_
  refine r_istore_n hJ dX2_passUnits_4 rfl (jp2 rfl rfl) ?_
  refine r_iconst hJ (v := nI 0) dX2_passUnits_5 (by decide) ?_
  refine r_istore_n hJ dX2_passUnits_6 rfl (jp3 rfl rfl) ?_
  exact loop b 0 P (by omega) hP rfl

set_option maxRecDepth 100000 in
set_option maxHeartbeats 1000000 in
theorem c2_leap (l : Launch) (E : jE) (S : jS) (x : jX) (P : jO) {o : Nat} (ho : o < 8) (hP : PI P) (u : Int32) : Ct l E yX2_leap cX2_leap 4 (some .boolean) 4 [.ref (ad E o 0), .int u] (setO S o P, x) (some (.int (bI (!decide (u < leapV P u))))) (setO S o (leapP P u), x) := by
  refine Ct.of (by decide +kernel) (Nat.le_refl _) (Nat.le_of_ble_eq_true rfl) rfl (fun J hJ hF => ?_)
  have loop : ∀ (k i : Nat) (v : Int32), i + k = 64 → nextN P k i v = leapV P u → J (setO S o P, x) 6 [some (.ref (ad E o 0)), some (.int u), some (.int v), some (.int (nI i))] [] := by
    intro k
    induction k with
    | zero =>
      intro i v hi he
      obtain rfl : i = 64 := by omega
      obtain rfl : v = leapV P u := he
      refine r_iload_n hJ dX2_leap_6 rfl jg3 ?_
      refine r_bipush hJ (v := nI 64) dX2_leap_7 (by decide) ?_
      refine r_icmp_ge hJ (tgt := 45) dX2_leap_9 (by decide) (fun c9 => ?_) (fun c9 => ?_)
      · refine r_iload_n hJ dX2_leap_45 rfl jg2 ?_
        refine r_iload_n hJ dX2_leap_46 rfl jg1 ?_
        refine r_icmp_le hJ (tgt := 52) dX2_leap_47 (by decide) (fun c47 => ?_) (fun c47 => ?_)
        · have c47 := Int32.not_lt.mpr c47
          refine r_aload_n hJ dX2_leap_52 rfl jg0 ?_
          refine r_iload_n hJ dX2_leap_53 rfl jg2 ?_
          refine r_p2_0 hJ ho m51 dX2_leap_54 ?_
          refine r_aload_n hJ dX2_leap_57 rfl jg0 ?_
          refine r_V0u hJ kX2_109 (rcv2 E ho) (c2_freeDue l E S x _ ho (PI_put (by decide) hP)) dX2_leap_58 ⟨by decide, by decide⟩ (Nat.le_of_ble_eq_true rfl) ?_
          refine r_iconst hJ (v := nI 1) dX2_leap_61 (by decide) ?_
          exact ret_z hF dX2_leap_62 (by decide) (by simp [bI, c47, nI1]) (by rw [leapP, if_neg c47])
        · have c47 := Int32.not_le.mp c47
          refine r_iconst hJ (v := nI 0) dX2_leap_50 (by decide) ?_
          exact ret_z hF dX2_leap_51 (by decide) (by simp [bI, c47, nI0]) (by rw [leapP, if_pos c47])
      · exact absurd (nI_le (by omega) (by omega)) c9
    | succ k ih =>
      intro i v hi he
      refine r_iload_n hJ dX2_leap_6 rfl jg3 ?_
      refine r_bipush hJ (v := nI 64) dX2_leap_7 (by decide) ?_
      refine r_icmp_ge hJ (tgt := 45) dX2_leap_9 (by decide) (fun c9 => ?_) (fun c9 => ?_)
      · exact absurd c9 (nI_ge (by omega) (by omega))
      · refine r_aload_n hJ dX2_leap_12 rfl jg0 ?_
        refine r_g2_5 hJ ho m58 dX2_leap_13 ?_
        refine r_iload_n hJ dX2_leap_16 rfl jg3 ?_
        refine r_ialdO hJ (by omega) (alP2 ho (by omega)) rfl dX2_leap_17 ?_
        refine r_iconst hJ (v := (-1)) dX2_leap_18 (by decide) ?_
        refine r_icmp_eq hJ (tgt := 39) dX2_leap_19 (by decide) (fun c19 => ?_) (fun c19 => ?_)
        · refine r_iinc hJ dX2_leap_39 jg3 (ii1 _) (jp3 rfl rfl) ?_
          refine r_goto hJ (tgt := 6) dX2_leap_42 (by decide) ?_
          exact ih (i + 1) _ (by omega) (by rw [← he, nextN, if_neg (by simp [c19])])
        · refine r_aload_n hJ dX2_leap_22 rfl jg0 ?_
          refine r_g2_8 hJ ho m62 dX2_leap_23 ?_
          refine r_iload_n hJ dX2_leap_26 rfl jg3 ?_
          refine r_ialdO hJ (by omega) (alP5 ho (by omega)) rfl dX2_leap_27 ?_
          refine r_iload_n hJ dX2_leap_28 rfl jg2 ?_
          refine r_icmp_ge hJ (tgt := 39) dX2_leap_29 (by decide) (fun c29 => ?_) (fun c29 => ?_)
          · refine r_iinc hJ dX2_leap_39 jg3 (ii1 _) (jp3 rfl rfl) ?_
            refine r_goto hJ (tgt := 6) dX2_leap_42 (by decide) ?_
            exact ih (i + 1) _ (by omega) (by rw [← he, nextN, if_neg (by simp; intro; exact c29)])
          · refine r_aload_n hJ dX2_leap_32 rfl jg0 ?_
            refine r_g2_8 hJ ho m62 dX2_leap_33 ?_
            refine r_iload_n hJ dX2_leap_36 rfl jg3 ?_
            refine r_ialdO hJ (by omega) (alP5 ho (by omega)) rfl dX2_leap_37 ?_
            refine r_istore_n hJ dX2_leap_38 rfl (jp2 rfl rfl) ?_
            refine r_iinc hJ dX2_leap_39 jg3 (ii1 _) (jp3 rfl rfl) ?_
            refine r_goto hJ (tgt := 6) dX2_leap_42 (by decide) ?_
            exact ih (i + 1) _ (by omega) (by rw [← he, nextN, if_pos ⟨c19, Int32.not_le.mp c29⟩])
  refine r_iload_n hJ dX2_leap_0 rfl jg1 ?_
  refine r_iconst hJ (v := nI 1) dX2_leap_1 (by decide) ?_
  refine r_iadd hJ dX2_leap_2 ?_
  refine r_istore_n hJ dX2_leap_3 rfl (jp2 rfl rfl) ?_
  refine r_iconst hJ (v := nI 0) dX2_leap_4 (by decide) ?_
  refine r_istore_n hJ dX2_leap_5 rfl (jp3 rfl rfl) ?_
  exact loop 64 0 _ (by omega) rfl
