set_option maxRecDepth 100000 in
set_option maxHeartbeats 1000000 in
theorem c5_begins (l : Launch) (E : jE) (S : jS) (x : jX) (v lo hi : Int32) : Ct l E yX5_begins cX5_begins 3 (some .boolean) 2 [.int v, .int lo, .int hi] (S, x) (some (.int (bI (begQ v lo hi)))) (S, x) := by
  refine Ct.of (by decide +kernel) (Nat.le_refl _) (Nat.le_of_ble_eq_true rfl) rfl (fun J hJ hF => ?_)
  refine r_iload_n hJ dX5_begins_0 rfl jg0 ?_
  refine r_iload_n hJ dX5_begins_1 rfl jg1 ?_
  refine r_iload_n hJ dX5_begins_2 rfl jg2 ?_
  refine r_S3v hJ kX5_29 (c5_in l E S x v lo hi) dX5_begins_3 ⟨by decide, by decide⟩ (Nat.le_of_ble_eq_true rfl) ?_
  refine r_if_ne hJ (tgt := 32) dX5_begins_6 (by decide) (fun c6 => ?_) (fun c6 => ?_)
  · have c6 : witQ v lo hi = true := bI_ne c6
    refine r_iconst hJ (v := nI 1) dX5_begins_32 (by decide) ?_
    refine r_goto hJ (tgt := 37) dX5_begins_33 (by decide) ?_
    exact ret_z hF dX5_begins_37 (by decide) (by simp [begQ, bI, c6] <;> rfl) rfl
  · have c6 : witQ v lo hi = false := bI_0.mp c6
    refine r_iload_n hJ dX5_begins_9 rfl jg0 ?_
    refine r_if_le hJ (tgt := 36) dX5_begins_10 (by decide) (fun c10 => ?_) (fun c10 => ?_)
    · have c10 := Int32.not_lt.mpr c10
      refine r_iconst hJ (v := nI 0) dX5_begins_36 (by decide) ?_
      exact ret_z hF dX5_begins_37 (by decide) (by simp [begQ, bI, c6, c10] <;> rfl) rfl
    · have c10 := Int32.not_le.mp c10
      refine r_bipush hJ (v := nI 10) dX5_begins_13 (by decide) ?_
      refine r_iload_n hJ dX5_begins_15 rfl jg0 ?_
      refine r_imul hJ dX5_begins_16 ?_
      refine r_bipush hJ (v := nI 9) dX5_begins_17 (by decide) ?_
      refine r_iadd hJ dX5_begins_19 ?_
      refine r_iload_n hJ dX5_begins_20 rfl jg1 ?_
      refine r_icmp_lt hJ (tgt := 36) dX5_begins_21 (by decide) (fun c21 => ?_) (fun c21 => ?_)
      · have c21 := Int32.not_le.mpr c21
        refine r_iconst hJ (v := nI 0) dX5_begins_36 (by decide) ?_
        exact ret_z hF dX5_begins_37 (by decide) (by simp [begQ, bI, c6, c10, c21] <;> rfl) rfl
      · have c21 := Int32.not_lt.mp c21
        refine r_bipush hJ (v := nI 10) dX5_begins_24 (by decide) ?_
        refine r_iload_n hJ dX5_begins_26 rfl jg0 ?_
        refine r_imul hJ dX5_begins_27 ?_
        refine r_iload_n hJ dX5_begins_28 rfl jg2 ?_
        refine r_icmp_gt hJ (tgt := 36) dX5_begins_29 (by decide) (fun c29 => ?_) (fun c29 => ?_)
        · have c29 := Int32.not_le.mpr c29
          refine r_iconst hJ (v := nI 0) dX5_begins_36 (by decide) ?_
          exact ret_z hF dX5_begins_37 (by decide) (by simp [begQ, bI, c6, c10, c21, c29] <;> rfl) rfl
        · have c29 := Int32.not_lt.mp c29
          refine r_iconst hJ (v := nI 1) dX5_begins_32 (by decide) ?_
          refine r_goto hJ (tgt := 37) dX5_begins_33 (by decide) ?_
          exact ret_z hF dX5_begins_37 (by decide) (by simp [begQ, bI, c6, c10, c21, c29] <;> rfl) rfl

theorem TI_lt {T : jO} {k : Nat} (h : TI T k) (hl : T 0 3 < T 0 1) : aT T < 60 := by
  obtain ⟨h1, h2, h3, h4, -⟩ := h
  rw [h1, h3] at hl
  have := (nI_ltI (by omega) (by omega)).mp hl
  omega
theorem GR_wh1 {T : jO} {k : Nat} (h : TI T k) (hl : T 0 3 < T 0 1) : GR T (mWh1 T) k 1 := (GR_f (by decide) h).tr (GR_next (GR_f (by decide) h).1 (by rwa [pfa (by decide), pfa (by decide)]))
theorem mWh1_5 (T : jO) : mWh1 T 0 5 = mDig T := by
  show put (put T 0 5 (mDig T)) 0 3 ((put T 0 5 (mDig T)) 0 3 + nI 1) 0 5 = _
  rw [pfa (by decide), put_at, if_pos rfl]
set_option maxRecDepth 100000 in
set_option maxHeartbeats 1000000 in
theorem c5_isWhole (l : Launch) (E : jE) (S : jS) (x : jX) (T : jO) {k : Nat} (hT : TI T k) (lo hi : Int32) : Ct l E yX5_isWhole cX5_isWhole 3 (some .boolean) 4 [.ref (ad E 10 0), .int lo, .int hi] (setO S 10 T, x) (some (.int (bI (mWhole T lo hi).2))) (setO S 10 (mWhole T lo hi).1, x) := by
  refine Ct.of (by decide +kernel) (Nat.le_refl _) (Nat.le_of_ble_eq_true rfl) rfl (fun J hJ hF => ?_)
  obtain ⟨t1, t2, t3, t4, t5, t6⟩ := id hT
  refine r_aload_n hJ dX5_isWhole_0 rfl jg0 ?_
  refine r_bipush hJ (v := nI 48) dX5_isWhole_1 (by decide) ?_
  refine r_bipush hJ (v := nI 57) dX5_isWhole_3 (by decide) ?_
  refine r_V2v hJ kX5_131 (rcv5 E) (c5_isAt l E S x T hT (nI 48) (nI 57)) dX5_isWhole_5 ⟨by decide, by decide⟩ (Nat.le_of_ble_eq_true rfl) ?_
  refine r_if_eq hJ (tgt := 31) dX5_isWhole_8 (by decide) (fun c8 => ?_) (fun c8 => ?_)
  · have c8 : mAt T (nI 48) (nI 57) = false := bI_0.mp c8
    refine r_aload_n hJ dX5_isWhole_31 rfl jg0 ?_
    refine r_V0v hJ kX5_134 (rcv5 E) (c5_stops l E S x _) dX5_isWhole_32 ⟨by decide, by decide⟩ (Nat.le_of_ble_eq_true rfl) ?_
    exact ret_z hF dX5_isWhole_35 (by decide) (by simp [mWhole, bI, c8] <;> rfl) (by simp [mWhole, c8] <;> rfl)
  · have c8 : mAt T (nI 48) (nI 57) = true := bI_ne c8
    refine r_aload_n hJ dX5_isWhole_11 rfl jg0 ?_
    refine r_g5_4 hJ m795 dX5_isWhole_12 ?_
    refine r_aload_n hJ dX5_isWhole_15 rfl jg0 ?_
    refine r_g5_7O hJ m798 dX5_isWhole_16 ?_
    have hlt := TI_lt hT (mAt_lt c8)
    refine r_ialdO hJ (by omega) (alM4 (by omega)) t3 dX5_isWhole_19 ?_
    refine r_bipush hJ (v := nI 48) dX5_isWhole_20 (by decide) ?_
    refine r_isub hJ dX5_isWhole_22 ?_
    refine r_iload_n hJ dX5_isWhole_23 rfl jg1 ?_
    refine r_iload_n hJ dX5_isWhole_24 rfl jg2 ?_
    refine r_S3v hJ kX5_138 (c5_begins l E _ x (mDig T) lo hi) dX5_isWhole_25 ⟨by decide, by decide⟩ (Nat.le_of_ble_eq_true rfl) ?_
    refine r_if_ne hJ (tgt := 36) dX5_isWhole_28 (by decide) (fun c28 => ?_) (fun c28 => ?_)
    · have c28 : begQ (mDig T) lo hi = true := bI_ne c28
      refine r_aload_n hJ dX5_isWhole_36 rfl jg0 ?_
      refine r_aload_n hJ dX5_isWhole_37 rfl jg0 ?_
      refine r_g5_4 hJ m795 dX5_isWhole_38 ?_
      refine r_aload_n hJ dX5_isWhole_41 rfl jg0 ?_
      refine r_g5_7O hJ m798 dX5_isWhole_42 ?_
      refine r_ialdO hJ (by omega) (alM4 (by omega)) t3 dX5_isWhole_45 ?_
      refine r_bipush hJ (v := nI 48) dX5_isWhole_46 (by decide) ?_
      refine r_isub hJ dX5_isWhole_48 ?_
      refine r_p5_9 hJ m800 dX5_isWhole_49 ?_
      refine r_aload_n hJ dX5_isWhole_52 rfl jg0 ?_
      refine r_dup hJ dX5_isWhole_53 rfl ?_
      refine r_g5_7O hJ m798 dX5_isWhole_54 ?_
      refine r_iconst hJ (v := nI 1) dX5_isWhole_57 (by decide) ?_
      refine r_iadd hJ dX5_isWhole_58 ?_
      refine r_p5_7 hJ m798 dX5_isWhole_59 ?_
      change J (setO S 10 (mWh1 T), x) _ _ _
      have gW := GR_wh1 hT (mAt_lt c8)
      have hW5 := mWh1_5 T
      obtain ⟨W, hW⟩ : ∃ W, mWh1 T = W := ⟨_, rfl⟩
      rw [hW] at gW hW5 ⊢
      have hTW := gW.1
      obtain ⟨w1, w2, w3, w4, w5, w6⟩ := id hTW
      refine r_aload_n hJ dX5_isWhole_62 rfl jg0 ?_
      refine r_g5_9O hJ m800 dX5_isWhole_63 ?_
      rw [hW5]
      refine r_if_le hJ (tgt := 144) dX5_isWhole_66 (by decide) (fun c66 => ?_) (fun c66 => ?_)
      · have c66 := Int32.not_lt.mpr c66
        refine r_aload_n hJ dX5_isWhole_144 rfl jg0 ?_
        refine r_g5_9O hJ m800 dX5_isWhole_145 ?_
        rw [hW5]
        refine r_iload_n hJ dX5_isWhole_148 rfl jg1 ?_
        refine r_iload_n hJ dX5_isWhole_149 rfl jg2 ?_
        refine r_S3v hJ kX5_29 (c5_in l E _ x _ lo hi) dX5_isWhole_150 ⟨by decide, by decide⟩ (Nat.le_of_ble_eq_true rfl) ?_
        refine r_if_ne hJ (tgt := 163) dX5_isWhole_153 (by decide) (fun c153 => ?_) (fun c153 => ?_)
        · have c153 : witQ (mDig T) lo hi = true := bI_ne c153
          refine r_iconst hJ (v := nI 1) dX5_isWhole_163 (by decide) ?_
          refine r_goto hJ (tgt := 168) dX5_isWhole_164 (by decide) ?_
          exact ret_z hF dX5_isWhole_168 (by decide) (by simp [mWhole, hW, bI, c8, c28, c66, c153] <;> rfl) (by simp [mWhole, hW, c8, c28, c66, c153] <;> rfl)
        · have c153 : witQ (mDig T) lo hi = false := bI_0.mp c153
          refine r_aload_n hJ dX5_isWhole_156 rfl jg0 ?_
          refine r_V0v hJ kX5_134 (rcv5 E) (c5_stops l E S x _) dX5_isWhole_157 ⟨by decide, by decide⟩ (Nat.le_of_ble_eq_true rfl) ?_
          refine r_if_eq hJ (tgt := 167) dX5_isWhole_160 (by decide) (fun c160 => ?_) (fun c160 => ?_)
          · refine r_iconst hJ (v := nI 0) dX5_isWhole_167 (by decide) ?_
            exact ret_z hF dX5_isWhole_168 (by decide) (by simp [mWhole, hW, bI, c8, c28, c66, c153, c160] <;> rfl) (by simp [mWhole, hW, c8, c28, c66, c153, c160] <;> rfl)
          · exact absurd rfl c160
      · have c66 := Int32.not_le.mp c66
        refine r_aload_n hJ dX5_isWhole_69 rfl jg0 ?_
        refine r_bipush hJ (v := nI 48) dX5_isWhole_70 (by decide) ?_
        refine r_bipush hJ (v := nI 57) dX5_isWhole_72 (by decide) ?_
        refine r_V2v hJ kX5_131 (rcv5 E) (c5_isAt l E S x W hTW (nI 48) (nI 57)) dX5_isWhole_74 ⟨by decide, by decide⟩ (Nat.le_of_ble_eq_true rfl) ?_
        refine r_if_eq hJ (tgt := 144) dX5_isWhole_77 (by decide) (fun c77 => ?_) (fun c77 => ?_)
        · have c77 : mAt W (nI 48) (nI 57) = false := bI_0.mp c77
          refine r_aload_n hJ dX5_isWhole_144 rfl jg0 ?_
          refine r_g5_9O hJ m800 dX5_isWhole_145 ?_
          rw [hW5]
          refine r_iload_n hJ dX5_isWhole_148 rfl jg1 ?_
          refine r_iload_n hJ dX5_isWhole_149 rfl jg2 ?_
          refine r_S3v hJ kX5_29 (c5_in l E _ x _ lo hi) dX5_isWhole_150 ⟨by decide, by decide⟩ (Nat.le_of_ble_eq_true rfl) ?_
          refine r_if_ne hJ (tgt := 163) dX5_isWhole_153 (by decide) (fun c153 => ?_) (fun c153 => ?_)
          · have c153 : witQ (mDig T) lo hi = true := bI_ne c153
            refine r_iconst hJ (v := nI 1) dX5_isWhole_163 (by decide) ?_
            refine r_goto hJ (tgt := 168) dX5_isWhole_164 (by decide) ?_
            exact ret_z hF dX5_isWhole_168 (by decide) (by simp [mWhole, hW, bI, c8, c28, c66, c77, c153] <;> rfl) (by simp [mWhole, hW, c8, c28, c66, c77, c153] <;> rfl)
          · have c153 : witQ (mDig T) lo hi = false := bI_0.mp c153
            refine r_aload_n hJ dX5_isWhole_156 rfl jg0 ?_
            refine r_V0v hJ kX5_134 (rcv5 E) (c5_stops l E S x _) dX5_isWhole_157 ⟨by decide, by decide⟩ (Nat.le_of_ble_eq_true rfl) ?_
            refine r_if_eq hJ (tgt := 167) dX5_isWhole_160 (by decide) (fun c160 => ?_) (fun c160 => ?_)
            · refine r_iconst hJ (v := nI 0) dX5_isWhole_167 (by decide) ?_
              exact ret_z hF dX5_isWhole_168 (by decide) (by simp [mWhole, hW, bI, c8, c28, c66, c77, c153, c160] <;> rfl) (by simp [mWhole, hW, c8, c28, c66, c77, c153, c160] <;> rfl)
            · exact absurd rfl c160
        · have c77 : mAt W (nI 48) (nI 57) = true := bI_ne c77
          refine r_bipush hJ (v := nI 10) dX5_isWhole_80 (by decide) ?_
          refine r_aload_n hJ dX5_isWhole_82 rfl jg0 ?_
          refine r_g5_9O hJ m800 dX5_isWhole_83 ?_
          refine r_imul hJ dX5_isWhole_86 ?_
          refine r_aload_n hJ dX5_isWhole_87 rfl jg0 ?_
          refine r_g5_4 hJ m795 dX5_isWhole_88 ?_
          refine r_aload_n hJ dX5_isWhole_91 rfl jg0 ?_
          refine r_g5_7O hJ m798 dX5_isWhole_92 ?_
          have hlw := TI_lt hTW (mAt_lt c77)
          refine r_ialdO hJ (by omega) (alM4 (by omega)) w3 dX5_isWhole_95 ?_
          refine r_iadd hJ dX5_isWhole_96 ?_
          refine r_bipush hJ (v := nI 48) dX5_isWhole_97 (by decide) ?_
          refine r_isub hJ dX5_isWhole_99 ?_
          refine r_iload_n hJ dX5_isWhole_100 rfl jg1 ?_
          refine r_iload_n hJ dX5_isWhole_101 rfl jg2 ?_
          refine r_S3v hJ kX5_29 (c5_in l E _ x (mTwo W) lo hi) dX5_isWhole_102 ⟨by decide, by decide⟩ (Nat.le_of_ble_eq_true rfl) ?_
          refine r_if_eq hJ (tgt := 144) dX5_isWhole_105 (by decide) (fun c105 => ?_) (fun c105 => ?_)
          · have c105 : witQ (mTwo W) lo hi = false := bI_0.mp c105
            refine r_aload_n hJ dX5_isWhole_144 rfl jg0 ?_
            refine r_g5_9O hJ m800 dX5_isWhole_145 ?_
            rw [hW5]
            refine r_iload_n hJ dX5_isWhole_148 rfl jg1 ?_
            refine r_iload_n hJ dX5_isWhole_149 rfl jg2 ?_
            refine r_S3v hJ kX5_29 (c5_in l E _ x _ lo hi) dX5_isWhole_150 ⟨by decide, by decide⟩ (Nat.le_of_ble_eq_true rfl) ?_
            refine r_if_ne hJ (tgt := 163) dX5_isWhole_153 (by decide) (fun c153 => ?_) (fun c153 => ?_)
            · have c153 : witQ (mDig T) lo hi = true := bI_ne c153
              refine r_iconst hJ (v := nI 1) dX5_isWhole_163 (by decide) ?_
              refine r_goto hJ (tgt := 168) dX5_isWhole_164 (by decide) ?_
              exact ret_z hF dX5_isWhole_168 (by decide) (by simp [mWhole, hW, bI, c8, c28, c66, c77, c105, c153] <;> rfl) (by simp [mWhole, hW, c8, c28, c66, c77, c105, c153] <;> rfl)
            · have c153 : witQ (mDig T) lo hi = false := bI_0.mp c153
              refine r_aload_n hJ dX5_isWhole_156 rfl jg0 ?_
              refine r_V0v hJ kX5_134 (rcv5 E) (c5_stops l E S x _) dX5_isWhole_157 ⟨by decide, by decide⟩ (Nat.le_of_ble_eq_true rfl) ?_
              refine r_if_eq hJ (tgt := 167) dX5_isWhole_160 (by decide) (fun c160 => ?_) (fun c160 => ?_)
              · refine r_iconst hJ (v := nI 0) dX5_isWhole_167 (by decide) ?_
                exact ret_z hF dX5_isWhole_168 (by decide) (by simp [mWhole, hW, bI, c8, c28, c66, c77, c105, c153, c160] <;> rfl) (by simp [mWhole, hW, c8, c28, c66, c77, c105, c153, c160] <;> rfl)
              · exact absurd rfl c160
          · have c105 : witQ (mTwo W) lo hi = true := bI_ne c105
            refine r_aload_n hJ dX5_isWhole_108 rfl jg0 ?_
            refine r_bipush hJ (v := nI 10) dX5_isWhole_109 (by decide) ?_
            refine r_aload_n hJ dX5_isWhole_111 rfl jg0 ?_
            refine r_g5_9O hJ m800 dX5_isWhole_112 ?_
            refine r_imul hJ dX5_isWhole_115 ?_
            refine r_aload_n hJ dX5_isWhole_116 rfl jg0 ?_
            refine r_g5_4 hJ m795 dX5_isWhole_117 ?_
            refine r_aload_n hJ dX5_isWhole_120 rfl jg0 ?_
            refine r_g5_7O hJ m798 dX5_isWhole_121 ?_
            refine r_ialdO hJ (by omega) (alM4 (by omega)) w3 dX5_isWhole_124 ?_
            refine r_iadd hJ dX5_isWhole_125 ?_
            refine r_bipush hJ (v := nI 48) dX5_isWhole_126 (by decide) ?_
            refine r_isub hJ dX5_isWhole_128 ?_
            refine r_p5_9 hJ m800 dX5_isWhole_129 ?_
            refine r_aload_n hJ dX5_isWhole_132 rfl jg0 ?_
            refine r_dup hJ dX5_isWhole_133 rfl ?_
            refine r_g5_7O hJ m798 dX5_isWhole_134 ?_
            refine r_iconst hJ (v := nI 1) dX5_isWhole_137 (by decide) ?_
            refine r_iadd hJ dX5_isWhole_138 ?_
            refine r_p5_7 hJ m798 dX5_isWhole_139 ?_
            refine r_iconst hJ (v := nI 1) dX5_isWhole_142 (by decide) ?_
            exact ret_z hF dX5_isWhole_143 (by decide) (by simp [mWhole, hW, bI, c8, c28, c66, c77, c105] <;> rfl) (by simp [mWhole, hW, c8, c28, c66, c77, c105] <;> rfl)
    · have c28 : begQ (mDig T) lo hi = false := bI_0.mp c28
      refine r_aload_n hJ dX5_isWhole_31 rfl jg0 ?_
      refine r_V0v hJ kX5_134 (rcv5 E) (c5_stops l E S x _) dX5_isWhole_32 ⟨by decide, by decide⟩ (Nat.le_of_ble_eq_true rfl) ?_
      exact ret_z hF dX5_isWhole_35 (by decide) (by simp [mWhole, bI, c8, c28] <;> rfl) (by simp [mWhole, c8, c28] <;> rfl)

set_option maxRecDepth 100000 in
set_option maxHeartbeats 1000000 in
theorem c5_isTold (l : Launch) (E : jE) (S : jS) (x : jX) (T : jO) {k : Nat} (hT : TI T k) {j : Nat} (hj : j ≤ 3) (lo hi : Int32) : Ct l E yX5_isTold cX5_isTold 5 (some .boolean) 5 [.ref (ad E 10 0), .int (nI j), .int lo, .int hi] (setO S 10 T, x) (some (.int (bI (mTold T j lo hi).2))) (setO S 10 (mTold T j lo hi).1, x) := by
  refine Ct.of (by decide +kernel) (Nat.le_refl _) (Nat.le_of_ble_eq_true rfl) rfl (fun J hJ hF => ?_)
  obtain ⟨t1, t2, t3, t4, t5, t6⟩ := id hT
  refine r_aload_n hJ dX5_isTold_0 rfl jg0 ?_
  refine r_iload_n hJ dX5_isTold_1 rfl jg2 ?_
  refine r_iload_n hJ dX5_isTold_2 rfl jg3 ?_
  refine r_V2v hJ kX5_144 (rcv5 E) (c5_isWhole l E S x T hT lo hi) dX5_isTold_3 ⟨by decide, by decide⟩ (Nat.le_of_ble_eq_true rfl) ?_
  obtain ⟨A, hA⟩ : ∃ A, mWhole T lo hi = A := ⟨_, rfl⟩
  have gA := (SR_whole (lo := lo) (hi := hi) hT).1.1
  rw [hA] at gA ⊢
  obtain ⟨w1, w2, w3, w4, w5, w6⟩ := gA
  refine r_istore hJ dX5_isTold_6 (jp4 rfl rfl) ?_
  refine r_aload_n hJ dX5_isTold_8 rfl jg0 ?_
  refine r_g5_10 hJ m801 dX5_isTold_9 ?_
  refine r_iconst hJ (v := nI 4) dX5_isTold_12 (by decide) ?_
  refine r_aload_n hJ dX5_isTold_13 rfl jg0 ?_
  refine r_g5_11O hJ m802 dX5_isTold_14 ?_
  rw [w5]
  refine r_imulN hJ dX5_isTold_17 ?_
  refine r_iload_n hJ dX5_isTold_18 rfl jg1 ?_
  refine r_iaddN hJ dX5_isTold_19 ?_
  refine r_aload_n hJ dX5_isTold_20 rfl jg0 ?_
  refine r_g5_9O hJ m800 dX5_isTold_21 ?_
  refine r_iast hJ (by omega) (alM5 (by omega)) rfl dX5_isTold_24 ?_
  refine r_iload hJ dX5_isTold_25 jg4 ?_
  exact ret_z hF dX5_isTold_27 (bI_nar _).1 (by simp [mTold, hA]) (by simp [mTold, hA, t5, show toN (nI k) = k from toN_nI (by omega)])

theorem n76 : (nI 119 = nI 116) = False := by decide
theorem n60 : (nI 116 = nI 100) = False := by decide
theorem n90 : (nI 119 = nI 100) = False := by decide
theorem n79 : (nI 119 = nI 119) = True := by decide
set_option maxRecDepth 100000 in
set_option maxHeartbeats 1000000 in
theorem c5_isOrder (l : Launch) (E : jE) (S : jS) (x : jX) (T : jO) {k : Nat} (hT : TI T k) : Ct l E yX5_isOrder cX5_isOrder 2 (some .boolean) 6 [.ref (ad E 10 0)] (setO S 10 T, x) (some (.int (bI (mOrder T).2))) (setO S 10 (mOrder T).1, x) := by
  refine Ct.of (by decide +kernel) (Nat.le_refl _) (Nat.le_of_ble_eq_true rfl) rfl (fun J hJ hF => ?_)
  obtain ⟨t1, t2, t3, t4, t5, t6⟩ := id hT
  have tail : (mAt T (nI 116) (nI 116) || mAt T (nI 119) (nI 119) || mAt T (nI 103) (nI 103) || mAt T (nI 100) (nI 100)) = true → J (setO S 10 T, x) 49 [some (.ref (ad E 10 0)), none] [] := by
    intro hor
    have hlt := TI_lt hT (mOr4 hor)
    refine r_aload_n hJ dX5_isOrder_49 rfl jg0 ?_
    refine r_g5_4 hJ m795 dX5_isOrder_50 ?_
    refine r_aload_n hJ dX5_isOrder_53 rfl jg0 ?_
    refine r_g5_7O hJ m798 dX5_isOrder_54 ?_
    refine r_ialdO hJ (by omega) (alM4 (by omega)) t3 dX5_isOrder_57 ?_
    refine r_istore_n hJ dX5_isOrder_58 rfl (jp1 rfl rfl) ?_
    have eC : T 4 (toN (T 0 3)) = T 4 (aT T) := rfl
    obtain ⟨c, hc⟩ : ∃ c, T 4 (aT T) = c := ⟨_, rfl⟩
    rw [hc]
    refine r_aload_n hJ dX5_isOrder_59 rfl jg0 ?_
    refine r_g5_10 hJ m801 dX5_isOrder_60 ?_
    refine r_iconst hJ (v := nI 4) dX5_isOrder_63 (by decide) ?_
    refine r_aload_n hJ dX5_isOrder_64 rfl jg0 ?_
    refine r_g5_11O hJ m802 dX5_isOrder_65 ?_
    rw [t5]
    refine r_imulN hJ dX5_isOrder_68 ?_
    refine r_iload_n hJ dX5_isOrder_69 rfl jg1 ?_
    refine r_iast hJ (by omega) (alM5 (by omega)) rfl dX5_isOrder_70 ?_
    refine r_aload_n hJ dX5_isOrder_71 rfl jg0 ?_
    refine r_dup hJ dX5_isOrder_72 rfl ?_
    refine r_g5_7O hJ m798 dX5_isOrder_73 ?_
    refine r_iconst hJ (v := nI 1) dX5_isOrder_76 (by decide) ?_
    refine r_iadd hJ dX5_isOrder_77 ?_
    refine r_p5_7 hJ m798 dX5_isOrder_78 ?_
    have gT1 : GR T (mNext (put T 5 (4 * toN (T 0 6)) (T 4 (toN (T 0 3))))) k 1 := (GR_o hT).tr (GR_next (GR_o hT).1 (mOr4 hor))
    have hk : toN (T 0 6) = k := by rw [t5, toN_nI (by omega)]
    rw [hk, eC, hc] at gT1
    change J (setO S 10 (mNext (put T 5 (4 * k) c)), x) _ _ _
    obtain ⟨T1, hT1⟩ : ∃ T1, mNext (put T 5 (4 * k) c) = T1 := ⟨_, rfl⟩
    rw [hT1] at gT1 ⊢
    have hO : mOrder T = (if c = nI 100 then mTold T1 1 (nI 1) (nI 99) else andB (mTold T1 1 (nI 0) (nI 7)) fun A => if c = nI 116 then andB (mSign A (nI 42)) fun B => mTold B 2 (nI 1) (nI 99) else if c = nI 119 then andB (mSign A (nI 64)) fun B => andB (mTold B 2 (nI 0) (nI 63)) fun C => andB (mSign C (nI 42)) fun D => mTold D 3 (nI 1) (nI 99) else andB (mSign A (nI 58)) fun B => andB (mTold B 2 (nI 0) (nI 63)) fun C => andB (mSign C (nI 45)) fun D => mTold D 3 (D 5 (4 * toN (D 0 6) + 2)) (nI 63)) := by
      unfold mOrder
      rw [if_pos hor]
      dsimp only
      rw [hk, eC, hc, hT1]
    refine r_iload_n hJ dX5_isOrder_81 rfl jg1 ?_
    refine r_bipush hJ (v := nI 100) dX5_isOrder_82 (by decide) ?_
    refine r_icmp_ne hJ (tgt := 96) dX5_isOrder_84 (by decide) (fun c84 => ?_) (fun c84 => ?_)
    · refine r_aload_n hJ dX5_isOrder_96 rfl jg0 ?_
      refine r_iconst hJ (v := nI 1) dX5_isOrder_97 (by decide) ?_
      refine r_iconst hJ (v := nI 0) dX5_isOrder_98 (by decide) ?_
      refine r_bipush hJ (v := nI 7) dX5_isOrder_99 (by decide) ?_
      obtain ⟨A, hA⟩ : ∃ p, mTold T1 1 (nI 0) (nI 7) = p := ⟨_, rfl⟩
      have hcA := c5_isTold l E S x T1 gT1.1 (j := 1) (by decide) (nI 0) (nI 7)
      have gA := (SR_told (j := 1) (lo := (nI 0)) (hi := (nI 7)) gT1.1).1.1
      rw [hA] at hcA gA
      refine r_V3v hJ kX5_150 (rcv5 E) (hcA) dX5_isOrder_101 ⟨by decide, by decide⟩ (Nat.le_of_ble_eq_true rfl) ?_
      refine r_if_ne hJ (tgt := 109) dX5_isOrder_104 (by decide) (fun c104 => ?_) (fun c104 => ?_)
      · have c104 : A.2 = true := bI_ne c104
        refine r_iload_n hJ dX5_isOrder_109 rfl jg1 ?_
        refine r_bipush hJ (v := nI 116) dX5_isOrder_110 (by decide) ?_
        refine r_icmp_ne hJ (tgt := 141) dX5_isOrder_112 (by decide) (fun c112 => ?_) (fun c112 => ?_)
        · refine r_iload_n hJ dX5_isOrder_141 rfl jg1 ?_
          refine r_bipush hJ (v := nI 119) dX5_isOrder_142 (by decide) ?_
          refine r_icmp_ne hJ (tgt := 193) dX5_isOrder_144 (by decide) (fun c144 => ?_) (fun c144 => ?_)
          · refine r_aload_n hJ dX5_isOrder_193 rfl jg0 ?_
            refine r_bipush hJ (v := nI 58) dX5_isOrder_194 (by decide) ?_
            obtain ⟨B, hB⟩ : ∃ p, mSign A.1 (nI 58) = p := ⟨_, rfl⟩
            have hcB := c5_isSign l E S x A.1 gA (nI 58)
            have gB := (SR_sign (s := (nI 58)) gA).1.1
            rw [hB] at hcB gB
            refine r_V1v hJ kX5_153 (rcv5 E) (hcB) dX5_isOrder_196 ⟨by decide, by decide⟩ (Nat.le_of_ble_eq_true rfl) ?_
            refine r_if_eq hJ (tgt := 249) dX5_isOrder_199 (by decide) (fun c199 => ?_) (fun c199 => ?_)
            · have c199 : B.2 = false := bI_0.mp c199
              refine r_iconst hJ (v := nI 0) dX5_isOrder_249 (by decide) ?_
              exact ret_z hF dX5_isOrder_250 (by decide) (by simp [hO, andB, hA, hB, c84, c104, c112, c144, c199, bI, n76, n60, n90] <;> rfl) (by simp [hO, andB, hA, hB, c84, c104, c112, c144, c199, n76, n60, n90] <;> rfl)
            · have c199 : B.2 = true := bI_ne c199
              refine r_aload_n hJ dX5_isOrder_202 rfl jg0 ?_
              refine r_iconst hJ (v := nI 2) dX5_isOrder_203 (by decide) ?_
              refine r_iconst hJ (v := nI 0) dX5_isOrder_204 (by decide) ?_
              refine r_bipush hJ (v := nI 63) dX5_isOrder_205 (by decide) ?_
              obtain ⟨C, hC⟩ : ∃ p, mTold B.1 2 (nI 0) (nI 63) = p := ⟨_, rfl⟩
              have hcC := c5_isTold l E S x B.1 gB (j := 2) (by decide) (nI 0) (nI 63)
              have gC := (SR_told (j := 2) (lo := (nI 0)) (hi := (nI 63)) gB).1.1
              rw [hC] at hcC gC
              refine r_V3v hJ kX5_150 (rcv5 E) (hcC) dX5_isOrder_207 ⟨by decide, by decide⟩ (Nat.le_of_ble_eq_true rfl) ?_
              refine r_if_eq hJ (tgt := 249) dX5_isOrder_210 (by decide) (fun c210 => ?_) (fun c210 => ?_)
              · have c210 : C.2 = false := bI_0.mp c210
                refine r_iconst hJ (v := nI 0) dX5_isOrder_249 (by decide) ?_
                exact ret_z hF dX5_isOrder_250 (by decide) (by simp [hO, andB, hA, hB, hC, c84, c104, c112, c144, c199, c210, bI, n76, n60, n90] <;> rfl) (by simp [hO, andB, hA, hB, hC, c84, c104, c112, c144, c199, c210, n76, n60, n90] <;> rfl)
              · have c210 : C.2 = true := bI_ne c210
                refine r_aload_n hJ dX5_isOrder_213 rfl jg0 ?_
                refine r_bipush hJ (v := nI 45) dX5_isOrder_214 (by decide) ?_
                obtain ⟨D, hD⟩ : ∃ p, mSign C.1 (nI 45) = p := ⟨_, rfl⟩
                have hcD := c5_isSign l E S x C.1 gC (nI 45)
                have gD := (SR_sign (s := (nI 45)) gC).1.1
                rw [hD] at hcD gD
                refine r_V1v hJ kX5_153 (rcv5 E) (hcD) dX5_isOrder_216 ⟨by decide, by decide⟩ (Nat.le_of_ble_eq_true rfl) ?_
                refine r_if_eq hJ (tgt := 249) dX5_isOrder_219 (by decide) (fun c219 => ?_) (fun c219 => ?_)
                · have c219 : D.2 = false := bI_0.mp c219
                  refine r_iconst hJ (v := nI 0) dX5_isOrder_249 (by decide) ?_
                  exact ret_z hF dX5_isOrder_250 (by decide) (by simp [hO, andB, hA, hB, hC, hD, c84, c104, c112, c144, c199, c210, c219, bI, n76, n60, n90] <;> rfl) (by simp [hO, andB, hA, hB, hC, hD, c84, c104, c112, c144, c199, c210, c219, n76, n60, n90] <;> rfl)
                · have c219 : D.2 = true := bI_ne c219
                  refine r_aload_n hJ dX5_isOrder_222 rfl jg0 ?_
                  refine r_iconst hJ (v := nI 3) dX5_isOrder_223 (by decide) ?_
                  refine r_aload_n hJ dX5_isOrder_224 rfl jg0 ?_
                  refine r_g5_10 hJ m801 dX5_isOrder_225 ?_
                  refine r_iconst hJ (v := nI 4) dX5_isOrder_228 (by decide) ?_
                  refine r_aload_n hJ dX5_isOrder_229 rfl jg0 ?_
                  obtain ⟨d1, d2, d3, d4, d5, d6⟩ := id gD
                  refine r_g5_11O hJ m802 dX5_isOrder_230 ?_
                  rw [d5]
                  refine r_imulN hJ dX5_isOrder_233 ?_
                  refine r_iconst hJ (v := nI 2) dX5_isOrder_234 (by decide) ?_
                  refine r_iaddN hJ dX5_isOrder_235 ?_
                  refine r_ialdO hJ (by omega) (alM5 (by omega)) rfl dX5_isOrder_236 ?_
                  rw [show D.1 5 (4 * k + 2) = D.1 5 (4 * toN (D.1 0 6) + 2) from by rw [d5, toN_nI (by omega)]]
                  refine r_bipush hJ (v := nI 63) dX5_isOrder_237 (by decide) ?_
                  obtain ⟨V, hV⟩ : ∃ p, mTold D.1 3 (D.1 5 (4 * toN (D.1 0 6) + 2)) (nI 63) = p := ⟨_, rfl⟩
                  have hcV := c5_isTold l E S x D.1 gD (j := 3) (by decide) (D.1 5 (4 * toN (D.1 0 6) + 2)) (nI 63)
                  have gV := (SR_told (j := 3) (lo := (D.1 5 (4 * toN (D.1 0 6) + 2))) (hi := (nI 63)) gD).1.1
                  rw [hV] at hcV gV
                  refine r_V3v hJ kX5_150 (rcv5 E) (hcV) dX5_isOrder_239 ⟨by decide, by decide⟩ (Nat.le_of_ble_eq_true rfl) ?_
                  refine r_if_eq hJ (tgt := 249) dX5_isOrder_242 (by decide) (fun c242 => ?_) (fun c242 => ?_)
                  · have c242 : V.2 = false := bI_0.mp c242
                    refine r_iconst hJ (v := nI 0) dX5_isOrder_249 (by decide) ?_
                    exact ret_z hF dX5_isOrder_250 (by decide) (by simp [hO, andB, hA, hB, hC, hD, hV, c84, c104, c112, c144, c199, c210, c219, c242, bI, n76, n60, n90] <;> rfl) (by simp [hO, andB, hA, hB, hC, hD, hV, c84, c104, c112, c144, c199, c210, c219, c242, n76, n60, n90] <;> rfl)
                  · have c242 : V.2 = true := bI_ne c242
                    refine r_iconst hJ (v := nI 1) dX5_isOrder_245 (by decide) ?_
                    refine r_goto hJ (tgt := 250) dX5_isOrder_246 (by decide) ?_
                    exact ret_z hF dX5_isOrder_250 (by decide) (by simp [hO, andB, hA, hB, hC, hD, hV, c84, c104, c112, c144, c199, c210, c219, c242, bI, n76, n60, n90] <;> rfl) (by simp [hO, andB, hA, hB, hC, hD, hV, c84, c104, c112, c144, c199, c210, c219, c242, n76, n60, n90] <;> rfl)
          · refine r_aload_n hJ dX5_isOrder_147 rfl jg0 ?_
            refine r_bipush hJ (v := nI 64) dX5_isOrder_148 (by decide) ?_
            obtain ⟨B, hB⟩ : ∃ p, mSign A.1 (nI 64) = p := ⟨_, rfl⟩
            have hcB := c5_isSign l E S x A.1 gA (nI 64)
            have gB := (SR_sign (s := (nI 64)) gA).1.1
            rw [hB] at hcB gB
            refine r_V1v hJ kX5_153 (rcv5 E) (hcB) dX5_isOrder_150 ⟨by decide, by decide⟩ (Nat.le_of_ble_eq_true rfl) ?_
            refine r_if_eq hJ (tgt := 191) dX5_isOrder_153 (by decide) (fun c153 => ?_) (fun c153 => ?_)
            · have c153 : B.2 = false := bI_0.mp c153
              refine r_iconst hJ (v := nI 0) dX5_isOrder_191 (by decide) ?_
              exact ret_z hF dX5_isOrder_192 (by decide) (by simp [hO, andB, hA, hB, c84, c104, c112, c144, c153, bI, n76, n60, n90] <;> rfl) (by simp [hO, andB, hA, hB, c84, c104, c112, c144, c153, n76, n60, n90] <;> rfl)
            · have c153 : B.2 = true := bI_ne c153
              refine r_aload_n hJ dX5_isOrder_156 rfl jg0 ?_
              refine r_iconst hJ (v := nI 2) dX5_isOrder_157 (by decide) ?_
              refine r_iconst hJ (v := nI 0) dX5_isOrder_158 (by decide) ?_
              refine r_bipush hJ (v := nI 63) dX5_isOrder_159 (by decide) ?_
              obtain ⟨C, hC⟩ : ∃ p, mTold B.1 2 (nI 0) (nI 63) = p := ⟨_, rfl⟩
              have hcC := c5_isTold l E S x B.1 gB (j := 2) (by decide) (nI 0) (nI 63)
              have gC := (SR_told (j := 2) (lo := (nI 0)) (hi := (nI 63)) gB).1.1
              rw [hC] at hcC gC
              refine r_V3v hJ kX5_150 (rcv5 E) (hcC) dX5_isOrder_161 ⟨by decide, by decide⟩ (Nat.le_of_ble_eq_true rfl) ?_
              refine r_if_eq hJ (tgt := 191) dX5_isOrder_164 (by decide) (fun c164 => ?_) (fun c164 => ?_)
              · have c164 : C.2 = false := bI_0.mp c164
                refine r_iconst hJ (v := nI 0) dX5_isOrder_191 (by decide) ?_
                exact ret_z hF dX5_isOrder_192 (by decide) (by simp [hO, andB, hA, hB, hC, c84, c104, c112, c144, c153, c164, bI, n76, n60, n90] <;> rfl) (by simp [hO, andB, hA, hB, hC, c84, c104, c112, c144, c153, c164, n76, n60, n90] <;> rfl)
              · have c164 : C.2 = true := bI_ne c164
                refine r_aload_n hJ dX5_isOrder_167 rfl jg0 ?_
                refine r_bipush hJ (v := nI 42) dX5_isOrder_168 (by decide) ?_
                obtain ⟨D, hD⟩ : ∃ p, mSign C.1 (nI 42) = p := ⟨_, rfl⟩
                have hcD := c5_isSign l E S x C.1 gC (nI 42)
                have gD := (SR_sign (s := (nI 42)) gC).1.1
                rw [hD] at hcD gD
                refine r_V1v hJ kX5_153 (rcv5 E) (hcD) dX5_isOrder_170 ⟨by decide, by decide⟩ (Nat.le_of_ble_eq_true rfl) ?_
                refine r_if_eq hJ (tgt := 191) dX5_isOrder_173 (by decide) (fun c173 => ?_) (fun c173 => ?_)
                · have c173 : D.2 = false := bI_0.mp c173
                  refine r_iconst hJ (v := nI 0) dX5_isOrder_191 (by decide) ?_
                  exact ret_z hF dX5_isOrder_192 (by decide) (by simp [hO, andB, hA, hB, hC, hD, c84, c104, c112, c144, c153, c164, c173, bI, n76, n60, n90] <;> rfl) (by simp [hO, andB, hA, hB, hC, hD, c84, c104, c112, c144, c153, c164, c173, n76, n60, n90] <;> rfl)
                · have c173 : D.2 = true := bI_ne c173
                  refine r_aload_n hJ dX5_isOrder_176 rfl jg0 ?_
                  refine r_iconst hJ (v := nI 3) dX5_isOrder_177 (by decide) ?_
                  refine r_iconst hJ (v := nI 1) dX5_isOrder_178 (by decide) ?_
                  refine r_bipush hJ (v := nI 99) dX5_isOrder_179 (by decide) ?_
                  obtain ⟨V, hV⟩ : ∃ p, mTold D.1 3 (nI 1) (nI 99) = p := ⟨_, rfl⟩
                  have hcV := c5_isTold l E S x D.1 gD (j := 3) (by decide) (nI 1) (nI 99)
                  have gV := (SR_told (j := 3) (lo := (nI 1)) (hi := (nI 99)) gD).1.1
                  rw [hV] at hcV gV
                  refine r_V3v hJ kX5_150 (rcv5 E) (hcV) dX5_isOrder_181 ⟨by decide, by decide⟩ (Nat.le_of_ble_eq_true rfl) ?_
                  refine r_if_eq hJ (tgt := 191) dX5_isOrder_184 (by decide) (fun c184 => ?_) (fun c184 => ?_)
                  · have c184 : V.2 = false := bI_0.mp c184
                    refine r_iconst hJ (v := nI 0) dX5_isOrder_191 (by decide) ?_
                    exact ret_z hF dX5_isOrder_192 (by decide) (by simp [hO, andB, hA, hB, hC, hD, hV, c84, c104, c112, c144, c153, c164, c173, c184, bI, n76, n60, n90] <;> rfl) (by simp [hO, andB, hA, hB, hC, hD, hV, c84, c104, c112, c144, c153, c164, c173, c184, n76, n60, n90] <;> rfl)
                  · have c184 : V.2 = true := bI_ne c184
                    refine r_iconst hJ (v := nI 1) dX5_isOrder_187 (by decide) ?_
                    refine r_goto hJ (tgt := 192) dX5_isOrder_188 (by decide) ?_
                    exact ret_z hF dX5_isOrder_192 (by decide) (by simp [hO, andB, hA, hB, hC, hD, hV, c84, c104, c112, c144, c153, c164, c173, c184, bI, n76, n60, n90] <;> rfl) (by simp [hO, andB, hA, hB, hC, hD, hV, c84, c104, c112, c144, c153, c164, c173, c184, n76, n60, n90] <;> rfl)
        · refine r_aload_n hJ dX5_isOrder_115 rfl jg0 ?_
          refine r_bipush hJ (v := nI 42) dX5_isOrder_116 (by decide) ?_
          obtain ⟨B, hB⟩ : ∃ p, mSign A.1 (nI 42) = p := ⟨_, rfl⟩
          have hcB := c5_isSign l E S x A.1 gA (nI 42)
          have gB := (SR_sign (s := (nI 42)) gA).1.1
          rw [hB] at hcB gB
          refine r_V1v hJ kX5_153 (rcv5 E) (hcB) dX5_isOrder_118 ⟨by decide, by decide⟩ (Nat.le_of_ble_eq_true rfl) ?_
          refine r_if_eq hJ (tgt := 139) dX5_isOrder_121 (by decide) (fun c121 => ?_) (fun c121 => ?_)
          · have c121 : B.2 = false := bI_0.mp c121
            refine r_iconst hJ (v := nI 0) dX5_isOrder_139 (by decide) ?_
            exact ret_z hF dX5_isOrder_140 (by decide) (by simp [hO, andB, hA, hB, c84, c104, c112, c121, bI, n76, n60, n90] <;> rfl) (by simp [hO, andB, hA, hB, c84, c104, c112, c121, n76, n60, n90] <;> rfl)
          · have c121 : B.2 = true := bI_ne c121
            refine r_aload_n hJ dX5_isOrder_124 rfl jg0 ?_
            refine r_iconst hJ (v := nI 2) dX5_isOrder_125 (by decide) ?_
            refine r_iconst hJ (v := nI 1) dX5_isOrder_126 (by decide) ?_
            refine r_bipush hJ (v := nI 99) dX5_isOrder_127 (by decide) ?_
            obtain ⟨C, hC⟩ : ∃ p, mTold B.1 2 (nI 1) (nI 99) = p := ⟨_, rfl⟩
            have hcC := c5_isTold l E S x B.1 gB (j := 2) (by decide) (nI 1) (nI 99)
            have gC := (SR_told (j := 2) (lo := (nI 1)) (hi := (nI 99)) gB).1.1
            rw [hC] at hcC gC
            refine r_V3v hJ kX5_150 (rcv5 E) (hcC) dX5_isOrder_129 ⟨by decide, by decide⟩ (Nat.le_of_ble_eq_true rfl) ?_
            refine r_if_eq hJ (tgt := 139) dX5_isOrder_132 (by decide) (fun c132 => ?_) (fun c132 => ?_)
            · have c132 : C.2 = false := bI_0.mp c132
              refine r_iconst hJ (v := nI 0) dX5_isOrder_139 (by decide) ?_
              exact ret_z hF dX5_isOrder_140 (by decide) (by simp [hO, andB, hA, hB, hC, c84, c104, c112, c121, c132, bI, n76, n60, n90] <;> rfl) (by simp [hO, andB, hA, hB, hC, c84, c104, c112, c121, c132, n76, n60, n90] <;> rfl)
            · have c132 : C.2 = true := bI_ne c132
              refine r_iconst hJ (v := nI 1) dX5_isOrder_135 (by decide) ?_
              refine r_goto hJ (tgt := 140) dX5_isOrder_136 (by decide) ?_
              exact ret_z hF dX5_isOrder_140 (by decide) (by simp [hO, andB, hA, hB, hC, c84, c104, c112, c121, c132, bI, n76, n60, n90] <;> rfl) (by simp [hO, andB, hA, hB, hC, c84, c104, c112, c121, c132, n76, n60, n90] <;> rfl)
      · have c104 : A.2 = false := bI_0.mp c104
        refine r_iconst hJ (v := nI 0) dX5_isOrder_107 (by decide) ?_
        exact ret_z hF dX5_isOrder_108 (by decide) (by simp [hO, andB, hA, c84, c104, bI, n76, n60, n90] <;> rfl) (by simp [hO, andB, hA, c84, c104, n76, n60, n90] <;> rfl)
    · refine r_aload_n hJ dX5_isOrder_87 rfl jg0 ?_
      refine r_iconst hJ (v := nI 1) dX5_isOrder_88 (by decide) ?_
      refine r_iconst hJ (v := nI 1) dX5_isOrder_89 (by decide) ?_
      refine r_bipush hJ (v := nI 99) dX5_isOrder_90 (by decide) ?_
      obtain ⟨A, hA⟩ : ∃ p, mTold T1 1 (nI 1) (nI 99) = p := ⟨_, rfl⟩
      have hcA := c5_isTold l E S x T1 gT1.1 (j := 1) (by decide) (nI 1) (nI 99)
      have gA := (SR_told (j := 1) (lo := (nI 1)) (hi := (nI 99)) gT1.1).1.1
      rw [hA] at hcA gA
      refine r_V3v hJ kX5_150 (rcv5 E) (hcA) dX5_isOrder_92 ⟨by decide, by decide⟩ (Nat.le_of_ble_eq_true rfl) ?_
      exact ret_z hF dX5_isOrder_95 (bI_nar _).1 (by simp [hO, andB, hA, c84, bI, n76, n60, n90] <;> rfl) (by simp [hO, andB, hA, c84, n76, n60, n90] <;> rfl)
  refine r_aload_n hJ dX5_isOrder_0 rfl jg0 ?_
  refine r_bipush hJ (v := nI 116) dX5_isOrder_1 (by decide) ?_
  refine r_bipush hJ (v := nI 116) dX5_isOrder_3 (by decide) ?_
  refine r_V2v hJ kX5_131 (rcv5 E) (c5_isAt l E S x T hT (nI 116) (nI 116)) dX5_isOrder_5 ⟨by decide, by decide⟩ (Nat.le_of_ble_eq_true rfl) ?_
  refine r_if_ne hJ (tgt := 49) dX5_isOrder_8 (by decide) (fun c8 => ?_) (fun c8 => ?_)
  · have c8 : mAt T (nI 116) (nI 116) = true := bI_ne c8
    exact tail (by simp [c8])
  · have c8 : mAt T (nI 116) (nI 116) = false := bI_0.mp c8
    refine r_aload_n hJ dX5_isOrder_11 rfl jg0 ?_
    refine r_bipush hJ (v := nI 119) dX5_isOrder_12 (by decide) ?_
    refine r_bipush hJ (v := nI 119) dX5_isOrder_14 (by decide) ?_
    refine r_V2v hJ kX5_131 (rcv5 E) (c5_isAt l E S x T hT (nI 119) (nI 119)) dX5_isOrder_16 ⟨by decide, by decide⟩ (Nat.le_of_ble_eq_true rfl) ?_
    refine r_if_ne hJ (tgt := 49) dX5_isOrder_19 (by decide) (fun c19 => ?_) (fun c19 => ?_)
    · have c19 : mAt T (nI 119) (nI 119) = true := bI_ne c19
      exact tail (by simp [c8, c19])
    · have c19 : mAt T (nI 119) (nI 119) = false := bI_0.mp c19
      refine r_aload_n hJ dX5_isOrder_22 rfl jg0 ?_
      refine r_bipush hJ (v := nI 103) dX5_isOrder_23 (by decide) ?_
      refine r_bipush hJ (v := nI 103) dX5_isOrder_25 (by decide) ?_
      refine r_V2v hJ kX5_131 (rcv5 E) (c5_isAt l E S x T hT (nI 103) (nI 103)) dX5_isOrder_27 ⟨by decide, by decide⟩ (Nat.le_of_ble_eq_true rfl) ?_
      refine r_if_ne hJ (tgt := 49) dX5_isOrder_30 (by decide) (fun c30 => ?_) (fun c30 => ?_)
      · have c30 : mAt T (nI 103) (nI 103) = true := bI_ne c30
        exact tail (by simp [c8, c19, c30])
      · have c30 : mAt T (nI 103) (nI 103) = false := bI_0.mp c30
        refine r_aload_n hJ dX5_isOrder_33 rfl jg0 ?_
        refine r_bipush hJ (v := nI 100) dX5_isOrder_34 (by decide) ?_
        refine r_bipush hJ (v := nI 100) dX5_isOrder_36 (by decide) ?_
        refine r_V2v hJ kX5_131 (rcv5 E) (c5_isAt l E S x T hT (nI 100) (nI 100)) dX5_isOrder_38 ⟨by decide, by decide⟩ (Nat.le_of_ble_eq_true rfl) ?_
        refine r_if_ne hJ (tgt := 49) dX5_isOrder_41 (by decide) (fun c41 => ?_) (fun c41 => ?_)
        · have c41 : mAt T (nI 100) (nI 100) = true := bI_ne c41
          exact tail (by simp [c8, c19, c30, c41])
        · have c41 : mAt T (nI 100) (nI 100) = false := bI_0.mp c41
          refine r_aload_n hJ dX5_isOrder_44 rfl jg0 ?_
          refine r_V0v hJ kX5_134 (rcv5 E) (c5_stops l E S x _) dX5_isOrder_45 ⟨by decide, by decide⟩ (Nat.le_of_ble_eq_true rfl) ?_
          exact ret_z hF dX5_isOrder_48 (by decide) (by simp [mOrder, bI, c8, c19, c30, c41] <;> rfl) (by simp [mOrder, c8, c19, c30, c41] <;> rfl)
