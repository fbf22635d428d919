set_option maxRecDepth 100000 in
set_option maxHeartbeats 1000000 in
theorem c5_firstFree (l : Launch) (E : jE) (S : jS) (x : jX) (T : jO) {t : Nat} (ht : t = 1 ∨ t = 2) (r : Nat → Int32) {z : Nat} (hz : r 4 = nI z) (hz4 : z ≤ 64) (m : Int32) : Ct l E yX5_firstFree cX5_firstFree 4 (some .int) 3 [.ref (ad E 10 t), .int m] (setO S 10 (putA T t r), x) (some (.int (mFirst r m z 0 0))) (setO S 10 (putA T t r), x) := by
  refine Ct.of (by decide +kernel) (Nat.le_refl _) (Nat.le_of_ble_eq_true rfl) rfl (fun J hJ hF => ?_)
  have loop : ∀ (k i c : Nat), i + k = z → mFirst r m k i c = mFirst r m z 0 0 → J (setO S 10 (putA T t r), x) 4 [some (.ref (ad E 10 t)), some (.int m), some (.int (nI c)), some (.int (nI i))] [] := by
    intro k
    induction k with
    | zero =>
      intro i c hi he
      obtain rfl : i = z := by omega
      refine r_iload_n hJ dX5_firstFree_4 rfl jg3 ?_
      refine r_aload_n hJ dX5_firstFree_5 rfl jg0 ?_
      refine r_iconst hJ (v := nI 4) dX5_firstFree_6 (by decide) ?_
      refine r_ialdR hJ ht (by omega) rfl dX5_firstFree_7 ?_
      refine r_icmp_ge hJ (tgt := 44) dX5_firstFree_8 (by decide) (fun c8 => ?_) (fun c8 => ?_)
      · refine r_iconst hJ (v := (-1)) dX5_firstFree_44 (by decide) ?_
        exact ret_i hF dX5_firstFree_45 (by rw [← he]; rfl) rfl
      · rw [hz] at c8
        exact absurd (nI_le (by omega) (by omega)) c8
    | succ k ih =>
      intro i c hi he
      have e : mFirst r m (k + 1) i c = if nI (if mFree r i = true then c + 1 else 0) = m then nI i - m + nI 1 else mFirst r m k (i + 1) (if mFree r i = true then c + 1 else 0) := rfl
      refine r_iload_n hJ dX5_firstFree_4 rfl jg3 ?_
      refine r_aload_n hJ dX5_firstFree_5 rfl jg0 ?_
      refine r_iconst hJ (v := nI 4) dX5_firstFree_6 (by decide) ?_
      refine r_ialdR hJ ht (by omega) rfl dX5_firstFree_7 ?_
      refine r_icmp_ge hJ (tgt := 44) dX5_firstFree_8 (by decide) (fun c8 => ?_) (fun c8 => ?_)
      · rw [hz] at c8
        exact absurd c8 (nI_ge (by omega) (by omega))
      · refine r_aload_n hJ dX5_firstFree_11 rfl jg0 ?_
        refine r_iload_n hJ dX5_firstFree_12 rfl jg3 ?_
        refine r_S2v hJ kX5_43 (c5_isFree l E S x T ht r (n := i) (by omega)) dX5_firstFree_13 ⟨by decide, by decide⟩ (Nat.le_of_ble_eq_true rfl) ?_
        refine r_if_eq hJ (tgt := 25) dX5_firstFree_16 (by decide) (fun c16 => ?_) (fun c16 => ?_)
        · rw [bI_0] at c16
          have c16 : (if mFree r i = true then c + 1 else 0) = 0 := if_neg (by rw [c16]; decide)
          refine r_iconst hJ (v := nI 0) dX5_firstFree_25 (by decide) ?_
          refine r_istore_n hJ dX5_firstFree_26 rfl (jp2 rfl rfl) ?_
          refine r_iload_n hJ dX5_firstFree_27 rfl jg2 ?_
          refine r_iload_n hJ dX5_firstFree_28 rfl jg1 ?_
          refine r_icmp_ne hJ (tgt := 38) dX5_firstFree_29 (by decide) (fun c29 => ?_) (fun c29 => ?_)
          · refine r_iinc hJ dX5_firstFree_38 jg3 (ii1 _) (jp3 rfl rfl) ?_
            refine r_goto hJ (tgt := 4) dX5_firstFree_41 (by decide) ?_
            exact ih (i + 1) _ (by omega) (by rw [← he, e, c16, if_neg c29])
          · refine r_iload_n hJ dX5_firstFree_32 rfl jg3 ?_
            refine r_iload_n hJ dX5_firstFree_33 rfl jg1 ?_
            refine r_isub hJ dX5_firstFree_34 ?_
            refine r_iconst hJ (v := nI 1) dX5_firstFree_35 (by decide) ?_
            refine r_iadd hJ dX5_firstFree_36 ?_
            exact ret_i hF dX5_firstFree_37 (by rw [← he, e, c16, if_pos c29]) rfl
        · have c16 := bI_ne c16
          have c16 : (if mFree r i = true then c + 1 else 0) = c + 1 := if_pos c16
          refine r_iload_n hJ dX5_firstFree_19 rfl jg2 ?_
          refine r_iconst hJ (v := nI 1) dX5_firstFree_20 (by decide) ?_
          refine r_iaddN hJ dX5_firstFree_21 ?_
          refine r_goto hJ (tgt := 26) dX5_firstFree_22 (by decide) ?_
          refine r_istore_n hJ dX5_firstFree_26 rfl (jp2 rfl rfl) ?_
          refine r_iload_n hJ dX5_firstFree_27 rfl jg2 ?_
          refine r_iload_n hJ dX5_firstFree_28 rfl jg1 ?_
          refine r_icmp_ne hJ (tgt := 38) dX5_firstFree_29 (by decide) (fun c29 => ?_) (fun c29 => ?_)
          · refine r_iinc hJ dX5_firstFree_38 jg3 (ii1 _) (jp3 rfl rfl) ?_
            refine r_goto hJ (tgt := 4) dX5_firstFree_41 (by decide) ?_
            exact ih (i + 1) _ (by omega) (by rw [← he, e, c16, if_neg c29])
          · refine r_iload_n hJ dX5_firstFree_32 rfl jg3 ?_
            refine r_iload_n hJ dX5_firstFree_33 rfl jg1 ?_
            refine r_isub hJ dX5_firstFree_34 ?_
            refine r_iconst hJ (v := nI 1) dX5_firstFree_35 (by decide) ?_
            refine r_iadd hJ dX5_firstFree_36 ?_
            exact ret_i hF dX5_firstFree_37 (by rw [← he, e, c16, if_pos c29]) rfl
  refine r_iconst hJ (v := nI 0) dX5_firstFree_0 (by decide) ?_
  refine r_istore_n hJ dX5_firstFree_1 rfl (jp2 rfl rfl) ?_
  refine r_iconst hJ (v := nI 0) dX5_firstFree_2 (by decide) ?_
  refine r_istore_n hJ dX5_firstFree_3 rfl (jp3 rfl rfl) ?_
  exact loop z 0 0 (by omega) rfl

set_option maxRecDepth 100000 in
set_option maxHeartbeats 1000000 in
theorem c5_wishOf (l : Launch) (E : jE) (S : jS) (x : jX) (T : jO) {t : Nat} (ht : t = 1 ∨ t = 2) (r : Nat → Int32) {n w : Nat} (hn : n < 64) (hw3 : w ≤ 3) (hw : r ((32 + 12 * n) + 5) = nI w) (h : Int32) : Ct l E yX5_wishOf cX5_wishOf 4 (some .int) 3 [.ref (ad E 10 t), .int (nI n), .int h] (setO S 10 (putA T t r), x) (some (.int (oI (mWish r n h w)))) (setO S 10 (putA T t r), x) := by
  refine Ct.of (by decide +kernel) (Nat.le_refl _) (Nat.le_of_ble_eq_true rfl) rfl (fun J hJ hF => ?_)
  have loop : ∀ (k i : Nat), i + k = w → fnd (fun k => decide (r ((32 + 12 * n) + 6 + 2 * k) = h)) k i = mWish r n h w → J (setO S 10 (putA T t r), x) 2 [some (.ref (ad E 10 t)), some (.int (nI n)), some (.int h), some (.int (nI i))] [] := by
    intro k
    induction k with
    | zero =>
      intro i hi he
      obtain rfl : i = w := by omega
      refine r_iload_n hJ dX5_wishOf_2 rfl jg3 ?_
      refine r_aload_n hJ dX5_wishOf_3 rfl jg0 ?_
      refine r_iload_n hJ dX5_wishOf_4 rfl jg1 ?_
      refine r_S1v hJ kX5_40 (c5_row l E (setO S 10 (putA T t r)) x n) dX5_wishOf_5 ⟨by decide, by decide⟩ (Nat.le_of_ble_eq_true rfl) ?_
      refine r_iconst hJ (v := nI 5) dX5_wishOf_8 (by decide) ?_
      refine r_iaddN hJ dX5_wishOf_9 ?_
      refine r_ialdR hJ ht (by omega) rfl dX5_wishOf_10 ?_
      rw [hw]
      refine r_icmp_ge hJ (tgt := 39) dX5_wishOf_11 (by decide) (fun c11 => ?_) (fun c11 => ?_)
      · refine r_iconst hJ (v := (-1)) dX5_wishOf_39 (by decide) ?_
        exact ret_i hF dX5_wishOf_40 (by rw [← he]; rfl) rfl
      · exact absurd (nI_le (by omega) (by omega)) c11
    | succ k ih =>
      intro i hi he
      refine r_iload_n hJ dX5_wishOf_2 rfl jg3 ?_
      refine r_aload_n hJ dX5_wishOf_3 rfl jg0 ?_
      refine r_iload_n hJ dX5_wishOf_4 rfl jg1 ?_
      refine r_S1v hJ kX5_40 (c5_row l E (setO S 10 (putA T t r)) x n) dX5_wishOf_5 ⟨by decide, by decide⟩ (Nat.le_of_ble_eq_true rfl) ?_
      refine r_iconst hJ (v := nI 5) dX5_wishOf_8 (by decide) ?_
      refine r_iaddN hJ dX5_wishOf_9 ?_
      refine r_ialdR hJ ht (by omega) rfl dX5_wishOf_10 ?_
      rw [hw]
      refine r_icmp_ge hJ (tgt := 39) dX5_wishOf_11 (by decide) (fun c11 => ?_) (fun c11 => ?_)
      · exact absurd c11 (nI_ge (by omega) (by omega))
      · refine r_aload_n hJ dX5_wishOf_14 rfl jg0 ?_
        refine r_iload_n hJ dX5_wishOf_15 rfl jg1 ?_
        refine r_S1v hJ kX5_40 (c5_row l E (setO S 10 (putA T t r)) x n) dX5_wishOf_16 ⟨by decide, by decide⟩ (Nat.le_of_ble_eq_true rfl) ?_
        refine r_bipush hJ (v := nI 6) dX5_wishOf_19 (by decide) ?_
        refine r_iaddN hJ dX5_wishOf_21 ?_
        refine r_iconst hJ (v := nI 2) dX5_wishOf_22 (by decide) ?_
        refine r_iload_n hJ dX5_wishOf_23 rfl jg3 ?_
        refine r_imulN hJ dX5_wishOf_24 ?_
        refine r_iaddN hJ dX5_wishOf_25 ?_
        refine r_ialdR hJ ht (by omega) rfl dX5_wishOf_26 ?_
        refine r_iload_n hJ dX5_wishOf_27 rfl jg2 ?_
        refine r_icmp_ne hJ (tgt := 33) dX5_wishOf_28 (by decide) (fun c28 => ?_) (fun c28 => ?_)
        · refine r_iinc hJ dX5_wishOf_33 jg3 (ii1 _) (jp3 rfl rfl) ?_
          refine r_goto hJ (tgt := 2) dX5_wishOf_36 (by decide) ?_
          exact ih (i + 1) (by omega) (by rw [← he]; simp [fnd, c28])
        · refine r_iload_n hJ dX5_wishOf_31 rfl jg3 ?_
          exact ret_i hF dX5_wishOf_32 (by rw [← he]; simp [fnd, c28, oI]) rfl
  refine r_iconst hJ (v := nI 0) dX5_wishOf_0 (by decide) ?_
  refine r_istore_n hJ dX5_wishOf_1 rfl (jp3 rfl rfl) ?_
  exact loop w 0 (by omega) rfl

theorem mWish_m1 {r : Nat → Int32} {h : Int32} {n w : Nat} (hw3 : w ≤ 3) : oI (mWish r n h w) = -1 ↔ mWish r n h w = none := oI_m1 fun i hi => by
  have := (fnd_lt hi).2.1
  omega
set_option maxRecDepth 100000 in
set_option maxHeartbeats 1000000 in
theorem c5_frees (l : Launch) (E : jE) (S : jS) (x : jX) (T : jO) {t : Nat} (ht : t = 1 ∨ t = 2) (r : Nat → Int32) {n : Nat} (hn : n < 64) {z : Nat} (hM : MI r z) : Ct l E yX5_frees cX5_frees 5 none 4 [.ref (ad E 10 t), .int (nI n)] (setO S 10 (putA T t r), x) none (setO S 10 (putA T t (mFreeR r n z)), x) := by
  refine Ct.of (by decide +kernel) (Nat.le_refl _) (Nat.le_of_ble_eq_true rfl) rfl (fun J hJ hF => ?_)
  obtain ⟨-, w, hw, hQ⟩ := hM.2 n hn
  have loop : ∀ (k w : Nat) (r' : Nat → Int32) (v3 v4 : Option Value), w ≤ k → w ≤ 3 → mQ r' n w → MI r' z → mServe n z k r' = mFreeR r n z → nc2 v3 = true → nc2 v4 = true → J (setO S 10 (putA T t r'), x) 17 [some (.ref (ad E 10 t)), some (.int (nI n)), some (.int (nI ((32 + 12 * n)))), v3, v4] [] := by
    intro k
    induction k with
    | zero =>
      intro w r' v3 v4 hk hw hQ hM he h3 h4
      refine r_aload_n hJ dX5_frees_17 rfl jg0 ?_
      refine r_iload_n hJ dX5_frees_18 rfl jg2 ?_
      refine r_ialdR hJ ht (by omega) rfl dX5_frees_19 ?_
      refine r_iconst hJ (v := (-1)) dX5_frees_20 (by decide) ?_
      refine r_icmp_ne hJ (tgt := 88) dX5_frees_21 (by decide) (fun c21 => ?_) (fun c21 => ?_)
      · exact ret_v hF dX5_frees_88 rfl (by rw [← he]; rfl)
      · refine r_aload_n hJ dX5_frees_24 rfl jg0 ?_
        refine r_iload_n hJ dX5_frees_25 rfl jg2 ?_
        refine r_iconst hJ (v := nI 5) dX5_frees_26 (by decide) ?_
        refine r_iaddN hJ dX5_frees_27 ?_
        refine r_ialdR hJ ht (by omega) rfl dX5_frees_28 ?_
        refine r_if_le hJ (tgt := 88) dX5_frees_29 (by decide) (fun c29 => ?_) (fun c29 => ?_)
        · exact ret_v hF dX5_frees_88 rfl (by rw [← he]; rfl)
        · rw [hQ.1] at c29
          obtain rfl : w = 0 := by omega
          exact absurd (Int32.le_refl _) c29
    | succ k ih =>
      intro w r' v3 v4 hk hw hQ hM he h3 h4
      refine r_aload_n hJ dX5_frees_17 rfl jg0 ?_
      refine r_iload_n hJ dX5_frees_18 rfl jg2 ?_
      refine r_ialdR hJ ht (by omega) rfl dX5_frees_19 ?_
      refine r_iconst hJ (v := (-1)) dX5_frees_20 (by decide) ?_
      refine r_icmp_ne hJ (tgt := 88) dX5_frees_21 (by decide) (fun c21 => ?_) (fun c21 => ?_)
      · exact ret_v hF dX5_frees_88 rfl (by rw [← he, mServe, if_neg (by simp [c21])])
      · refine r_aload_n hJ dX5_frees_24 rfl jg0 ?_
        refine r_iload_n hJ dX5_frees_25 rfl jg2 ?_
        refine r_iconst hJ (v := nI 5) dX5_frees_26 (by decide) ?_
        refine r_iaddN hJ dX5_frees_27 ?_
        refine r_ialdR hJ ht (by omega) rfl dX5_frees_28 ?_
        refine r_if_le hJ (tgt := 88) dX5_frees_29 (by decide) (fun c29 => ?_) (fun c29 => ?_)
        · exact ret_v hF dX5_frees_88 rfl (by rw [← he, mServe, if_neg (by simp [c21, c29])])
        · have c29 := Int32.not_le.mp c29
          have w0 : 0 < w := by
            rw [hQ.1, nI_0lt (by omega)] at c29
            exact c29
          obtain ⟨hMs, hQs, g, g1, g2⟩ := MS_all hn hw w0 hQ hM
          have hd := MI_drop hn hw w0 hQ hM
          have hs : mServe n z (k + 1) r' = mServe n z k (mServeS r' n z) := by rw [mServe, if_pos ⟨c21, c29⟩]
          rw [hs] at he
          have gt : toN (r' ((32 + 12 * n) + 6)) = g := by rw [g2, toN_nI (by omega)]
          rw [← gt] at g1 g2
          refine r_aload_n hJ dX5_frees_32 rfl jg0 ?_
          refine r_iload_n hJ dX5_frees_33 rfl jg2 ?_
          refine r_bipush hJ (v := nI 6) dX5_frees_34 (by decide) ?_
          refine r_iaddN hJ dX5_frees_36 ?_
          refine r_ialdR hJ ht (by omega) rfl dX5_frees_37 ?_
          refine r_istore_n hJ dX5_frees_38 rfl (jp3 rfl rfl) ?_
          refine r_aload_n hJ dX5_frees_39 rfl jg0 ?_
          refine r_iload_n hJ dX5_frees_40 rfl jg2 ?_
          refine r_bipush hJ (v := nI 6) dX5_frees_41 (by decide) ?_
          refine r_iaddN hJ dX5_frees_43 ?_
          refine r_iconst hJ (v := nI 1) dX5_frees_44 (by decide) ?_
          refine r_iaddN hJ dX5_frees_45 ?_
          refine r_ialdR hJ ht (by omega) rfl dX5_frees_46 ?_
          refine r_istore hJ dX5_frees_47 (jp4 rfl rfl) ?_
          refine r_aload_n hJ dX5_frees_49 rfl jg0 ?_
          refine r_iload_n hJ dX5_frees_50 rfl jg1 ?_
          refine r_iconst hJ (v := nI 0) dX5_frees_51 (by decide) ?_
          refine r_S3u hJ kX5_54 (c5_drops l E S x T ht r' hn (q := 0) (by decide)) dX5_frees_52 ⟨by decide, by decide⟩ (Nat.le_of_ble_eq_true rfl) ?_
          refine r_aload_n hJ dX5_frees_55 rfl jg0 ?_
          refine r_iload_n hJ dX5_frees_56 rfl jg3 ?_
          refine r_iconst hJ (v := nI 1) dX5_frees_57 (by decide) ?_
          refine r_S3v hJ kX5_58 (c5_hasRoom l E S x T ht (mDrop r' n 0) hd.1.1 hd.1.2.2 (r' ((32 + 12 * n) + 6)) (nI 1)) dX5_frees_58 ⟨by decide, by decide⟩ (Nat.le_of_ble_eq_true rfl) ?_
          refine r_if_eq hJ (tgt := 75) dX5_frees_61 (by decide) (fun c61 => ?_) (fun c61 => ?_)
          · rw [bI_0] at c61
            have hv : mServeS r' n z = upd (mDrop r' n 0) (16 + toN (r' ((32 + 12 * n) + 6))) ((mDrop r' n 0) (16 + toN (r' ((32 + 12 * n) + 6))) + nI 1) := by unfold mServeS; exact if_neg (by rw [c61]; decide)
            rw [hv] at he hMs hQs
            refine r_aload_n hJ dX5_frees_75 rfl jg0 ?_
            refine r_bipush hJ (v := nI 16) dX5_frees_76 (by decide) ?_
            refine r_iload_n hJ dX5_frees_78 rfl jg3 ?_
            rw [g2]
            refine r_iadd hJ dX5_frees_79 ?_
            rw [nI_add]
            refine r_dup2_11 hJ dX5_frees_80 rfl rfl ?_
            refine r_ialdR hJ ht (by omega) rfl dX5_frees_81 ?_
            refine r_iconst hJ (v := nI 1) dX5_frees_82 (by decide) ?_
            refine r_iadd hJ dX5_frees_83 ?_
            refine r_iastR hJ ht (by omega) rfl dX5_frees_84 ?_
            refine r_goto hJ (tgt := 17) dX5_frees_85 (by decide) ?_
            exact ih (w - 1) _ _ _ (by omega) (by omega) hQs hMs he rfl rfl
          · have c61 := bI_ne c61
            have hv : mServeS r' n z = mGives (mDrop r' n 0) n (toN (r' ((32 + 12 * n) + 6))) (r' ((32 + 12 * n) + 6 + 1)) := by unfold mServeS; exact if_pos c61
            rw [hv] at he hMs hQs
            refine r_aload_n hJ dX5_frees_64 rfl jg0 ?_
            refine r_iload_n hJ dX5_frees_65 rfl jg1 ?_
            refine r_iload_n hJ dX5_frees_66 rfl jg3 ?_
            refine r_iload hJ dX5_frees_67 jg4 ?_
            have hg := c5_gives l E S x T ht (mDrop r' n 0) (n := n) (h := toN (r' ((32 + 12 * n) + 6))) hn g1 (r' ((32 + 12 * n) + 6 + 1))
            rw [← g2] at hg
            refine r_S4u hJ kX5_62 (hg) dX5_frees_69 ⟨by decide, by decide⟩ (Nat.le_of_ble_eq_true rfl) ?_
            refine r_goto hJ (tgt := 85) dX5_frees_72 (by decide) ?_
            refine r_goto hJ (tgt := 17) dX5_frees_85 (by decide) ?_
            exact ih (w - 1) _ _ _ (by omega) (by omega) hQs hMs he rfl rfl
  refine r_iload_n hJ dX5_frees_0 rfl jg1 ?_
  refine r_S1v hJ kX5_40 (c5_row l E (setO S 10 (putA T t r)) x n) dX5_frees_1 ⟨by decide, by decide⟩ (Nat.le_of_ble_eq_true rfl) ?_
  refine r_istore_n hJ dX5_frees_4 rfl (jp2 rfl rfl) ?_
  refine r_aload_n hJ dX5_frees_5 rfl jg0 ?_
  refine r_iload_n hJ dX5_frees_6 rfl jg2 ?_
  refine r_iconst hJ (v := (-1)) dX5_frees_7 (by decide) ?_
  refine r_iastR hJ ht (by omega) rfl dX5_frees_8 ?_
  refine r_aload_n hJ dX5_frees_9 rfl jg0 ?_
  refine r_bipush hJ (v := nI 7) dX5_frees_10 (by decide) ?_
  refine r_dup2_11 hJ dX5_frees_12 rfl rfl ?_
  refine r_ialdR hJ ht (by omega) rfl dX5_frees_13 ?_
  refine r_iconst hJ (v := nI 1) dX5_frees_14 (by decide) ?_
  refine r_iadd hJ dX5_frees_15 ?_
  refine r_iastR hJ ht (by omega) rfl dX5_frees_16 ?_
  exact loop 3 w _ none none hw hw (mQ_of (by rw [upd_ne (by omega), upd_ne (by omega)]) (fun k _ => by rw [upd_ne (by omega), upd_ne (by omega)]) hw hQ) (MI_low (by decide) (by decide) (MI_who (Or.inl rfl) hM)) rfl rfl rfl

set_option maxRecDepth 100000 in
set_option maxHeartbeats 1000000 in
theorem c5_passes (l : Launch) (E : jE) (S : jS) (x : jX) (T : jO) {t : Nat} (ht : t = 1 ∨ t = 2) (r : Nat → Int32) {z : Nat} (hM : MI r z) : Ct l E yX5_passes cX5_passes 3 (some .int) 5 [.ref (ad E 10 t)] (setO S 10 (putA T t r), x) (some (.int (mTick r z 7 - r 7))) (setO S 10 (putA T t (mTick r z)), x) := by
  refine Ct.of (by decide +kernel) (Nat.le_refl _) (Nat.le_of_ble_eq_true rfl) rfl (fun J hJ hF => ?_)
  have loop2 : ∀ (k i : Nat) (r' : Nat → Int32), i + k = z → MI r' z → mDue z r' k i = mTick r z → J (setO S 10 (putA T t r'), x) 53 [some (.ref (ad E 10 t)), some (.int (r 7)), some (.int (nI i))] [] := by
    intro k
    induction k with
    | zero =>
      intro i r' hi hM he
      obtain rfl : i = z := by omega
      obtain ⟨⟨hz, hz4, hz6⟩, hMm⟩ := hM
      refine r_iload_n hJ dX5_passes_53 rfl jg2 ?_
      refine r_aload_n hJ dX5_passes_54 rfl jg0 ?_
      refine r_iconst hJ (v := nI 4) dX5_passes_55 (by decide) ?_
      refine r_ialdR hJ ht (by omega) rfl dX5_passes_56 ?_
      refine r_icmp_ge hJ (tgt := 93) dX5_passes_57 (by decide) (fun c57 => ?_) (fun c57 => ?_)
      · refine r_aload_n hJ dX5_passes_93 rfl jg0 ?_
        refine r_bipush hJ (v := nI 7) dX5_passes_94 (by decide) ?_
        refine r_ialdR hJ ht (by omega) rfl dX5_passes_96 ?_
        refine r_iload_n hJ dX5_passes_97 rfl jg1 ?_
        refine r_isub hJ dX5_passes_98 ?_
        exact ret_i hF dX5_passes_99 (by rw [← he]; rfl) (by rw [← he]; rfl)
      · rw [hz] at c57
        exact absurd (nI_le (by omega) (by omega)) c57
    | succ k ih =>
      intro i r' hi hM he
      have hz := hM.1.1
      have hz6 := hM.1.2.2
      have e : mDue z r' (k + 1) i = mDue z (if ¬ r' ((32 + 12 * i)) = -1 ∧ r' ((32 + 12 * i) + 3) = r' 0 then mFreeR r' i z else r') k (i + 1) := rfl
      rw [e] at he
      refine r_iload_n hJ dX5_passes_53 rfl jg2 ?_
      refine r_aload_n hJ dX5_passes_54 rfl jg0 ?_
      refine r_iconst hJ (v := nI 4) dX5_passes_55 (by decide) ?_
      refine r_ialdR hJ ht (by omega) rfl dX5_passes_56 ?_
      refine r_icmp_ge hJ (tgt := 93) dX5_passes_57 (by decide) (fun c57 => ?_) (fun c57 => ?_)
      · rw [hz] at c57
        exact absurd c57 (nI_ge (by omega) (by omega))
      · refine r_aload_n hJ dX5_passes_60 rfl jg0 ?_
        refine r_iload_n hJ dX5_passes_61 rfl jg2 ?_
        refine r_S2v hJ kX5_43 (c5_isFree l E S x T ht r' (n := i) (by omega)) dX5_passes_62 ⟨by decide, by decide⟩ (Nat.le_of_ble_eq_true rfl) ?_
        refine r_if_ne hJ (tgt := 87) dX5_passes_65 (by decide) (fun c65 => ?_) (fun c65 => ?_)
        · have c65 := bI_ne c65
          unfold mFree at c65
          rw [decide_eq_true_iff] at c65
          refine r_iinc hJ dX5_passes_87 jg2 (ii1 _) (jp2 rfl rfl) ?_
          refine r_goto hJ (tgt := 53) dX5_passes_90 (by decide) ?_
          rw [if_neg (fun q => q.1 c65)] at he
          exact ih (i + 1) r' (by omega) hM he
        · rw [bI_0] at c65
          unfold mFree at c65
          rw [decide_eq_false_iff_not] at c65
          refine r_aload_n hJ dX5_passes_68 rfl jg0 ?_
          refine r_iload_n hJ dX5_passes_69 rfl jg2 ?_
          refine r_S1v hJ kX5_40 (c5_row l E (setO S 10 (putA T t r')) x i) dX5_passes_70 ⟨by decide, by decide⟩ (Nat.le_of_ble_eq_true rfl) ?_
          refine r_iconst hJ (v := nI 3) dX5_passes_73 (by decide) ?_
          refine r_iaddN hJ dX5_passes_74 ?_
          refine r_ialdR hJ ht (by omega) rfl dX5_passes_75 ?_
          refine r_aload_n hJ dX5_passes_76 rfl jg0 ?_
          refine r_iconst hJ (v := nI 0) dX5_passes_77 (by decide) ?_
          refine r_ialdR hJ ht (by omega) rfl dX5_passes_78 ?_
          refine r_icmp_ne hJ (tgt := 87) dX5_passes_79 (by decide) (fun c79 => ?_) (fun c79 => ?_)
          · refine r_iinc hJ dX5_passes_87 jg2 (ii1 _) (jp2 rfl rfl) ?_
            refine r_goto hJ (tgt := 53) dX5_passes_90 (by decide) ?_
            rw [if_neg (fun q => c79 q.2)] at he
            exact ih (i + 1) r' (by omega) hM he
          · refine r_aload_n hJ dX5_passes_82 rfl jg0 ?_
            refine r_iload_n hJ dX5_passes_83 rfl jg2 ?_
            refine r_S2u hJ kX5_66 (c5_frees l E S x T ht r' (n := i) (by omega) hM) dX5_passes_84 ⟨by decide, by decide⟩ (Nat.le_of_ble_eq_true rfl) ?_
            refine r_iinc hJ dX5_passes_87 jg2 (ii1 _) (jp2 rfl rfl) ?_
            refine r_goto hJ (tgt := 53) dX5_passes_90 (by decide) ?_
            rw [if_pos ⟨c65, c79⟩] at he
            exact ih (i + 1) _ (by omega) (MI_free (by omega) hM) he
  have loop1 : ∀ (k i : Nat) (r' : Nat → Int32), i + k = z → MI r' z → mUnits r' k i = mUnits r z 0 → J (setO S 10 (putA T t r'), x) 7 [some (.ref (ad E 10 t)), some (.int (r 7)), some (.int (nI i))] [] := by
    intro k
    induction k with
    | zero =>
      intro i r' hi hM he
      obtain rfl : i = z := by omega
      obtain ⟨⟨hz, hz4, hz6⟩, hMm⟩ := hM
      refine r_iload_n hJ dX5_passes_7 rfl jg2 ?_
      refine r_aload_n hJ dX5_passes_8 rfl jg0 ?_
      refine r_iconst hJ (v := nI 4) dX5_passes_9 (by decide) ?_
      refine r_ialdR hJ ht (by omega) rfl dX5_passes_10 ?_
      refine r_icmp_ge hJ (tgt := 44) dX5_passes_11 (by decide) (fun c11 => ?_) (fun c11 => ?_)
      · refine r_aload_n hJ dX5_passes_44 rfl jg0 ?_
        refine r_iconst hJ (v := nI 0) dX5_passes_45 (by decide) ?_
        refine r_dup2_11 hJ dX5_passes_46 rfl rfl ?_
        refine r_ialdR hJ ht (by omega) rfl dX5_passes_47 ?_
        refine r_iconst hJ (v := nI 1) dX5_passes_48 (by decide) ?_
        refine r_iadd hJ dX5_passes_49 ?_
        refine r_iastR hJ ht (by omega) rfl dX5_passes_50 ?_
        refine r_iconst hJ (v := nI 0) dX5_passes_51 (by decide) ?_
        refine r_istore_n hJ dX5_passes_52 rfl (jp2 rfl rfl) ?_
        exact loop2 _ 0 _ (Nat.zero_add _) (MI_low (by decide) (by decide) ⟨⟨hz, hz4, hz6⟩, hMm⟩) (by unfold mTick; rw [← he]; rfl)
      · rw [hz] at c11
        exact absurd (nI_le (by omega) (by omega)) c11
    | succ k ih =>
      intro i r' hi hM he
      have hz := hM.1.1
      have hz6 := hM.1.2.2
      have e : mUnits r' (k + 1) i = mUnits (if mStg r' i = 1 then upd r' (24 + toN (r' ((32 + 12 * i)))) (r' (24 + toN (r' ((32 + 12 * i)))) + nI 1) else r') k (i + 1) := rfl
      rw [e] at he
      refine r_iload_n hJ dX5_passes_7 rfl jg2 ?_
      refine r_aload_n hJ dX5_passes_8 rfl jg0 ?_
      refine r_iconst hJ (v := nI 4) dX5_passes_9 (by decide) ?_
      refine r_ialdR hJ ht (by omega) rfl dX5_passes_10 ?_
      refine r_icmp_ge hJ (tgt := 44) dX5_passes_11 (by decide) (fun c11 => ?_) (fun c11 => ?_)
      · rw [hz] at c11
        exact absurd c11 (nI_ge (by omega) (by omega))
      · refine r_aload_n hJ dX5_passes_14 rfl jg0 ?_
        refine r_iload_n hJ dX5_passes_15 rfl jg2 ?_
        refine r_S2v hJ kX5_51 (c5_stageOf l E S x T ht r' (n := i) (by omega)) dX5_passes_16 ⟨by decide, by decide⟩ (Nat.le_of_ble_eq_true rfl) ?_
        refine r_iconst hJ (v := nI 1) dX5_passes_19 (by decide) ?_
        refine r_icmp_ne hJ (tgt := 38) dX5_passes_20 (by decide) (fun c20 => ?_) (fun c20 => ?_)
        · refine r_iinc hJ dX5_passes_38 jg2 (ii1 _) (jp2 rfl rfl) ?_
          refine r_goto hJ (tgt := 7) dX5_passes_41 (by decide) ?_
          rw [if_neg (show ¬ mStg r' i = 1 from c20)] at he
          exact ih (i + 1) r' (by omega) hM he
        · have hu : ∃ g, g < 8 ∧ r' ((32 + 12 * i)) = nI g := by
            rcases (hM.2 i (by omega)).1 with q | q
            · simp [mStg, q, nI1] at c20
            · exact q
          obtain ⟨g, g1, g2⟩ := hu
          have gt : r' ((32 + 12 * i)) = nI (toN (r' ((32 + 12 * i)))) := by rw [g2, toN_nI (by omega)]
          have g3 : toN (r' ((32 + 12 * i))) < 8 := by rw [g2, toN_nI (by omega)]; exact g1
          refine r_aload_n hJ dX5_passes_23 rfl jg0 ?_
          refine r_bipush hJ (v := nI 24) dX5_passes_24 (by decide) ?_
          refine r_aload_n hJ dX5_passes_26 rfl jg0 ?_
          refine r_iload_n hJ dX5_passes_27 rfl jg2 ?_
          refine r_S1v hJ kX5_40 (c5_row l E (setO S 10 (putA T t r')) x i) dX5_passes_28 ⟨by decide, by decide⟩ (Nat.le_of_ble_eq_true rfl) ?_
          refine r_ialdR hJ ht (by omega) rfl dX5_passes_31 ?_
          refine r_iadd hJ dX5_passes_32 ?_
          refine r_dup2_11 hJ dX5_passes_33 rfl rfl ?_
          refine r_ialdR hJ ht (by omega) ((congrArg (nI 24 + ·) gt).trans (nI_add _ _)) dX5_passes_34 ?_
          refine r_iconst hJ (v := nI 1) dX5_passes_35 (by decide) ?_
          refine r_iadd hJ dX5_passes_36 ?_
          refine r_iastR hJ ht (by omega) ((congrArg (nI 24 + ·) gt).trans (nI_add _ _)) dX5_passes_37 ?_
          refine r_iinc hJ dX5_passes_38 jg2 (ii1 _) (jp2 rfl rfl) ?_
          refine r_goto hJ (tgt := 7) dX5_passes_41 (by decide) ?_
          rw [if_pos (show mStg r' i = 1 from c20)] at he
          exact ih (i + 1) _ (by omega) (MI_low (by omega) (by omega) hM) he
  refine r_aload_n hJ dX5_passes_0 rfl jg0 ?_
  refine r_bipush hJ (v := nI 7) dX5_passes_1 (by decide) ?_
  refine r_ialdR hJ ht (by omega) rfl dX5_passes_3 ?_
  refine r_istore_n hJ dX5_passes_4 rfl (jp1 rfl rfl) ?_
  refine r_iconst hJ (v := nI 0) dX5_passes_5 (by decide) ?_
  refine r_istore_n hJ dX5_passes_6 rfl (jp2 rfl rfl) ?_
  exact loop1 z 0 r (by omega) hM rfl
