theorem savT_1 (T : jO) : savT T 1 = T 1 := by
  unfold savT
  split <;> rfl
theorem savT_0 (T : jO) {j : Nat} (hj : 0 < j) : savT T 0 j = T 0 j := by
  have h : ∀ (P : jO) (v : Int32), put P 0 0 v 0 j = P 0 j := fun P v => by rw [put_app, if_neg (by omega)]
  unfold savT
  split <;> (unfold savA; rw [h]; try rfl)
  rw [putA_ne (by decide), h, putA_ne (by decide)]
theorem savT_j (T : jO) {j : Nat} (hj : 3 < j) : savT T j = T j := by
  have h : ∀ (P : jO) (f : Nat → Int32) (v : Int32), put (putA P 3 f) 0 0 v j = P j := fun P f v => by rw [put_ne (by omega), putA_ne (by omega)]
  unfold savT
  split
  · unfold savA; rw [h, h]
  · unfold savA; rw [h]
theorem mMayT_1 {r : Nat → Int32} {z : Nat} {h : Int32} (hz : z ≤ 64) (hm : mMayT r z h = true) : ∃ g, g < z ∧ mFirst r (nI 1) z 0 0 = nI g := by
  unfold mMayT at hm
  rw [Bool.and_eq_true, Bool.not_eq_true', decide_eq_false_iff_not] at hm
  rcases mF_lt (r := r) (m := 1) (by decide) (by decide) z 0 0 (by omega) (Nat.le_refl _) with q | ⟨g, g1, g2⟩
  · exact absurd q hm.1
  · exact ⟨g, by omega, g2⟩
def mTake (T : jO) (z : Nat) (h u : Int32) : Int32 × jO :=
  if witQ h (nI 0) (nI 7) = true then
    if witQ u (nI 1) (nI 999) = true then
      if mMayT (T 1) z h = true then (mFirst (T 1) (nI 1) z 0 0, putA (savT (thr T (nI 0))) 1 (mGives (T 1) (toN (mFirst (T 1) (nI 1) z 0 0)) (toN h) u))
      else (nI 0, thr (thr T (nI 0)) (nI 3))
    else (nI 0, thr (thr T (nI 0)) (nI 2))
  else (nI 0, thr (thr T (nI 0)) (nI 1))
set_option maxRecDepth 100000 in
set_option maxHeartbeats 1000000 in
theorem c5_take (l : Launch) (E : jE) (S : jS) (x : jX) (T : jO) {z : Nat} (hM : MI (T 1) z) {m : Nat} (hm6 : m ≤ 6) (hm : T 0 0 = nI m) (h u : Int32) : Ct l E yX5_take cX5_take 3 (some .int) 5 [.ref (ad E 10 0), .int h, .int u] (setO S 10 T, x) (some (.int (mTake T z h u).1)) (setO S 10 (mTake T z h u).2, x) := by
  refine Ct.of (by decide +kernel) (Nat.le_refl _) (Nat.le_of_ble_eq_true rfl) rfl (fun J hJ hF => ?_)
  have hz := hM.1.1
  have hz6 := hM.1.2.2
  have hz4 := hM.1.2.1
  have s1 : savT (thr T (nI 0)) 1 = T 1 := savT_1 _
  have hM1 : MI (savT (thr T (nI 0)) 1) z := by rw [s1]; exact hM
  refine r_aload_n hJ dX5_take_0 rfl jg0 ?_
  refine r_iconst hJ (v := nI 0) dX5_take_1 (by decide) ?_
  refine r_p5_6 hJ m797 dX5_take_2 ?_
  refine r_iload_n hJ dX5_take_5 rfl jg1 ?_
  refine r_S1v hJ kX5_73 (c5_isHolder l E _ x h) dX5_take_6 ⟨by decide, by decide⟩ (Nat.le_of_ble_eq_true rfl) ?_
  refine r_if_ne hJ (tgt := 18) dX5_take_9 (by decide) (fun c9 => ?_) (fun c9 => ?_)
  · have c9 : witQ h (nI 0) (nI 7) = true := bI_ne c9
    refine r_iload_n hJ dX5_take_18 rfl jg2 ?_
    refine r_S1v hJ kX5_77 (c5_isTerm l E _ x u) dX5_take_19 ⟨by decide, by decide⟩ (Nat.le_of_ble_eq_true rfl) ?_
    refine r_if_ne hJ (tgt := 31) dX5_take_22 (by decide) (fun c22 => ?_) (fun c22 => ?_)
    · have c22 : witQ u (nI 1) (nI 999) = true := bI_ne c22
      refine r_aload_n hJ dX5_take_31 rfl jg0 ?_
      refine r_iload_n hJ dX5_take_32 rfl jg1 ?_
      refine r_V1v hJ kX5_80 (rcv5 E) (c5_mayTake l E S x (thr T (nI 0)) hM h) dX5_take_33 ⟨by decide, by decide⟩ (Nat.le_of_ble_eq_true rfl) ?_
      refine r_if_ne hJ (tgt := 45) dX5_take_36 (by decide) (fun c36 => ?_) (fun c36 => ?_)
      · have c36 : mMayT (T 1) z h = true := bI_ne c36
        refine r_aload_n hJ dX5_take_45 rfl jg0 ?_
        refine r_V0u hJ kX5_83 (rcv5 E) (c5_saves l E S x (thr T (nI 0)) hm6 hm) dX5_take_46 ⟨by decide, by decide⟩ (Nat.le_of_ble_eq_true rfl) ?_
        refine r_aload_n hJ dX5_take_49 rfl jg0 ?_
        refine r_iload_n hJ dX5_take_50 rfl jg1 ?_
        refine r_iload_n hJ dX5_take_51 rfl jg2 ?_
        obtain ⟨g, hg, hf⟩ := mMayT_1 hz6 c36
        obtain ⟨e1, e2⟩ := wit_N (by decide) c9
        have tg : toN (nI g) = g := toN_nI (by omega)
        have ht := c5_takes l E S x (savT (thr T (nI 0))) hM1 (h := toN h) (g := g) (by omega) (by omega) (by rw [s1]; exact hf) u
        rw [← e1, s1] at ht
        refine r_V2v hJ kX5_86 (rcv5 E) (ht) dX5_take_52 ⟨by decide, by decide⟩ (Nat.le_of_ble_eq_true rfl) ?_
        exact ret_i hF dX5_take_55 (by simp [mTake, c9, c22, c36, hf, tg]) (by simp [mTake, thr, c9, c22, c36, hf, tg])
      · have c36 : mMayT (T 1) z h = false := bI_0.mp c36
        refine r_aload_n hJ dX5_take_39 rfl jg0 ?_
        refine r_iconst hJ (v := nI 3) dX5_take_40 (by decide) ?_
        refine r_V1v hJ kX5_36 (rcv5 E) (c5_fails l E _ x _ (nI 3)) dX5_take_41 ⟨by decide, by decide⟩ (Nat.le_of_ble_eq_true rfl) ?_
        exact ret_i hF dX5_take_44 (by simp [mTake, c9, c22, c36]) (by simp [mTake, thr, c9, c22, c36])
    · have c22 : witQ u (nI 1) (nI 999) = false := bI_0.mp c22
      refine r_aload_n hJ dX5_take_25 rfl jg0 ?_
      refine r_iconst hJ (v := nI 2) dX5_take_26 (by decide) ?_
      refine r_V1v hJ kX5_36 (rcv5 E) (c5_fails l E _ x _ (nI 2)) dX5_take_27 ⟨by decide, by decide⟩ (Nat.le_of_ble_eq_true rfl) ?_
      exact ret_i hF dX5_take_30 (by simp [mTake, c9, c22]) (by simp [mTake, thr, c9, c22])
  · have c9 : witQ h (nI 0) (nI 7) = false := bI_0.mp c9
    refine r_aload_n hJ dX5_take_12 rfl jg0 ?_
    refine r_iconst hJ (v := nI 1) dX5_take_13 (by decide) ?_
    refine r_V1v hJ kX5_36 (rcv5 E) (c5_fails l E _ x _ (nI 1)) dX5_take_14 ⟨by decide, by decide⟩ (Nat.le_of_ble_eq_true rfl) ?_
    exact ret_i hF dX5_take_17 (by simp [mTake, c9]) (by simp [mTake, thr, c9])

theorem mMayW_3 {r : Nat → Int32} {z n w : Nat} {h : Int32} (hw : w ≤ 3) (hQ : mQ r n w) (hm : mMayW r z h n = true) : mFree r n = false → toN (r ((32 + 12 * n) + 5)) < 3 := by
  intro h0
  unfold mMayW at hm
  rw [if_neg (by rw [h0]; decide), Bool.and_eq_true, Bool.and_eq_true, Bool.not_eq_true', decide_eq_false_iff_not, hQ.1, nI_leI (by decide) (by omega)] at hm
  rw [hQ.1, toN_nI (by omega)]
  omega
def mWishM (T : jO) (z : Nat) (h n u : Int32) : Int32 × jO :=
  if witQ h (nI 0) (nI 7) = true ∧ witQ n (nI 0) (nI (z - 1)) = true then
    if witQ u (nI 1) (nI 999) = true then
      if mMayW (T 1) z h (toN n) = true then ((mWishes (T 1) (toN h) (toN n) u).2, putA (savT (thr T (nI 0))) 1 (mWishes (T 1) (toN h) (toN n) u).1)
      else (nI 0, thr (thr T (nI 0)) (nI 3))
    else (nI 0, thr (thr T (nI 0)) (nI 2))
  else (nI 0, thr (thr T (nI 0)) (nI 1))
set_option maxRecDepth 100000 in
set_option maxHeartbeats 1000000 in
theorem c5_wish (l : Launch) (E : jE) (S : jS) (x : jX) (T : jO) {z : Nat} (hM : MI (T 1) z) {m : Nat} (hm6 : m ≤ 6) (hm : T 0 0 = nI m) (h n u : Int32) : Ct l E yX5_wish cX5_wish 4 (some .int) 5 [.ref (ad E 10 0), .int h, .int n, .int u] (setO S 10 T, x) (some (.int (mWishM T z h n u).1)) (setO S 10 (mWishM T z h n u).2, x) := by
  refine Ct.of (by decide +kernel) (Nat.le_refl _) (Nat.le_of_ble_eq_true rfl) rfl (fun J hJ hF => ?_)
  have hz := hM.1.1
  have hz6 := hM.1.2.2
  have hz4 := hM.1.2.1
  have s1 : savT (thr T (nI 0)) 1 = T 1 := savT_1 _
  have hM1 : MI (savT (thr T (nI 0)) 1) z := by rw [s1]; exact hM
  refine r_aload_n hJ dX5_wish_0 rfl jg0 ?_
  refine r_iconst hJ (v := nI 0) dX5_wish_1 (by decide) ?_
  refine r_p5_6 hJ m797 dX5_wish_2 ?_
  refine r_iload_n hJ dX5_wish_5 rfl jg1 ?_
  refine r_S1v hJ kX5_73 (c5_isHolder l E _ x h) dX5_wish_6 ⟨by decide, by decide⟩ (Nat.le_of_ble_eq_true rfl) ?_
  refine r_if_eq hJ (tgt := 20) dX5_wish_9 (by decide) (fun c9 => ?_) (fun c9 => ?_)
  · have c9 : witQ h (nI 0) (nI 7) = false := bI_0.mp c9
    refine r_aload_n hJ dX5_wish_20 rfl jg0 ?_
    refine r_iconst hJ (v := nI 1) dX5_wish_21 (by decide) ?_
    refine r_V1v hJ kX5_36 (rcv5 E) (c5_fails l E _ x _ (nI 1)) dX5_wish_22 ⟨by decide, by decide⟩ (Nat.le_of_ble_eq_true rfl) ?_
    exact ret_i hF dX5_wish_25 (by simp [mWishM, c9]) (by simp [mWishM, thr, c9])
  · have c9 : witQ h (nI 0) (nI 7) = true := bI_ne c9
    refine r_aload_n hJ dX5_wish_12 rfl jg0 ?_
    refine r_iload_n hJ dX5_wish_13 rfl jg2 ?_
    refine r_V1v hJ kX5_97 (rcv5 E) (c5_isNumber l E S x (thr T (nI 0)) (z := z) (by omega) hz n) dX5_wish_14 ⟨by decide, by decide⟩ (Nat.le_of_ble_eq_true rfl) ?_
    refine r_if_ne hJ (tgt := 26) dX5_wish_17 (by decide) (fun c17 => ?_) (fun c17 => ?_)
    · have c17 : witQ n (nI 0) (nI (z - 1)) = true := bI_ne c17
      refine r_iload_n hJ dX5_wish_26 rfl jg3 ?_
      refine r_S1v hJ kX5_77 (c5_isTerm l E _ x u) dX5_wish_27 ⟨by decide, by decide⟩ (Nat.le_of_ble_eq_true rfl) ?_
      refine r_if_ne hJ (tgt := 39) dX5_wish_30 (by decide) (fun c30 => ?_) (fun c30 => ?_)
      · have c30 : witQ u (nI 1) (nI 999) = true := bI_ne c30
        refine r_aload_n hJ dX5_wish_39 rfl jg0 ?_
        refine r_iload_n hJ dX5_wish_40 rfl jg1 ?_
        refine r_iload_n hJ dX5_wish_41 rfl jg2 ?_
        obtain ⟨n1, n2⟩ := wit_N (by omega) c17
        have hmy := c5_mayWish l E S x (thr T (nI 0)) hM (n := toN n) (by omega) h
        rw [← n1] at hmy
        refine r_V2v hJ kX5_100 (rcv5 E) (hmy) dX5_wish_42 ⟨by decide, by decide⟩ (Nat.le_of_ble_eq_true rfl) ?_
        refine r_if_ne hJ (tgt := 54) dX5_wish_45 (by decide) (fun c45 => ?_) (fun c45 => ?_)
        · have c45 : mMayW (T 1) z h (toN n) = true := bI_ne c45
          refine r_aload_n hJ dX5_wish_54 rfl jg0 ?_
          refine r_V0u hJ kX5_83 (rcv5 E) (c5_saves l E S x (thr T (nI 0)) hm6 hm) dX5_wish_55 ⟨by decide, by decide⟩ (Nat.le_of_ble_eq_true rfl) ?_
          refine r_aload_n hJ dX5_wish_58 rfl jg0 ?_
          refine r_iload_n hJ dX5_wish_59 rfl jg1 ?_
          refine r_iload_n hJ dX5_wish_60 rfl jg2 ?_
          refine r_iload_n hJ dX5_wish_61 rfl jg3 ?_
          obtain ⟨e1, e2⟩ := wit_N (by decide) c9
          obtain ⟨-, w, hw, hQ⟩ := hM1.2 (toN n) (by omega)
          have hwi := c5_wishes l E S x (savT (thr T (nI 0))) hM1 (n := toN n) (h := toN h) (by omega) (by omega) (mMayW_3 hw hQ (by rw [s1]; exact c45)) u
          rw [← e1, ← n1, s1] at hwi
          refine r_V3v hJ kX5_104 (rcv5 E) (hwi) dX5_wish_62 ⟨by decide, by decide⟩ (Nat.le_of_ble_eq_true rfl) ?_
          exact ret_i hF dX5_wish_65 (by simp [mWishM, c9, c17, c30, c45]) (by simp [mWishM, thr, c9, c17, c30, c45])
        · have c45 : mMayW (T 1) z h (toN n) = false := bI_0.mp c45
          refine r_aload_n hJ dX5_wish_48 rfl jg0 ?_
          refine r_iconst hJ (v := nI 3) dX5_wish_49 (by decide) ?_
          refine r_V1v hJ kX5_36 (rcv5 E) (c5_fails l E _ x _ (nI 3)) dX5_wish_50 ⟨by decide, by decide⟩ (Nat.le_of_ble_eq_true rfl) ?_
          exact ret_i hF dX5_wish_53 (by simp [mWishM, c9, c17, c30, c45]) (by simp [mWishM, thr, c9, c17, c30, c45])
      · have c30 : witQ u (nI 1) (nI 999) = false := bI_0.mp c30
        refine r_aload_n hJ dX5_wish_33 rfl jg0 ?_
        refine r_iconst hJ (v := nI 2) dX5_wish_34 (by decide) ?_
        refine r_V1v hJ kX5_36 (rcv5 E) (c5_fails l E _ x _ (nI 2)) dX5_wish_35 ⟨by decide, by decide⟩ (Nat.le_of_ble_eq_true rfl) ?_
        exact ret_i hF dX5_wish_38 (by simp [mWishM, c9, c17, c30]) (by simp [mWishM, thr, c9, c17, c30])
    · have c17 : witQ n (nI 0) (nI (z - 1)) = false := bI_0.mp c17
      refine r_aload_n hJ dX5_wish_20 rfl jg0 ?_
      refine r_iconst hJ (v := nI 1) dX5_wish_21 (by decide) ?_
      refine r_V1v hJ kX5_36 (rcv5 E) (c5_fails l E _ x _ (nI 1)) dX5_wish_22 ⟨by decide, by decide⟩ (Nat.le_of_ble_eq_true rfl) ?_
      exact ret_i hF dX5_wish_25 (by simp [mWishM, c9, c17]) (by simp [mWishM, thr, c9, c17])

def mUnw (T : jO) (z : Nat) (h n : Int32) : Int32 × jO :=
  if witQ h (nI 0) (nI 7) = true ∧ witQ n (nI 0) (nI (z - 1)) = true then
    match mWish (T 1) (toN n) h (toN (T 1 ((32 + 12 * (toN n)) + 5))) with
    | none => (nI 0, thr (thr T (nI 0)) (nI 2))
    | some k => (mDrop (T 1) (toN n) k ((32 + 12 * (toN n)) + 5), putA (savT (thr T (nI 0))) 1 (mDrop (T 1) (toN n) k))
  else (nI 0, thr (thr T (nI 0)) (nI 1))
set_option maxRecDepth 100000 in
set_option maxHeartbeats 1000000 in
theorem c5_unwish (l : Launch) (E : jE) (S : jS) (x : jX) (T : jO) {z : Nat} (hM : MI (T 1) z) {m : Nat} (hm6 : m ≤ 6) (hm : T 0 0 = nI m) (h n : Int32) : Ct l E yX5_unwish cX5_unwish 4 (some .int) 5 [.ref (ad E 10 0), .int h, .int n] (setO S 10 T, x) (some (.int (mUnw T z h n).1)) (setO S 10 (mUnw T z h n).2, x) := by
  refine Ct.of (by decide +kernel) (Nat.le_refl _) (Nat.le_of_ble_eq_true rfl) rfl (fun J hJ hF => ?_)
  have hz := hM.1.1
  have hz6 := hM.1.2.2
  have hz4 := hM.1.2.1
  have s1 : savT (thr T (nI 0)) 1 = T 1 := savT_1 _
  have hM1 : MI (savT (thr T (nI 0)) 1) z := by rw [s1]; exact hM
  rcases hk : mWish (T 1) (toN n) h (toN (T 1 ((32 + 12 * (toN n)) + 5))) with _ | k
  · refine r_aload_n hJ dX5_unwish_0 rfl jg0 ?_
    refine r_iconst hJ (v := nI 0) dX5_unwish_1 (by decide) ?_
    refine r_p5_6 hJ m797 dX5_unwish_2 ?_
    refine r_iload_n hJ dX5_unwish_5 rfl jg1 ?_
    refine r_S1v hJ kX5_73 (c5_isHolder l E _ x h) dX5_unwish_6 ⟨by decide, by decide⟩ (Nat.le_of_ble_eq_true rfl) ?_
    refine r_if_eq hJ (tgt := 20) dX5_unwish_9 (by decide) (fun c9 => ?_) (fun c9 => ?_)
    · have c9 : witQ h (nI 0) (nI 7) = false := bI_0.mp c9
      refine r_aload_n hJ dX5_unwish_20 rfl jg0 ?_
      refine r_iconst hJ (v := nI 1) dX5_unwish_21 (by decide) ?_
      refine r_V1v hJ kX5_36 (rcv5 E) (c5_fails l E _ x _ (nI 1)) dX5_unwish_22 ⟨by decide, by decide⟩ (Nat.le_of_ble_eq_true rfl) ?_
      exact ret_i hF dX5_unwish_25 (by simp [mUnw, c9]) (by simp [mUnw, thr, c9])
    · have c9 : witQ h (nI 0) (nI 7) = true := bI_ne c9
      refine r_aload_n hJ dX5_unwish_12 rfl jg0 ?_
      refine r_iload_n hJ dX5_unwish_13 rfl jg2 ?_
      refine r_V1v hJ kX5_97 (rcv5 E) (c5_isNumber l E S x (thr T (nI 0)) (z := z) (by omega) hz n) dX5_unwish_14 ⟨by decide, by decide⟩ (Nat.le_of_ble_eq_true rfl) ?_
      refine r_if_ne hJ (tgt := 26) dX5_unwish_17 (by decide) (fun c17 => ?_) (fun c17 => ?_)
      · have c17 : witQ n (nI 0) (nI (z - 1)) = true := bI_ne c17
        refine r_aload_n hJ dX5_unwish_26 rfl jg0 ?_
        refine r_g5_0 hJ m791 dX5_unwish_27 ?_
        refine r_iload_n hJ dX5_unwish_30 rfl jg2 ?_
        refine r_iload_n hJ dX5_unwish_31 rfl jg1 ?_
        obtain ⟨n1, n2⟩ := wit_N (by omega) c17
        obtain ⟨-, w, hw, hQ⟩ := hM.2 (toN n) (by omega)
        have hwo := h5_wishOf l E S x (thr T (nI 0)) (Or.inl rfl) (n := toN n) (w := w) (by omega) hw hQ.1 h
        rw [← n1, show (thr T (nI 0)) 1 = T 1 from rfl, ← mQ_uniq hw hQ, hk] at hwo
        refine r_S3v hJ kX5_90 (hwo) dX5_unwish_32 ⟨by decide, by decide⟩ (Nat.le_of_ble_eq_true rfl) ?_
        refine r_istore_n hJ dX5_unwish_35 rfl (jp3 rfl rfl) ?_
        refine r_iload_n hJ dX5_unwish_36 rfl jg3 ?_
        refine r_iconst hJ (v := (-1)) dX5_unwish_37 (by decide) ?_
        refine r_icmp_ne hJ (tgt := 47) dX5_unwish_38 (by decide) (fun c38 => ?_) (fun c38 => ?_)
        · exact absurd rfl c38
        · refine r_aload_n hJ dX5_unwish_41 rfl jg0 ?_
          refine r_iconst hJ (v := nI 2) dX5_unwish_42 (by decide) ?_
          refine r_V1v hJ kX5_36 (rcv5 E) (c5_fails l E _ x _ (nI 2)) dX5_unwish_43 ⟨by decide, by decide⟩ (Nat.le_of_ble_eq_true rfl) ?_
          exact ret_i hF dX5_unwish_46 (by simp [mUnw, c9, c17, c38, hk]) (by simp [mUnw, thr, c9, c17, c38, hk])
      · have c17 : witQ n (nI 0) (nI (z - 1)) = false := bI_0.mp c17
        refine r_aload_n hJ dX5_unwish_20 rfl jg0 ?_
        refine r_iconst hJ (v := nI 1) dX5_unwish_21 (by decide) ?_
        refine r_V1v hJ kX5_36 (rcv5 E) (c5_fails l E _ x _ (nI 1)) dX5_unwish_22 ⟨by decide, by decide⟩ (Nat.le_of_ble_eq_true rfl) ?_
        exact ret_i hF dX5_unwish_25 (by simp [mUnw, c9, c17]) (by simp [mUnw, thr, c9, c17])
  · refine r_aload_n hJ dX5_unwish_0 rfl jg0 ?_
    refine r_iconst hJ (v := nI 0) dX5_unwish_1 (by decide) ?_
    refine r_p5_6 hJ m797 dX5_unwish_2 ?_
    refine r_iload_n hJ dX5_unwish_5 rfl jg1 ?_
    refine r_S1v hJ kX5_73 (c5_isHolder l E _ x h) dX5_unwish_6 ⟨by decide, by decide⟩ (Nat.le_of_ble_eq_true rfl) ?_
    refine r_if_eq hJ (tgt := 20) dX5_unwish_9 (by decide) (fun c9 => ?_) (fun c9 => ?_)
    · have c9 : witQ h (nI 0) (nI 7) = false := bI_0.mp c9
      refine r_aload_n hJ dX5_unwish_20 rfl jg0 ?_
      refine r_iconst hJ (v := nI 1) dX5_unwish_21 (by decide) ?_
      refine r_V1v hJ kX5_36 (rcv5 E) (c5_fails l E _ x _ (nI 1)) dX5_unwish_22 ⟨by decide, by decide⟩ (Nat.le_of_ble_eq_true rfl) ?_
      exact ret_i hF dX5_unwish_25 (by simp [mUnw, c9]) (by simp [mUnw, thr, c9])
    · have c9 : witQ h (nI 0) (nI 7) = true := bI_ne c9
      refine r_aload_n hJ dX5_unwish_12 rfl jg0 ?_
      refine r_iload_n hJ dX5_unwish_13 rfl jg2 ?_
      refine r_V1v hJ kX5_97 (rcv5 E) (c5_isNumber l E S x (thr T (nI 0)) (z := z) (by omega) hz n) dX5_unwish_14 ⟨by decide, by decide⟩ (Nat.le_of_ble_eq_true rfl) ?_
      refine r_if_ne hJ (tgt := 26) dX5_unwish_17 (by decide) (fun c17 => ?_) (fun c17 => ?_)
      · have c17 : witQ n (nI 0) (nI (z - 1)) = true := bI_ne c17
        refine r_aload_n hJ dX5_unwish_26 rfl jg0 ?_
        refine r_g5_0 hJ m791 dX5_unwish_27 ?_
        refine r_iload_n hJ dX5_unwish_30 rfl jg2 ?_
        refine r_iload_n hJ dX5_unwish_31 rfl jg1 ?_
        obtain ⟨n1, n2⟩ := wit_N (by omega) c17
        obtain ⟨-, w, hw, hQ⟩ := hM.2 (toN n) (by omega)
        have hwo := h5_wishOf l E S x (thr T (nI 0)) (Or.inl rfl) (n := toN n) (w := w) (by omega) hw hQ.1 h
        rw [← n1, show (thr T (nI 0)) 1 = T 1 from rfl, ← mQ_uniq hw hQ, hk] at hwo
        refine r_S3v hJ kX5_90 (hwo) dX5_unwish_32 ⟨by decide, by decide⟩ (Nat.le_of_ble_eq_true rfl) ?_
        refine r_istore_n hJ dX5_unwish_35 rfl (jp3 rfl rfl) ?_
        refine r_iload_n hJ dX5_unwish_36 rfl jg3 ?_
        refine r_iconst hJ (v := (-1)) dX5_unwish_37 (by decide) ?_
        refine r_icmp_ne hJ (tgt := 47) dX5_unwish_38 (by decide) (fun c38 => ?_) (fun c38 => ?_)
        · refine r_aload_n hJ dX5_unwish_47 rfl jg0 ?_
          refine r_V0u hJ kX5_83 (rcv5 E) (c5_saves l E S x (thr T (nI 0)) hm6 hm) dX5_unwish_48 ⟨by decide, by decide⟩ (Nat.le_of_ble_eq_true rfl) ?_
          refine r_aload_n hJ dX5_unwish_51 rfl jg0 ?_
          refine r_g5_0 hJ m791 dX5_unwish_52 ?_
          refine r_iload_n hJ dX5_unwish_55 rfl jg2 ?_
          refine r_iload_n hJ dX5_unwish_56 rfl jg3 ?_
          have hkw : k < w := by have := (fnd_lt hk).2.1; rw [mQ_uniq hw hQ] at this; omega
          have hdr := h5_drops l E S x (savT (thr T (nI 0))) (Or.inl rfl) (n := toN n) (by omega) (q := k) (by omega)
          rw [← n1, s1] at hdr
          refine r_S3u hJ kX5_54 (hdr) dX5_unwish_57 ⟨by decide, by decide⟩ (Nat.le_of_ble_eq_true rfl) ?_
          refine r_aload_n hJ dX5_unwish_60 rfl jg0 ?_
          refine r_g5_0 hJ m791 dX5_unwish_61 ?_
          refine r_iload_n hJ dX5_unwish_64 rfl jg2 ?_
          have hro := c5_row l E (setO S 10 (putA (savT (thr T (nI 0))) 1 (mDrop (T 1) (toN n) k))) x (toN n)
          rw [← n1] at hro
          refine r_S1v hJ kX5_40 (hro) dX5_unwish_65 ⟨by decide, by decide⟩ (Nat.le_of_ble_eq_true rfl) ?_
          refine r_iconst hJ (v := nI 5) dX5_unwish_68 (by decide) ?_
          refine r_iaddN hJ dX5_unwish_69 ?_
          refine r_ialdA hJ (alM1 (by omega)) rfl dX5_unwish_70 ?_
          exact ret_i hF dX5_unwish_71 (by simp [mUnw, c9, c17, c38, hk]) (by simp [mUnw, thr, c9, c17, c38, hk])
        · exact absurd c38 (nI_m1 (by have := (fnd_lt hk).2.1; rw [mQ_uniq hw hQ] at this; omega))
      · have c17 : witQ n (nI 0) (nI (z - 1)) = false := bI_0.mp c17
        refine r_aload_n hJ dX5_unwish_20 rfl jg0 ?_
        refine r_iconst hJ (v := nI 1) dX5_unwish_21 (by decide) ?_
        refine r_V1v hJ kX5_36 (rcv5 E) (c5_fails l E _ x _ (nI 1)) dX5_unwish_22 ⟨by decide, by decide⟩ (Nat.le_of_ble_eq_true rfl) ?_
        exact ret_i hF dX5_unwish_25 (by simp [mUnw, c9, c17]) (by simp [mUnw, thr, c9, c17])

def mApp (T : jO) (c : Int32) : Int32 × jO :=
  if witQ c (nI 33) (nI 126) = true then
    if T 0 1 = nI 60 then (nI 0, thr (thr T (nI 0)) (nI 2)) else (T 0 1 + nI 1, put (put (thr T (nI 0)) 4 (toN (T 0 1)) c) 0 1 (T 0 1 + nI 1))
  else (nI 0, thr (thr T (nI 0)) (nI 1))
set_option maxRecDepth 100000 in
set_option maxHeartbeats 1000000 in
theorem c5_append (l : Launch) (E : jE) (S : jS) (x : jX) (T : jO) {w : Nat} (hw6 : w ≤ 60) (hw : T 0 1 = nI w) (c : Int32) : Ct l E yX5_append cX5_append 2 (some .int) 2 [.ref (ad E 10 0), .int c] (setO S 10 T, x) (some (.int (mApp T c).1)) (setO S 10 (mApp T c).2, x) := by
  refine Ct.of (by decide +kernel) (Nat.le_refl _) (Nat.le_of_ble_eq_true rfl) rfl (fun J hJ hF => ?_)
  refine r_aload_n hJ dX5_append_0 rfl jg0 ?_
  refine r_iconst hJ (v := nI 0) dX5_append_1 (by decide) ?_
  refine r_p5_6 hJ m797 dX5_append_2 ?_
  refine r_iload_n hJ dX5_append_5 rfl jg1 ?_
  refine r_bipush hJ (v := nI 33) dX5_append_6 (by decide) ?_
  refine r_bipush hJ (v := nI 126) dX5_append_8 (by decide) ?_
  refine r_S3v hJ kX5_29 (c5_in l E _ x c (nI 33) (nI 126)) dX5_append_10 ⟨by decide, by decide⟩ (Nat.le_of_ble_eq_true rfl) ?_
  refine r_if_ne hJ (tgt := 22) dX5_append_13 (by decide) (fun c13 => ?_) (fun c13 => ?_)
  · have c13 : witQ c (nI 33) (nI 126) = true := bI_ne c13
    refine r_aload_n hJ dX5_append_22 rfl jg0 ?_
    refine r_g5_5O hJ m796 dX5_append_23 ?_
    refine r_bipush hJ (v := nI 60) dX5_append_26 (by decide) ?_
    refine r_icmp_ne hJ (tgt := 37) dX5_append_28 (by decide) (fun c28 => ?_) (fun c28 => ?_)
    · have c28 : ¬ T 0 1 = nI 60 := c28
      refine r_aload_n hJ dX5_append_37 rfl jg0 ?_
      refine r_g5_4 hJ m795 dX5_append_38 ?_
      refine r_aload_n hJ dX5_append_41 rfl jg0 ?_
      refine r_g5_5O hJ m796 dX5_append_42 ?_
      rw [show (put T 0 2 (nI 0)) 0 1 = nI w from hw]
      have hw60 : w < 60 := by
        rcases Nat.lt_or_ge w 60 with q | q
        · exact q
        · exact absurd (by rw [hw, show w = 60 by omega]) c28
      have c28 : ¬ nI w = nI 60 := by rw [← hw]; exact c28
      refine r_iload_n hJ dX5_append_45 rfl jg1 ?_
      refine r_iast hJ (by omega) (alM4 (by omega)) rfl dX5_append_46 ?_
      refine r_aload_n hJ dX5_append_47 rfl jg0 ?_
      refine r_dup hJ dX5_append_48 rfl ?_
      refine r_g5_5O hJ m796 dX5_append_49 ?_
      rw [put_ne (by decide), show (put T 0 2 (nI 0)) 0 1 = nI w from hw]
      refine r_iconst hJ (v := nI 1) dX5_append_52 (by decide) ?_
      refine r_iadd hJ dX5_append_53 ?_
      refine r_p5_5 hJ m796 dX5_append_54 ?_
      refine r_aload_n hJ dX5_append_57 rfl jg0 ?_
      refine r_g5_5O hJ m796 dX5_append_58 ?_
      rw [put_at, if_pos rfl]
      exact ret_i hF dX5_append_61 (by simp [mApp, c13, c28, hw]) (by simp [mApp, thr, c13, c28, hw, show toN (nI w) = w from toN_nI (by omega)])
    · have c28 : T 0 1 = nI 60 := c28
      refine r_aload_n hJ dX5_append_31 rfl jg0 ?_
      refine r_iconst hJ (v := nI 2) dX5_append_32 (by decide) ?_
      refine r_V1v hJ kX5_36 (rcv5 E) (c5_fails l E _ x _ (nI 2)) dX5_append_33 ⟨by decide, by decide⟩ (Nat.le_of_ble_eq_true rfl) ?_
      exact ret_i hF dX5_append_36 (by simp [mApp, c13, c28]) (by simp [mApp, thr, c13, c28])
  · have c13 : witQ c (nI 33) (nI 126) = false := bI_0.mp c13
    refine r_aload_n hJ dX5_append_16 rfl jg0 ?_
    refine r_iconst hJ (v := nI 1) dX5_append_17 (by decide) ?_
    refine r_V1v hJ kX5_36 (rcv5 E) (c5_fails l E _ x _ (nI 1)) dX5_append_18 ⟨by decide, by decide⟩ (Nat.le_of_ble_eq_true rfl) ?_
    exact ret_i hF dX5_append_21 (by simp [mApp, c13]) (by simp [mApp, thr, c13])

set_option maxRecDepth 100000 in
set_option maxHeartbeats 1000000 in
theorem c5_clearBuffer (l : Launch) (E : jE) (S : jS) (x : jX) (T : jO) : Ct l E yX5_clearBuffer cX5_clearBuffer 2 (some .int) 1 [.ref (ad E 10 0)] (setO S 10 T, x) (some (.int (T 0 1))) (setO S 10 (put (thr T (nI 0)) 0 1 (nI 0)), x) := by
  refine Ct.of (by decide +kernel) (Nat.le_refl _) (Nat.le_of_ble_eq_true rfl) rfl (fun J hJ hF => ?_)
  refine r_aload_n hJ dX5_clearBuffer_0 rfl jg0 ?_
  refine r_iconst hJ (v := nI 0) dX5_clearBuffer_1 (by decide) ?_
  refine r_p5_6 hJ m797 dX5_clearBuffer_2 ?_
  refine r_aload_n hJ dX5_clearBuffer_5 rfl jg0 ?_
  refine r_g5_5O hJ m796 dX5_clearBuffer_6 ?_
  refine r_istore_n hJ dX5_clearBuffer_9 rfl (jp1 rfl rfl) ?_
  refine r_aload_n hJ dX5_clearBuffer_10 rfl jg0 ?_
  refine r_iconst hJ (v := nI 0) dX5_clearBuffer_11 (by decide) ?_
  refine r_p5_5 hJ m796 dX5_clearBuffer_12 ?_
  refine r_iload_n hJ dX5_clearBuffer_15 rfl jg1 ?_
  exact ret_i hF dX5_clearBuffer_16 rfl rfl
