def mBack (z : Nat) (h : Int32) : Nat → Nat → (Nat → Int32) × Nat → (Nat → Int32) × Nat
  | 0, _, s => s
  | k + 1, n, s => mBack z h k (n + 1) (if s.1 ((32 + 12 * n)) = h then (mFreeR s.1 n z, s.2 + 1) else s)
theorem MI_back {z : Nat} {h : Int32} : ∀ (k n : Nat) (s : (Nat → Int32) × Nat), n + k ≤ 64 → MI s.1 z → MI (mBack z h k n s).1 z
  | 0, _, _, _, h => h
  | k + 1, n, s, hk, h => by
    rw [mBack]
    refine MI_back k (n + 1) _ (by omega) ?_
    split
    · exact MI_free (by omega) h
    · exact h
def mPass (z : Nat) : Nat → (Nat → Int32) × Int32 → (Nat → Int32) × Int32
  | 0, s => s
  | k + 1, s => mPass z k (mTick s.1 z, s.2 + (mTick s.1 z 7 - s.1 7))
theorem MI_pass {z : Nat} : ∀ (k : Nat) (s : (Nat → Int32) × Int32), MI s.1 z → MI (mPass z k s).1 z
  | 0, _, h => h
  | k + 1, s, h => by
    rw [mPass]
    exact MI_pass k _ (MI_tick h)
def mHeld (r : Nat → Int32) : Nat → Nat → Bool
  | 0, _ => false
  | k + 1, n => if mFree r n = true then mHeld r k (n + 1) else true
theorem n10 : (nI 1 = 0) = False := by decide
theorem n20 : (nI 2 = 0) = False := by decide
theorem n30 : (nI 3 = 0) = False := by decide
theorem n21 : (nI 2 = nI 1) = False := by decide
theorem n31 : (nI 3 = nI 1) = False := by decide
theorem n32 : (nI 3 = nI 2) = False := by decide
def mFor (s v : Int32) : Bool := if s = 0 then witQ v (nI 0) (nI 50) else if s = nI 1 then witQ v (nI 1) (nI 64) else if s = nI 2 then witQ v (nI 0) (nI 1) else witQ v (nI 4) (nI 64)
set_option maxRecDepth 100000 in
set_option maxHeartbeats 1000000 in
theorem c5_givesBack (l : Launch) (E : jE) (S : jS) (x : jX) (T : jO) {z : Nat} (hM : MI (T 1) z) (h : Int32) {a b : Nat} (ha : a < 64) (hb : b < 64) : Ct l E yX5_givesBack cX5_givesBack 6 (some .int) 5 [.ref (ad E 10 0), .int h, .int (nI a), .int (nI b)] (setO S 10 T, x) (some (.int (nI (mBack z h (b + 1 - a) a (T 1, 0)).2))) (setO S 10 (putA T 1 (mBack z h (b + 1 - a) a (T 1, 0)).1), x) := by
  refine Ct.of (by decide +kernel) (Nat.le_refl _) (Nat.le_of_ble_eq_true rfl) rfl (fun J hJ hF => ?_)
  have hz := hM.1.1
  have hz6 := hM.1.2.2
  have hz4 := hM.1.2.1
  have loop : ∀ (k i : Nat) (r' : Nat → Int32) (c : Nat), i + k = (b + 1 - a) → mBack z h k (a + i) (r', c) = mBack z h (b + 1 - a) a (T 1, 0) → MI r' z → J (setO S 10 (putA T 1 r'), x) 6 [some (.ref (ad E 10 0)), some (.int h), some (.int (nI a)), some (.int (nI b)), some (.int (nI c)), some (.int (nI (a + i)))] [] := by
    intro k
    induction k with
    | zero =>
      intro i r' c hi he hM
      obtain rfl : i = (b + 1 - a) := by omega
      refine r_iload hJ dX5_givesBack_6 jg5 ?_
      refine r_iload_n hJ dX5_givesBack_8 rfl jg3 ?_
      refine r_icmp_gt hJ (tgt := 44) dX5_givesBack_9 (by decide) (fun c9 => ?_) (fun c9 => ?_)
      · refine r_iload hJ dX5_givesBack_44 jg4 ?_
        exact ret_i hF dX5_givesBack_46 (by rw [← he]; rfl) (by rw [← he]; rfl)
      · exact absurd (show nI b < nI (a + (b + 1 - a)) from nI_lt (by omega) (by omega)) c9
    | succ k ih =>
      intro i r' c hi he hM
      refine r_iload hJ dX5_givesBack_6 jg5 ?_
      refine r_iload_n hJ dX5_givesBack_8 rfl jg3 ?_
      refine r_icmp_gt hJ (tgt := 44) dX5_givesBack_9 (by decide) (fun c9 => ?_) (fun c9 => ?_)
      · exact absurd (show nI b < nI (a + i) from c9) (nI_nlt (by omega) (by omega))
      · refine r_aload_n hJ dX5_givesBack_12 rfl jg0 ?_
        refine r_g5_0 hJ m791 dX5_givesBack_13 ?_
        refine r_iload hJ dX5_givesBack_16 jg5 ?_
        refine r_S1v hJ kX5_40 (c5_row l E _ x (a + i)) dX5_givesBack_18 ⟨by decide, by decide⟩ (Nat.le_of_ble_eq_true rfl) ?_
        refine r_ialdA hJ (alM1 (by omega)) rfl dX5_givesBack_21 ?_
        refine r_iload_n hJ dX5_givesBack_22 rfl jg1 ?_
        refine r_icmp_ne hJ (tgt := 38) dX5_givesBack_23 (by decide) (fun c23 => ?_) (fun c23 => ?_)
        · refine r_iinc hJ dX5_givesBack_38 jg5 (ii1 _) (jp5 rfl rfl) ?_
          refine r_goto hJ (tgt := 6) dX5_givesBack_41 (by decide) ?_
          rw [mBack, if_neg (show ¬ r' ((32 + 12 * (a + i))) = h from c23)] at he
          exact ih (i + 1) r' c (by omega) he hM
        · refine r_aload_n hJ dX5_givesBack_26 rfl jg0 ?_
          refine r_g5_0 hJ m791 dX5_givesBack_27 ?_
          refine r_iload hJ dX5_givesBack_30 jg5 ?_
          refine r_S2u hJ kX5_66 (c5_frees l E S x T (Or.inl rfl) r' (n := a + i) (by omega) hM) dX5_givesBack_32 ⟨by decide, by decide⟩ (Nat.le_of_ble_eq_true rfl) ?_
          refine r_iinc hJ dX5_givesBack_35 jg4 (ii1 _) (jp4 rfl rfl) ?_
          refine r_iinc hJ dX5_givesBack_38 jg5 (ii1 _) (jp5 rfl rfl) ?_
          refine r_goto hJ (tgt := 6) dX5_givesBack_41 (by decide) ?_
          rw [mBack, if_pos (show r' ((32 + 12 * (a + i))) = h from c23)] at he
          exact ih (i + 1) _ (c + 1) (by omega) he (MI_free (by omega) hM)
  refine r_iconst hJ (v := nI 0) dX5_givesBack_0 (by decide) ?_
  refine r_istore hJ dX5_givesBack_1 (jp4 rfl rfl) ?_
  refine r_iload_n hJ dX5_givesBack_3 rfl jg2 ?_
  refine r_istore hJ dX5_givesBack_4 (jp5 rfl rfl) ?_
  have h1 := loop (b + 1 - a) 0 (T 1) 0 (by omega) rfl hM
  rw [putA_self] at h1
  exact h1

def mGive (T : jO) (z : Nat) (h a b : Int32) : Int32 × jO :=
  if witQ h (nI 0) (nI 7) = true ∧ witQ a (nI 0) (nI (z - 1)) = true ∧ witQ b (nI 0) (nI (z - 1)) = true then
    if b < a then (nI 0, thr (thr T (nI 0)) (nI 2))
    else (nI (mBack z h (toN b + 1 - toN a) (toN a) (T 1, 0)).2, putA (savT (thr T (nI 0))) 1 (mBack z h (toN b + 1 - toN a) (toN a) (T 1, 0)).1)
  else (nI 0, thr (thr T (nI 0)) (nI 1))
set_option maxRecDepth 100000 in
set_option maxHeartbeats 1000000 in
theorem c5_giveBack (l : Launch) (E : jE) (S : jS) (x : jX) (T : jO) {z : Nat} (hM : MI (T 1) z) {m : Nat} (hm6 : m ≤ 6) (hm : T 0 0 = nI m) (h a b : Int32) : Ct l E yX5_giveBack cX5_giveBack 4 (some .int) 6 [.ref (ad E 10 0), .int h, .int a, .int b] (setO S 10 T, x) (some (.int (mGive T z h a b).1)) (setO S 10 (mGive T z h a b).2, x) := by
  refine Ct.of (by decide +kernel) (Nat.le_refl _) (Nat.le_of_ble_eq_true rfl) rfl (fun J hJ hF => ?_)
  have hz := hM.1.1
  have hz6 := hM.1.2.2
  have hz4 := hM.1.2.1
  have s1 : savT (thr T (nI 0)) 1 = T 1 := savT_1 _
  have hM1 : MI (savT (thr T (nI 0)) 1) z := by rw [s1]; exact hM
  refine r_aload_n hJ dX5_giveBack_0 rfl jg0 ?_
  refine r_iconst hJ (v := nI 0) dX5_giveBack_1 (by decide) ?_
  refine r_p5_6 hJ m797 dX5_giveBack_2 ?_
  refine r_iload_n hJ dX5_giveBack_5 rfl jg1 ?_
  refine r_S1v hJ kX5_73 (c5_isHolder l E _ x h) dX5_giveBack_6 ⟨by decide, by decide⟩ (Nat.le_of_ble_eq_true rfl) ?_
  refine r_if_eq hJ (tgt := 28) dX5_giveBack_9 (by decide) (fun c9 => ?_) (fun c9 => ?_)
  · have c9 : witQ h (nI 0) (nI 7) = false := bI_0.mp c9
    refine r_aload_n hJ dX5_giveBack_28 rfl jg0 ?_
    refine r_iconst hJ (v := nI 1) dX5_giveBack_29 (by decide) ?_
    refine r_V1v hJ kX5_36 (rcv5 E) (c5_fails l E _ x _ (nI 1)) dX5_giveBack_30 ⟨by decide, by decide⟩ (Nat.le_of_ble_eq_true rfl) ?_
    exact ret_i hF dX5_giveBack_33 (by simp [mGive, c9]) (by simp [mGive, thr, c9])
  · have c9 : witQ h (nI 0) (nI 7) = true := bI_ne c9
    refine r_aload_n hJ dX5_giveBack_12 rfl jg0 ?_
    refine r_iload_n hJ dX5_giveBack_13 rfl jg2 ?_
    refine r_V1v hJ kX5_97 (rcv5 E) (c5_isNumber l E S x (thr T (nI 0)) (z := z) (by omega) hz a) dX5_giveBack_14 ⟨by decide, by decide⟩ (Nat.le_of_ble_eq_true rfl) ?_
    refine r_if_eq hJ (tgt := 28) dX5_giveBack_17 (by decide) (fun c17 => ?_) (fun c17 => ?_)
    · have c17 : witQ a (nI 0) (nI (z - 1)) = false := bI_0.mp c17
      refine r_aload_n hJ dX5_giveBack_28 rfl jg0 ?_
      refine r_iconst hJ (v := nI 1) dX5_giveBack_29 (by decide) ?_
      refine r_V1v hJ kX5_36 (rcv5 E) (c5_fails l E _ x _ (nI 1)) dX5_giveBack_30 ⟨by decide, by decide⟩ (Nat.le_of_ble_eq_true rfl) ?_
      exact ret_i hF dX5_giveBack_33 (by simp [mGive, c9, c17]) (by simp [mGive, thr, c9, c17])
    · have c17 : witQ a (nI 0) (nI (z - 1)) = true := bI_ne c17
      refine r_aload_n hJ dX5_giveBack_20 rfl jg0 ?_
      refine r_iload_n hJ dX5_giveBack_21 rfl jg3 ?_
      refine r_V1v hJ kX5_97 (rcv5 E) (c5_isNumber l E S x (thr T (nI 0)) (z := z) (by omega) hz b) dX5_giveBack_22 ⟨by decide, by decide⟩ (Nat.le_of_ble_eq_true rfl) ?_
      refine r_if_ne hJ (tgt := 34) dX5_giveBack_25 (by decide) (fun c25 => ?_) (fun c25 => ?_)
      · have c25 : witQ b (nI 0) (nI (z - 1)) = true := bI_ne c25
        refine r_iload_n hJ dX5_giveBack_34 rfl jg3 ?_
        refine r_iload_n hJ dX5_giveBack_35 rfl jg2 ?_
        refine r_icmp_ge hJ (tgt := 45) dX5_giveBack_36 (by decide) (fun c36 => ?_) (fun c36 => ?_)
        · have c36 : ¬ b < a := Int32.not_lt.mpr c36
          refine r_aload_n hJ dX5_giveBack_45 rfl jg0 ?_
          refine r_V0u hJ kX5_83 (rcv5 E) (c5_saves l E S x (thr T (nI 0)) hm6 hm) dX5_giveBack_46 ⟨by decide, by decide⟩ (Nat.le_of_ble_eq_true rfl) ?_
          refine r_aload_n hJ dX5_giveBack_49 rfl jg0 ?_
          refine r_iload_n hJ dX5_giveBack_50 rfl jg1 ?_
          refine r_iload_n hJ dX5_giveBack_51 rfl jg2 ?_
          refine r_iload_n hJ dX5_giveBack_52 rfl jg3 ?_
          obtain ⟨a1, a2⟩ := wit_N (by omega) c17
          obtain ⟨b1, b2⟩ := wit_N (by omega) c25
          have hgb := c5_givesBack l E S x (savT (thr T (nI 0))) hM1 h (a := toN a) (b := toN b) (by omega) (by omega)
          rw [← a1, ← b1, s1] at hgb
          refine r_V3v hJ kX5_108 (rcv5 E) (hgb) dX5_giveBack_53 ⟨by decide, by decide⟩ (Nat.le_of_ble_eq_true rfl) ?_
          exact ret_i hF dX5_giveBack_56 (by simp [mGive, c9, c17, c25, c36]) (by simp [mGive, thr, c9, c17, c25, c36])
        · have c36 : b < a := Int32.not_le.mp c36
          refine r_aload_n hJ dX5_giveBack_39 rfl jg0 ?_
          refine r_iconst hJ (v := nI 2) dX5_giveBack_40 (by decide) ?_
          refine r_V1v hJ kX5_36 (rcv5 E) (c5_fails l E _ x _ (nI 2)) dX5_giveBack_41 ⟨by decide, by decide⟩ (Nat.le_of_ble_eq_true rfl) ?_
          exact ret_i hF dX5_giveBack_44 (by simp [mGive, c9, c17, c25, c36]) (by simp [mGive, thr, c9, c17, c25, c36])
      · have c25 : witQ b (nI 0) (nI (z - 1)) = false := bI_0.mp c25
        refine r_aload_n hJ dX5_giveBack_28 rfl jg0 ?_
        refine r_iconst hJ (v := nI 1) dX5_giveBack_29 (by decide) ?_
        refine r_V1v hJ kX5_36 (rcv5 E) (c5_fails l E _ x _ (nI 1)) dX5_giveBack_30 ⟨by decide, by decide⟩ (Nat.le_of_ble_eq_true rfl) ?_
        exact ret_i hF dX5_giveBack_33 (by simp [mGive, c9, c17, c25]) (by simp [mGive, thr, c9, c17, c25])

set_option maxRecDepth 100000 in
set_option maxHeartbeats 1000000 in
theorem c5_passesBy (l : Launch) (E : jE) (S : jS) (x : jX) (T : jO) {z : Nat} (hM : MI (T 1) z) {b : Nat} (hb : b < 1000) : Ct l E yX5_passesBy cX5_passesBy 4 (some .int) 6 [.ref (ad E 10 0), .int (nI b)] (setO S 10 T, x) (some (.int (mPass z b (T 1, nI 0)).2)) (setO S 10 (putA T 1 (mPass z b (T 1, nI 0)).1), x) := by
  refine Ct.of (by decide +kernel) (Nat.le_refl _) (Nat.le_of_ble_eq_true rfl) rfl (fun J hJ hF => ?_)
  have hz := hM.1.1
  have hz6 := hM.1.2.2
  have hz4 := hM.1.2.1
  have loop : ∀ (k i : Nat) (r' : Nat → Int32) (c : Int32), i + k = b → mPass z k (r', c) = mPass z b (T 1, nI 0) → MI r' z → J (setO S 10 (putA T 1 r'), x) 4 [some (.ref (ad E 10 0)), some (.int (nI b)), some (.int c), some (.int (nI i))] [] := by
    intro k
    induction k with
    | zero =>
      intro i r' c hi he hM
      obtain rfl : i = b := by omega
      refine r_iload_n hJ dX5_passesBy_4 rfl jg3 ?_
      refine r_iload_n hJ dX5_passesBy_5 rfl jg1 ?_
      refine r_icmp_ge hJ (tgt := 25) dX5_passesBy_6 (by decide) (fun c6 => ?_) (fun c6 => ?_)
      · refine r_iload_n hJ dX5_passesBy_25 rfl jg2 ?_
        exact ret_i hF dX5_passesBy_26 (by rw [← he]; rfl) (by rw [← he]; rfl)
      · exact absurd (nI_le (by omega) (by omega)) c6
    | succ k ih =>
      intro i r' c hi he hM
      refine r_iload_n hJ dX5_passesBy_4 rfl jg3 ?_
      refine r_iload_n hJ dX5_passesBy_5 rfl jg1 ?_
      refine r_icmp_ge hJ (tgt := 25) dX5_passesBy_6 (by decide) (fun c6 => ?_) (fun c6 => ?_)
      · exact absurd c6 (nI_ge (by omega) (by omega))
      · refine r_iload_n hJ dX5_passesBy_9 rfl jg2 ?_
        refine r_aload_n hJ dX5_passesBy_10 rfl jg0 ?_
        refine r_g5_0 hJ m791 dX5_passesBy_11 ?_
        refine r_S1v hJ kX5_111 (c5_passes l E S x T (Or.inl rfl) r' hM) dX5_passesBy_14 ⟨by decide, by decide⟩ (Nat.le_of_ble_eq_true rfl) ?_
        refine r_iadd hJ dX5_passesBy_17 ?_
        refine r_istore_n hJ dX5_passesBy_18 rfl (jp2 rfl rfl) ?_
        refine r_iinc hJ dX5_passesBy_19 jg3 (ii1 _) (jp3 rfl rfl) ?_
        refine r_goto hJ (tgt := 4) dX5_passesBy_22 (by decide) ?_
        rw [mPass] at he
        exact ih (i + 1) _ _ (by omega) he (MI_tick hM)
  refine r_iconst hJ (v := nI 0) dX5_passesBy_0 (by decide) ?_
  refine r_istore_n hJ dX5_passesBy_1 rfl (jp2 rfl rfl) ?_
  refine r_iconst hJ (v := nI 0) dX5_passesBy_2 (by decide) ?_
  refine r_istore_n hJ dX5_passesBy_3 rfl (jp3 rfl rfl) ?_
  have h1 := loop b 0 (T 1) (nI 0) (by omega) rfl hM
  rw [putA_self] at h1
  exact h1

def mPas (T : jO) (z : Nat) (b : Int32) : Int32 × jO :=
  if witQ b (nI 1) (nI 99) = true then
    if T 1 0 + b ≤ nI 9999 then ((mPass z (toN b) (T 1, nI 0)).2, putA (savT (thr T (nI 0))) 1 (mPass z (toN b) (T 1, nI 0)).1)
    else (nI 0, thr (thr T (nI 0)) (nI 2))
  else (nI 0, thr (thr T (nI 0)) (nI 1))
set_option maxRecDepth 100000 in
set_option maxHeartbeats 1000000 in
theorem c5_pass (l : Launch) (E : jE) (S : jS) (x : jX) (T : jO) {z : Nat} (hM : MI (T 1) z) {m : Nat} (hm6 : m ≤ 6) (hm : T 0 0 = nI m) (b : Int32) : Ct l E yX5_pass cX5_pass 2 (some .int) 7 [.ref (ad E 10 0), .int b] (setO S 10 T, x) (some (.int (mPas T z b).1)) (setO S 10 (mPas T z b).2, x) := by
  refine Ct.of (by decide +kernel) (Nat.le_refl _) (Nat.le_of_ble_eq_true rfl) rfl (fun J hJ hF => ?_)
  have hz := hM.1.1
  have hz6 := hM.1.2.2
  have hz4 := hM.1.2.1
  have s1 : savT (thr T (nI 0)) 1 = T 1 := savT_1 _
  have hM1 : MI (savT (thr T (nI 0)) 1) z := by rw [s1]; exact hM
  refine r_aload_n hJ dX5_pass_0 rfl jg0 ?_
  refine r_iconst hJ (v := nI 0) dX5_pass_1 (by decide) ?_
  refine r_p5_6 hJ m797 dX5_pass_2 ?_
  refine r_iload_n hJ dX5_pass_5 rfl jg1 ?_
  refine r_iconst hJ (v := nI 1) dX5_pass_6 (by decide) ?_
  refine r_bipush hJ (v := nI 99) dX5_pass_7 (by decide) ?_
  refine r_S3v hJ kX5_29 (c5_in l E _ x b (nI 1) (nI 99)) dX5_pass_9 ⟨by decide, by decide⟩ (Nat.le_of_ble_eq_true rfl) ?_
  refine r_if_ne hJ (tgt := 21) dX5_pass_12 (by decide) (fun c12 => ?_) (fun c12 => ?_)
  · have c12 : witQ b (nI 1) (nI 99) = true := bI_ne c12
    refine r_aload_n hJ dX5_pass_21 rfl jg0 ?_
    refine r_g5_0 hJ m791 dX5_pass_22 ?_
    refine r_iconst hJ (v := nI 0) dX5_pass_25 (by decide) ?_
    refine r_ialdO hJ (by omega) (alM1 (by omega)) rfl dX5_pass_26 ?_
    refine r_iload_n hJ dX5_pass_27 rfl jg1 ?_
    refine r_iadd hJ dX5_pass_28 ?_
    refine r_sipush hJ (v := nI 9999) dX5_pass_29 (by decide) ?_
    refine r_icmp_le hJ (tgt := 41) dX5_pass_32 (by decide) (fun c32 => ?_) (fun c32 => ?_)
    · have c32 : T 1 0 + b ≤ nI 9999 := c32
      refine r_aload_n hJ dX5_pass_41 rfl jg0 ?_
      refine r_V0u hJ kX5_83 (rcv5 E) (c5_saves l E S x (thr T (nI 0)) hm6 hm) dX5_pass_42 ⟨by decide, by decide⟩ (Nat.le_of_ble_eq_true rfl) ?_
      refine r_aload_n hJ dX5_pass_45 rfl jg0 ?_
      refine r_iload_n hJ dX5_pass_46 rfl jg1 ?_
      obtain ⟨b1, b2, b3⟩ := wit_N1 (by decide) c12
      have hps := c5_passesBy l E S x (savT (thr T (nI 0))) hM1 (b := toN b) (by omega)
      rw [← b1, s1] at hps
      refine r_V1v hJ kX5_115 (rcv5 E) (hps) dX5_pass_47 ⟨by decide, by decide⟩ (Nat.le_of_ble_eq_true rfl) ?_
      exact ret_i hF dX5_pass_50 (by simp [mPas, c12, c32]) (by simp [mPas, thr, c12, c32])
    · have c32 : ¬ T 1 0 + b ≤ nI 9999 := c32
      refine r_aload_n hJ dX5_pass_35 rfl jg0 ?_
      refine r_iconst hJ (v := nI 2) dX5_pass_36 (by decide) ?_
      refine r_V1v hJ kX5_36 (rcv5 E) (c5_fails l E _ x _ (nI 2)) dX5_pass_37 ⟨by decide, by decide⟩ (Nat.le_of_ble_eq_true rfl) ?_
      exact ret_i hF dX5_pass_40 (by simp [mPas, c12, c32]) (by simp [mPas, thr, c12, c32])
  · have c12 : witQ b (nI 1) (nI 99) = false := bI_0.mp c12
    refine r_aload_n hJ dX5_pass_15 rfl jg0 ?_
    refine r_iconst hJ (v := nI 1) dX5_pass_16 (by decide) ?_
    refine r_V1v hJ kX5_36 (rcv5 E) (c5_fails l E _ x _ (nI 1)) dX5_pass_17 ⟨by decide, by decide⟩ (Nat.le_of_ble_eq_true rfl) ?_
    exact ret_i hF dX5_pass_20 (by simp [mPas, c12]) (by simp [mPas, thr, c12])

set_option maxRecDepth 100000 in
set_option maxHeartbeats 1000000 in
theorem c5_isFor (l : Launch) (E : jE) (S : jS) (x : jX) (s v : Int32) : Ct l E yX5_isFor cX5_isFor 3 (some .boolean) 2 [.ref (ad E 10 0), .int s, .int v] (S, x) (some (.int (bI (mFor s v)))) (S, x) := by
  refine Ct.of (by decide +kernel) (Nat.le_refl _) (Nat.le_of_ble_eq_true rfl) rfl (fun J hJ hF => ?_)
  refine r_iload_n hJ dX5_isFor_0 rfl jg1 ?_
  refine r_if_ne hJ (tgt := 14) dX5_isFor_1 (by decide) (fun c1 => ?_) (fun c1 => ?_)
  · refine r_iload_n hJ dX5_isFor_14 rfl jg1 ?_
    refine r_iconst hJ (v := nI 1) dX5_isFor_15 (by decide) ?_
    refine r_icmp_ne hJ (tgt := 29) dX5_isFor_16 (by decide) (fun c16 => ?_) (fun c16 => ?_)
    · refine r_iload_n hJ dX5_isFor_29 rfl jg1 ?_
      refine r_iconst hJ (v := nI 2) dX5_isFor_30 (by decide) ?_
      refine r_icmp_ne hJ (tgt := 43) dX5_isFor_31 (by decide) (fun c31 => ?_) (fun c31 => ?_)
      · refine r_iload_n hJ dX5_isFor_43 rfl jg2 ?_
        refine r_iconst hJ (v := nI 4) dX5_isFor_44 (by decide) ?_
        refine r_bipush hJ (v := nI 64) dX5_isFor_45 (by decide) ?_
        refine r_S3v hJ kX5_29 (c5_in l E _ x v (nI 4) (nI 64)) dX5_isFor_47 ⟨by decide, by decide⟩ (Nat.le_of_ble_eq_true rfl) ?_
        exact ret_z hF dX5_isFor_50 (bI_nar _).1 (by simp [mFor, c1, c16, c31, n10, n20, n21, n30, n31, n32]) rfl
      · refine r_iload_n hJ dX5_isFor_34 rfl jg2 ?_
        refine r_iconst hJ (v := nI 0) dX5_isFor_35 (by decide) ?_
        refine r_iconst hJ (v := nI 1) dX5_isFor_36 (by decide) ?_
        refine r_S3v hJ kX5_29 (c5_in l E _ x v (nI 0) (nI 1)) dX5_isFor_37 ⟨by decide, by decide⟩ (Nat.le_of_ble_eq_true rfl) ?_
        refine r_goto hJ (tgt := 50) dX5_isFor_40 (by decide) ?_
        exact ret_z hF dX5_isFor_50 (bI_nar _).1 (by simp [mFor, c1, c16, c31, n10, n20, n21, n30, n31, n32]) rfl
    · refine r_iload_n hJ dX5_isFor_19 rfl jg2 ?_
      refine r_iconst hJ (v := nI 1) dX5_isFor_20 (by decide) ?_
      refine r_bipush hJ (v := nI 64) dX5_isFor_21 (by decide) ?_
      refine r_S3v hJ kX5_29 (c5_in l E _ x v (nI 1) (nI 64)) dX5_isFor_23 ⟨by decide, by decide⟩ (Nat.le_of_ble_eq_true rfl) ?_
      refine r_goto hJ (tgt := 50) dX5_isFor_26 (by decide) ?_
      exact ret_z hF dX5_isFor_50 (bI_nar _).1 (by simp [mFor, c1, c16, n10, n20, n21, n30, n31, n32]) rfl
  · refine r_iload_n hJ dX5_isFor_4 rfl jg2 ?_
    refine r_iconst hJ (v := nI 0) dX5_isFor_5 (by decide) ?_
    refine r_bipush hJ (v := nI 50) dX5_isFor_6 (by decide) ?_
    refine r_S3v hJ kX5_29 (c5_in l E _ x v (nI 0) (nI 50)) dX5_isFor_8 ⟨by decide, by decide⟩ (Nat.le_of_ble_eq_true rfl) ?_
    refine r_goto hJ (tgt := 50) dX5_isFor_11 (by decide) ?_
    exact ret_z hF dX5_isFor_50 (bI_nar _).1 (by simp [mFor, c1, n10, n20, n21, n30, n31, n32]) rfl

def mSet (T : jO) (z : Nat) (s v : Int32) : Int32 × jO :=
  if witQ s (nI 0) (nI 3) = true then
    if mFor s v = true then
      if s = nI 3 ∧ mHeld (T 1) (z - toN v) (toN v) = true then (nI 0, thr (thr T (nI 0)) (nI 3))
      else (T 1 (1 + toN s), putA (savT (thr T (nI 0))) 1 (upd (T 1) (1 + toN s) v))
    else (nI 0, thr (thr T (nI 0)) (nI 2))
  else (nI 0, thr (thr T (nI 0)) (nI 1))
theorem wit_N4 {v : Int32} (h : witQ v (nI 4) (nI 64) = true) : v = nI (toN v) ∧ toN v ≤ 64 := by
  unfold witQ at h
  rw [Bool.and_eq_true, decide_eq_true_iff, decide_eq_true_iff] at h
  obtain ⟨j, hj, rfl⟩ := nI_of (Int32.not_lt.mpr (Int32.le_trans (by decide) h.1))
  rw [toN_nI hj]
  exact ⟨rfl, (nI_leI hj (by decide)).mp h.2⟩
set_option maxRecDepth 100000 in
set_option maxHeartbeats 1000000 in
theorem c5_set (l : Launch) (E : jE) (S : jS) (x : jX) (T : jO) {z : Nat} (hM : MI (T 1) z) {m : Nat} (hm6 : m ≤ 6) (hm : T 0 0 = nI m) (s v : Int32) : Ct l E yX5_set cX5_set 4 (some .int) 3 [.ref (ad E 10 0), .int s, .int v] (setO S 10 T, x) (some (.int (mSet T z s v).1)) (setO S 10 (mSet T z s v).2, x) := by
  refine Ct.of (by decide +kernel) (Nat.le_refl _) (Nat.le_of_ble_eq_true rfl) rfl (fun J hJ hF => ?_)
  have hz := hM.1.1
  have hz6 := hM.1.2.2
  have hz4 := hM.1.2.1
  have s1 : savT (thr T (nI 0)) 1 = T 1 := savT_1 _
  have hM1 : MI (savT (thr T (nI 0)) 1) z := by rw [s1]; exact hM
  refine r_aload_n hJ dX5_set_0 rfl jg0 ?_
  refine r_iconst hJ (v := nI 0) dX5_set_1 (by decide) ?_
  refine r_p5_6 hJ m797 dX5_set_2 ?_
  refine r_iload_n hJ dX5_set_5 rfl jg1 ?_
  refine r_iconst hJ (v := nI 0) dX5_set_6 (by decide) ?_
  refine r_iconst hJ (v := nI 3) dX5_set_7 (by decide) ?_
  refine r_S3v hJ kX5_29 (c5_in l E _ x s (nI 0) (nI 3)) dX5_set_8 ⟨by decide, by decide⟩ (Nat.le_of_ble_eq_true rfl) ?_
  refine r_if_ne hJ (tgt := 20) dX5_set_11 (by decide) (fun c11 => ?_) (fun c11 => ?_)
  · have c11 : witQ s (nI 0) (nI 3) = true := bI_ne c11
    refine r_aload_n hJ dX5_set_20 rfl jg0 ?_
    refine r_iload_n hJ dX5_set_21 rfl jg1 ?_
    refine r_iload_n hJ dX5_set_22 rfl jg2 ?_
    refine r_V2v hJ kX5_118 (rcv5 E) (c5_isFor l E _ x s v) dX5_set_23 ⟨by decide, by decide⟩ (Nat.le_of_ble_eq_true rfl) ?_
    refine r_if_ne hJ (tgt := 35) dX5_set_26 (by decide) (fun c26 => ?_) (fun c26 => ?_)
    · have c26 : mFor s v = true := bI_ne c26
      refine r_iload_n hJ dX5_set_35 rfl jg2 ?_
      refine r_istore_n hJ dX5_set_36 rfl (jp3 rfl rfl) ?_
      have tail : ¬ (s = nI 3 ∧ mHeld (T 1) (z - toN v) (toN v) = true) → ∀ v3 : Option Value, nc2 v3 = true → J (setO S 10 (thr T (nI 0)), x) 75 [some (.ref (ad E 10 0)), some (.int s), some (.int v), v3] [] := by
        intro hno v3 h3
        refine r_aload_n hJ dX5_set_75 rfl jg0 ?_
        refine r_V0u hJ kX5_83 (rcv5 E) (c5_saves l E S x (thr T (nI 0)) hm6 hm) dX5_set_76 ⟨by decide, by decide⟩ (Nat.le_of_ble_eq_true rfl) ?_
        rw [← putA_self (savT (thr T (nI 0))) 1, s1]
        obtain ⟨e1, e2⟩ := wit_N (by decide) c11
        have ex : nI 1 + s = nI (1 + toN s) := (congrArg (nI 1 + ·) e1).trans (nI_add _ _)
        refine r_aload_n hJ dX5_set_79 rfl jg0 ?_
        refine r_g5_0 hJ m791 dX5_set_80 ?_
        refine r_iconst hJ (v := nI 1) dX5_set_83 (by decide) ?_
        refine r_iload_n hJ dX5_set_84 rfl jg1 ?_
        refine r_iadd hJ dX5_set_85 ?_
        refine r_ialdA hJ (alM1 (by omega)) ex dX5_set_86 ?_
        refine r_istore_n hJ dX5_set_87 rfl (jp3 rfl rfl) ?_
        refine r_aload_n hJ dX5_set_88 rfl jg0 ?_
        refine r_g5_0 hJ m791 dX5_set_89 ?_
        refine r_iconst hJ (v := nI 1) dX5_set_92 (by decide) ?_
        refine r_iload_n hJ dX5_set_93 rfl jg1 ?_
        refine r_iadd hJ dX5_set_94 ?_
        refine r_iload_n hJ dX5_set_95 rfl jg2 ?_
        refine r_iastA hJ (alM1 (by omega)) ex dX5_set_96 ?_
        refine r_iload_n hJ dX5_set_97 rfl jg3 ?_
        exact ret_i hF dX5_set_98 (by simp [mSet, c11, c26, hno]) (by simp [mSet, c11, c26, hno])
      have loop : s = nI 3 → toN v ≤ 64 → ∀ (k i : Nat), i + k = z - toN v → mHeld (T 1) k (toN v + i) = mHeld (T 1) (z - toN v) (toN v) → J (setO S 10 (thr T (nI 0)), x) 37 [some (.ref (ad E 10 0)), some (.int s), some (.int v), some (.int (nI (toN v + i)))] [] := by
        intro hs3 hv4 k
        have h33 : witQ (nI 3) (nI 0) (nI 3) = true := by decide
        induction k with
        | zero =>
          intro i hi he
          obtain rfl : i = z - toN v := by omega
          refine r_iload_n hJ dX5_set_37 rfl jg1 ?_
          refine r_iconst hJ (v := nI 3) dX5_set_38 (by decide) ?_
          refine r_icmp_ne hJ (tgt := 75) dX5_set_39 (by decide) (fun c39 => ?_) (fun c39 => ?_)
          · exact absurd c39 (by rw [hs3]; exact fun q => q rfl)
          · refine r_iload_n hJ dX5_set_42 rfl jg3 ?_
            refine r_aload_n hJ dX5_set_43 rfl jg0 ?_
            refine r_g5_0 hJ m791 dX5_set_44 ?_
            refine r_iconst hJ (v := nI 4) dX5_set_47 (by decide) ?_
            refine r_ialdO hJ (by omega) (alM1 (by omega)) rfl dX5_set_48 ?_
            refine r_icmp_ge hJ (tgt := 75) dX5_set_49 (by decide) (fun c49 => ?_) (fun c49 => ?_)
            · exact tail (fun q => absurd (he.trans q.2) (by simp [mHeld])) _ rfl
            · exact absurd (show (thr T (nI 0)) 1 4 ≤ nI (toN v + (z - toN v)) from by rw [show (thr T (nI 0)) 1 4 = nI z from hz]; exact nI_le (by omega) (by omega)) c49
        | succ k ih =>
          intro i hi he
          refine r_iload_n hJ dX5_set_37 rfl jg1 ?_
          refine r_iconst hJ (v := nI 3) dX5_set_38 (by decide) ?_
          refine r_icmp_ne hJ (tgt := 75) dX5_set_39 (by decide) (fun c39 => ?_) (fun c39 => ?_)
          · exact absurd c39 (by rw [hs3]; exact fun q => q rfl)
          · refine r_iload_n hJ dX5_set_42 rfl jg3 ?_
            refine r_aload_n hJ dX5_set_43 rfl jg0 ?_
            refine r_g5_0 hJ m791 dX5_set_44 ?_
            refine r_iconst hJ (v := nI 4) dX5_set_47 (by decide) ?_
            refine r_ialdO hJ (by omega) (alM1 (by omega)) rfl dX5_set_48 ?_
            refine r_icmp_ge hJ (tgt := 75) dX5_set_49 (by decide) (fun c49 => ?_) (fun c49 => ?_)
            · exact absurd (show nI z ≤ nI (toN v + i) from hz ▸ c49) (nI_ge (by omega) (by omega))
            · refine r_aload_n hJ dX5_set_52 rfl jg0 ?_
              refine r_g5_0 hJ m791 dX5_set_53 ?_
              refine r_iload_n hJ dX5_set_56 rfl jg3 ?_
              refine r_S2v hJ kX5_43 (h5_isFree l E S x (thr T (nI 0)) (Or.inl rfl) (n := toN v + i) (by omega)) dX5_set_57 ⟨by decide, by decide⟩ (Nat.le_of_ble_eq_true rfl) ?_
              refine r_if_ne hJ (tgt := 69) dX5_set_60 (by decide) (fun c60 => ?_) (fun c60 => ?_)
              · have c60 : mFree (T 1) (toN v + i) = true := bI_ne c60
                refine r_iinc hJ dX5_set_69 jg3 (ii1 _) (jp3 rfl rfl) ?_
                refine r_goto hJ (tgt := 37) dX5_set_72 (by decide) ?_
                exact ih (i + 1) (by omega) (by rw [← he, mHeld, if_pos c60, Nat.add_assoc])
              · have c60 : mFree (T 1) (toN v + i) = false := bI_0.mp c60
                refine r_aload_n hJ dX5_set_63 rfl jg0 ?_
                refine r_iconst hJ (v := nI 3) dX5_set_64 (by decide) ?_
                refine r_V1v hJ kX5_36 (rcv5 E) (c5_fails l E _ x _ (nI 3)) dX5_set_65 ⟨by decide, by decide⟩ (Nat.le_of_ble_eq_true rfl) ?_
                have hh : mHeld (T 1) (z - toN v) (toN v) = true := by
                  rw [← he, mHeld, if_neg (by rw [c60]; decide)]
                have h26 : mFor (nI 3) v = true := hs3 ▸ c26
                exact ret_i hF dX5_set_68 (by simp [mSet, c11, c26, hs3, hh, h33, h26]) (by simp [mSet, thr, c11, c26, hs3, hh, h33, h26])
      by_cases hs3 : s = nI 3
      · have hv : v = nI (toN v) ∧ toN v ≤ 64 := by
          rw [hs3] at c26
          exact wit_N4 (by simpa [mFor, n30, n31, n32] using c26)
        have h1 := loop hs3 hv.2 (z - toN v) 0 (by omega) rfl
        rw [Nat.add_zero, ← hv.1] at h1
        exact h1
      · refine r_iload_n hJ dX5_set_37 rfl jg1 ?_
        refine r_iconst hJ (v := nI 3) dX5_set_38 (by decide) ?_
        refine r_icmp_ne hJ (tgt := 75) dX5_set_39 (by decide) (fun _ => tail (fun q => hs3 q.1) _ rfl) (fun q => absurd q hs3)
    · have c26 : mFor s v = false := bI_0.mp c26
      refine r_aload_n hJ dX5_set_29 rfl jg0 ?_
      refine r_iconst hJ (v := nI 2) dX5_set_30 (by decide) ?_
      refine r_V1v hJ kX5_36 (rcv5 E) (c5_fails l E _ x _ (nI 2)) dX5_set_31 ⟨by decide, by decide⟩ (Nat.le_of_ble_eq_true rfl) ?_
      exact ret_i hF dX5_set_34 (by simp [mSet, c11, c26]) (by simp [mSet, thr, c11, c26])
  · have c11 : witQ s (nI 0) (nI 3) = false := bI_0.mp c11
    refine r_aload_n hJ dX5_set_14 rfl jg0 ?_
    refine r_iconst hJ (v := nI 1) dX5_set_15 (by decide) ?_
    refine r_V1v hJ kX5_36 (rcv5 E) (c5_fails l E _ x _ (nI 1)) dX5_set_16 ⟨by decide, by decide⟩ (Nat.le_of_ble_eq_true rfl) ?_
    exact ret_i hF dX5_set_19 (by simp [mSet, c11]) (by simp [mSet, thr, c11])
