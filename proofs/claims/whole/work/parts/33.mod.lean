def mGivN (h : Nat) (u : Int32) : Nat → Nat → (Nat → Int32) → (Nat → Int32)
  | 0, _, r => r
  | k + 1, n, r => mGivN h u k (n + 1) (mGives r n h u)
def mSpan (T : jO) (z : Nat) (h m u : Int32) : Int32 × jO :=
  if witQ h (nI 0) (nI 7) = true then
    if witQ m (nI 1) (nI 64) = true ∧ witQ u (nI 1) (nI 999) = true then
      if ¬ mFirst (T 1) m z 0 0 = -1 ∧ mRoom (T 1) z h m = true then (mFirst (T 1) m z 0 0, putA (savT (thr T (nI 0))) 1 (mGivN (toN h) u (toN m) (toN (mFirst (T 1) m z 0 0)) (T 1)))
      else (nI 0, thr (thr T (nI 0)) (nI 3))
    else (nI 0, thr (thr T (nI 0)) (nI 2))
  else (nI 0, thr (thr T (nI 0)) (nI 1))
theorem wit_N1 {v : Int32} {c : Nat} (hc : c < 2 ^ 31) (h : witQ v (nI 1) (nI c) = true) : v = nI (toN v) ∧ 1 ≤ toN v ∧ toN v ≤ c := by
  unfold witQ at h
  rw [Bool.and_eq_true, decide_eq_true_iff, decide_eq_true_iff] at h
  obtain ⟨j, hj, rfl⟩ := nI_of (Int32.not_lt.mpr (Int32.le_trans (by decide) h.1))
  rw [toN_nI hj]
  exact ⟨rfl, (nI_leI (by decide) hj).mp h.1, (nI_leI hj hc).mp h.2⟩
set_option maxRecDepth 100000 in
set_option maxHeartbeats 1000000 in
theorem c5_takeSpan (l : Launch) (E : jE) (S : jS) (x : jX) (T : jO) {z : Nat} (hM : MI (T 1) z) {m : Nat} (hm6 : m ≤ 6) (hm : T 0 0 = nI m) (h m u : Int32) : Ct l E yX5_takeSpan cX5_takeSpan 6 (some .int) 5 [.ref (ad E 10 0), .int h, .int m, .int u] (setO S 10 T, x) (some (.int (mSpan T z h m u).1)) (setO S 10 (mSpan T z h m u).2, x) := by
  refine Ct.of (by decide +kernel) (Nat.le_refl _) (Nat.le_of_ble_eq_true rfl) rfl (fun J hJ hF => ?_)
  have hz := hM.1.1
  have hz6 := hM.1.2.2
  have hz4 := hM.1.2.1
  have s1 : savT (thr T (nI 0)) 1 = T 1 := savT_1 _
  have hM1 : MI (savT (thr T (nI 0)) 1) z := by rw [s1]; exact hM
  refine r_aload_n hJ dX5_takeSpan_0 rfl jg0 ?_
  refine r_iconst hJ (v := nI 0) dX5_takeSpan_1 (by decide) ?_
  refine r_p5_6 hJ m797 dX5_takeSpan_2 ?_
  refine r_iload_n hJ dX5_takeSpan_5 rfl jg1 ?_
  refine r_S1v hJ kX5_73 (c5_isHolder l E _ x h) dX5_takeSpan_6 ⟨by decide, by decide⟩ (Nat.le_of_ble_eq_true rfl) ?_
  refine r_if_ne hJ (tgt := 18) dX5_takeSpan_9 (by decide) (fun c9 => ?_) (fun c9 => ?_)
  · have c9 : witQ h (nI 0) (nI 7) = true := bI_ne c9
    refine r_iload_n hJ dX5_takeSpan_18 rfl jg2 ?_
    refine r_iconst hJ (v := nI 1) dX5_takeSpan_19 (by decide) ?_
    refine r_bipush hJ (v := nI 64) dX5_takeSpan_20 (by decide) ?_
    refine r_S3v hJ kX5_29 (c5_in l E _ x m (nI 1) (nI 64)) dX5_takeSpan_22 ⟨by decide, by decide⟩ (Nat.le_of_ble_eq_true rfl) ?_
    refine r_if_eq hJ (tgt := 35) dX5_takeSpan_25 (by decide) (fun c25 => ?_) (fun c25 => ?_)
    · have c25 : witQ m (nI 1) (nI 64) = false := bI_0.mp c25
      refine r_aload_n hJ dX5_takeSpan_35 rfl jg0 ?_
      refine r_iconst hJ (v := nI 2) dX5_takeSpan_36 (by decide) ?_
      refine r_V1v hJ kX5_36 (rcv5 E) (c5_fails l E _ x _ (nI 2)) dX5_takeSpan_37 ⟨by decide, by decide⟩ (Nat.le_of_ble_eq_true rfl) ?_
      exact ret_i hF dX5_takeSpan_40 (by simp [mSpan, c9, c25]) (by simp [mSpan, thr, c9, c25])
    · have c25 : witQ m (nI 1) (nI 64) = true := bI_ne c25
      refine r_iload_n hJ dX5_takeSpan_28 rfl jg3 ?_
      refine r_S1v hJ kX5_77 (c5_isTerm l E _ x u) dX5_takeSpan_29 ⟨by decide, by decide⟩ (Nat.le_of_ble_eq_true rfl) ?_
      refine r_if_ne hJ (tgt := 41) dX5_takeSpan_32 (by decide) (fun c32 => ?_) (fun c32 => ?_)
      · have c32 : witQ u (nI 1) (nI 999) = true := bI_ne c32
        refine r_aload_n hJ dX5_takeSpan_41 rfl jg0 ?_
        refine r_g5_0 hJ m791 dX5_takeSpan_42 ?_
        refine r_iload_n hJ dX5_takeSpan_45 rfl jg2 ?_
        refine r_S2v hJ kX5_70 (h5_firstFree l E S x (thr T (nI 0)) (Or.inl rfl) hz (by omega) m) dX5_takeSpan_46 ⟨by decide, by decide⟩ (Nat.le_of_ble_eq_true rfl) ?_
        refine r_istore hJ dX5_takeSpan_49 (jp4 rfl rfl) ?_
        refine r_iload hJ dX5_takeSpan_51 jg4 ?_
        refine r_iconst hJ (v := (-1)) dX5_takeSpan_53 (by decide) ?_
        refine r_icmp_eq hJ (tgt := 69) dX5_takeSpan_54 (by decide) (fun c54 => ?_) (fun c54 => ?_)
        · have c54 : mFirst (T 1) m z 0 0 = -1 := c54
          refine r_aload_n hJ dX5_takeSpan_69 rfl jg0 ?_
          refine r_iconst hJ (v := nI 3) dX5_takeSpan_70 (by decide) ?_
          refine r_V1v hJ kX5_36 (rcv5 E) (c5_fails l E _ x _ (nI 3)) dX5_takeSpan_71 ⟨by decide, by decide⟩ (Nat.le_of_ble_eq_true rfl) ?_
          exact ret_i hF dX5_takeSpan_74 (by simp [mSpan, c9, c25, c32, c54]) (by simp [mSpan, thr, c9, c25, c32, c54])
        · have c54 : ¬ mFirst (T 1) m z 0 0 = -1 := c54
          refine r_aload_n hJ dX5_takeSpan_57 rfl jg0 ?_
          refine r_g5_0 hJ m791 dX5_takeSpan_58 ?_
          refine r_iload_n hJ dX5_takeSpan_61 rfl jg1 ?_
          refine r_iload_n hJ dX5_takeSpan_62 rfl jg2 ?_
          refine r_S3v hJ kX5_58 (h5_hasRoom l E S x (thr T (nI 0)) (Or.inl rfl) hz (by omega) h m) dX5_takeSpan_63 ⟨by decide, by decide⟩ (Nat.le_of_ble_eq_true rfl) ?_
          refine r_if_ne hJ (tgt := 75) dX5_takeSpan_66 (by decide) (fun c66 => ?_) (fun c66 => ?_)
          · have c66 : mRoom (T 1) z h m = true := bI_ne c66
            refine r_aload_n hJ dX5_takeSpan_75 rfl jg0 ?_
            refine r_V0u hJ kX5_83 (rcv5 E) (c5_saves l E S x (thr T (nI 0)) hm6 hm) dX5_takeSpan_76 ⟨by decide, by decide⟩ (Nat.le_of_ble_eq_true rfl) ?_
            refine r_iconst hJ (v := nI 0) dX5_takeSpan_79 (by decide) ?_
            refine r_istore hJ dX5_takeSpan_80 (jp5 rfl rfl) ?_
            obtain ⟨e1, e2⟩ := wit_N (by decide) c9
            obtain ⟨m1, m2, m3⟩ := wit_N1 (by decide) c25
            obtain ⟨g, hg, hf⟩ : ∃ g, g + toN m ≤ z ∧ mFirst (T 1) m z 0 0 = nI g := by
              rcases mF_lt (r := T 1) (m := toN m) (by omega) m3 z 0 0 (by omega) (Nat.le_refl _) with q | ⟨g, g1, g2⟩
              · rw [← m1] at q
                exact absurd q c54
              · rw [← m1] at g2
                exact ⟨g, by omega, g2⟩
            have tg : toN (nI g) = g := toN_nI (by omega)
            have hfm : ¬ nI g = -1 := nI_m1 (by omega)
            have hf' : mFirst (thr T (nI 0) 1) m z 0 0 = nI g := hf
            rw [hf']
            have loop : ∀ (k i : Nat) (r' : Nat → Int32), i + k = toN m → mGivN (toN h) u k (g + i) r' = mGivN (toN h) u (toN m) g (T 1) → J (setO S 10 (putA (savT (thr T (nI 0))) 1 r'), x) 82 [some (.ref (ad E 10 0)), some (.int h), some (.int m), some (.int u), some (.int (nI g)), some (.int (nI i))] [] := by
              intro k
              induction k with
              | zero =>
                intro i r' hi he
                obtain rfl : i = toN m := by omega
                refine r_iload hJ dX5_takeSpan_82 jg5 ?_
                refine r_iload_n hJ dX5_takeSpan_84 rfl jg2 ?_
                refine r_icmp_ge hJ (tgt := 108) dX5_takeSpan_85 (by decide) (fun c85 => ?_) (fun c85 => ?_)
                · refine r_iload hJ dX5_takeSpan_108 jg4 ?_
                  exact ret_i hF dX5_takeSpan_110 (by simp [mSpan, c9, c25, c32, c54, c66, hf, hfm]) (by simp [mSpan, c9, c25, c32, c54, c66, hf, hfm, tg, ← he, mGivN])
                · exact absurd (by rw [← m1]; exact Int32.le_refl _) c85
              | succ k ih =>
                intro i r' hi he
                refine r_iload hJ dX5_takeSpan_82 jg5 ?_
                refine r_iload_n hJ dX5_takeSpan_84 rfl jg2 ?_
                refine r_icmp_ge hJ (tgt := 108) dX5_takeSpan_85 (by decide) (fun c85 => ?_) (fun c85 => ?_)
                · exact absurd c85 (by rw [m1]; exact nI_ge (by omega) (by omega))
                · refine r_aload_n hJ dX5_takeSpan_88 rfl jg0 ?_
                  refine r_g5_0 hJ m791 dX5_takeSpan_89 ?_
                  refine r_iload hJ dX5_takeSpan_92 jg4 ?_
                  refine r_iload hJ dX5_takeSpan_94 jg5 ?_
                  refine r_iaddN hJ dX5_takeSpan_96 ?_
                  refine r_iload_n hJ dX5_takeSpan_97 rfl jg1 ?_
                  refine r_iload_n hJ dX5_takeSpan_98 rfl jg3 ?_
                  have hg := c5_gives l E S x (savT (thr T (nI 0))) (Or.inl rfl) r' (n := g + i) (h := toN h) (by omega) (by omega) u
                  rw [← e1] at hg
                  refine r_S4u hJ kX5_62 (hg) dX5_takeSpan_99 ⟨by decide, by decide⟩ (Nat.le_of_ble_eq_true rfl) ?_
                  refine r_iinc hJ dX5_takeSpan_102 jg5 (ii1 _) (jp5 rfl rfl) ?_
                  refine r_goto hJ (tgt := 82) dX5_takeSpan_105 (by decide) ?_
                  exact ih (i + 1) _ (by omega) he
            have h1 := loop (toN m) 0 (T 1) (by omega) rfl
            rw [← s1, putA_self] at h1
            exact h1
          · have c66 : mRoom (T 1) z h m = false := bI_0.mp c66
            refine r_aload_n hJ dX5_takeSpan_69 rfl jg0 ?_
            refine r_iconst hJ (v := nI 3) dX5_takeSpan_70 (by decide) ?_
            refine r_V1v hJ kX5_36 (rcv5 E) (c5_fails l E _ x _ (nI 3)) dX5_takeSpan_71 ⟨by decide, by decide⟩ (Nat.le_of_ble_eq_true rfl) ?_
            exact ret_i hF dX5_takeSpan_74 (by simp [mSpan, c9, c25, c32, c54, c66]) (by simp [mSpan, thr, c9, c25, c32, c54, c66])
      · have c32 : witQ u (nI 1) (nI 999) = false := bI_0.mp c32
        refine r_aload_n hJ dX5_takeSpan_35 rfl jg0 ?_
        refine r_iconst hJ (v := nI 2) dX5_takeSpan_36 (by decide) ?_
        refine r_V1v hJ kX5_36 (rcv5 E) (c5_fails l E _ x _ (nI 2)) dX5_takeSpan_37 ⟨by decide, by decide⟩ (Nat.le_of_ble_eq_true rfl) ?_
        exact ret_i hF dX5_takeSpan_40 (by simp [mSpan, c9, c25, c32]) (by simp [mSpan, thr, c9, c25, c32])
  · have c9 : witQ h (nI 0) (nI 7) = false := bI_0.mp c9
    refine r_aload_n hJ dX5_takeSpan_12 rfl jg0 ?_
    refine r_iconst hJ (v := nI 1) dX5_takeSpan_13 (by decide) ?_
    refine r_V1v hJ kX5_36 (rcv5 E) (c5_fails l E _ x _ (nI 1)) dX5_takeSpan_14 ⟨by decide, by decide⟩ (Nat.le_of_ble_eq_true rfl) ?_
    exact ret_i hF dX5_takeSpan_17 (by simp [mSpan, c9]) (by simp [mSpan, thr, c9])

def mRenR (r : Nat → Int32) (n : Nat) (u : Int32) : Nat → Int32 :=
  let r1 := upd r 5 (r 5 + nI 1)
  let r2 := upd r1 6 (r1 6 + (if mStg r1 n = nI 2 then nI 1 else nI 0))
  let r3 := upd r2 ((32 + 12 * n) + 2) (r2 0 + u)
  upd r3 ((32 + 12 * n) + 3) (r3 0 + u + r3 1)
def mRen (T : jO) (z : Nat) (h n u : Int32) : Int32 × jO :=
  if witQ h (nI 0) (nI 7) = true ∧ witQ n (nI 0) (nI (z - 1)) = true then
    if witQ u (nI 1) (nI 999) = true then
      if T 1 ((32 + 12 * (toN n))) = h ∧ (T 1 ((32 + 12 * (toN n)) + 5) ≤ 0 ∨ ¬ T 1 3 = nI 1) then (T 1 ((32 + 12 * (toN n)) + 2), putA (savT (thr T (nI 0))) 1 (mRenR (T 1) (toN n) u))
      else (nI 0, thr (thr T (nI 0)) (nI 3))
    else (nI 0, thr (thr T (nI 0)) (nI 2))
  else (nI 0, thr (thr T (nI 0)) (nI 1))
set_option maxRecDepth 100000 in
set_option maxHeartbeats 1000000 in
theorem c5_renew (l : Launch) (E : jE) (S : jS) (x : jX) (T : jO) {z : Nat} (hM : MI (T 1) z) {m : Nat} (hm6 : m ≤ 6) (hm : T 0 0 = nI m) (h n u : Int32) : Ct l E yX5_renew cX5_renew 6 (some .int) 5 [.ref (ad E 10 0), .int h, .int n, .int u] (setO S 10 T, x) (some (.int (mRen T z h n u).1)) (setO S 10 (mRen T z h n u).2, x) := by
  refine Ct.of (by decide +kernel) (Nat.le_refl _) (Nat.le_of_ble_eq_true rfl) rfl (fun J hJ hF => ?_)
  have hz := hM.1.1
  have hz6 := hM.1.2.2
  have hz4 := hM.1.2.1
  have s1 : savT (thr T (nI 0)) 1 = T 1 := savT_1 _
  have hM1 : MI (savT (thr T (nI 0)) 1) z := by rw [s1]; exact hM
  refine r_aload_n hJ dX5_renew_0 rfl jg0 ?_
  refine r_iconst hJ (v := nI 0) dX5_renew_1 (by decide) ?_
  refine r_p5_6 hJ m797 dX5_renew_2 ?_
  refine r_iload_n hJ dX5_renew_5 rfl jg1 ?_
  refine r_S1v hJ kX5_73 (c5_isHolder l E _ x h) dX5_renew_6 ⟨by decide, by decide⟩ (Nat.le_of_ble_eq_true rfl) ?_
  refine r_if_eq hJ (tgt := 20) dX5_renew_9 (by decide) (fun c9 => ?_) (fun c9 => ?_)
  · have c9 : witQ h (nI 0) (nI 7) = false := bI_0.mp c9
    refine r_aload_n hJ dX5_renew_20 rfl jg0 ?_
    refine r_iconst hJ (v := nI 1) dX5_renew_21 (by decide) ?_
    refine r_V1v hJ kX5_36 (rcv5 E) (c5_fails l E _ x _ (nI 1)) dX5_renew_22 ⟨by decide, by decide⟩ (Nat.le_of_ble_eq_true rfl) ?_
    exact ret_i hF dX5_renew_25 (by simp [mRen, c9]) (by simp [mRen, thr, c9])
  · have c9 : witQ h (nI 0) (nI 7) = true := bI_ne c9
    refine r_aload_n hJ dX5_renew_12 rfl jg0 ?_
    refine r_iload_n hJ dX5_renew_13 rfl jg2 ?_
    refine r_V1v hJ kX5_97 (rcv5 E) (c5_isNumber l E S x (thr T (nI 0)) (z := z) (by omega) hz n) dX5_renew_14 ⟨by decide, by decide⟩ (Nat.le_of_ble_eq_true rfl) ?_
    refine r_if_ne hJ (tgt := 26) dX5_renew_17 (by decide) (fun c17 => ?_) (fun c17 => ?_)
    · have c17 : witQ n (nI 0) (nI (z - 1)) = true := bI_ne c17
      refine r_iload_n hJ dX5_renew_26 rfl jg3 ?_
      refine r_S1v hJ kX5_77 (c5_isTerm l E _ x u) dX5_renew_27 ⟨by decide, by decide⟩ (Nat.le_of_ble_eq_true rfl) ?_
      refine r_if_ne hJ (tgt := 39) dX5_renew_30 (by decide) (fun c30 => ?_) (fun c30 => ?_)
      · have c30 : witQ u (nI 1) (nI 999) = true := bI_ne c30
        refine r_iload_n hJ dX5_renew_39 rfl jg2 ?_
        obtain ⟨n1, n2⟩ := wit_N (by omega) c17
        have hro := c5_row l E (setO S 10 (thr T (nI 0))) x (toN n)
        rw [← n1] at hro
        refine r_S1v hJ kX5_40 (hro) dX5_renew_40 ⟨by decide, by decide⟩ (Nat.le_of_ble_eq_true rfl) ?_
        refine r_istore hJ dX5_renew_43 (jp4 rfl rfl) ?_
        refine r_aload_n hJ dX5_renew_45 rfl jg0 ?_
        refine r_g5_0 hJ m791 dX5_renew_46 ?_
        refine r_iload hJ dX5_renew_49 jg4 ?_
        refine r_ialdO hJ (by omega) (alM1 (by omega)) rfl dX5_renew_51 ?_
        refine r_iload_n hJ dX5_renew_52 rfl jg1 ?_
        refine r_icmp_ne hJ (tgt := 78) dX5_renew_53 (by decide) (fun c53 => ?_) (fun c53 => ?_)
        · have c53 : ¬ T 1 ((32 + 12 * (toN n))) = h := c53
          refine r_aload_n hJ dX5_renew_78 rfl jg0 ?_
          refine r_iconst hJ (v := nI 3) dX5_renew_79 (by decide) ?_
          refine r_V1v hJ kX5_36 (rcv5 E) (c5_fails l E _ x _ (nI 3)) dX5_renew_80 ⟨by decide, by decide⟩ (Nat.le_of_ble_eq_true rfl) ?_
          exact ret_i hF dX5_renew_83 (by simp [mRen, c9, c17, c30, c53]) (by simp [mRen, thr, c9, c17, c30, c53])
        · have c53 : T 1 ((32 + 12 * (toN n))) = h := c53
          refine r_aload_n hJ dX5_renew_56 rfl jg0 ?_
          refine r_g5_0 hJ m791 dX5_renew_57 ?_
          refine r_iload hJ dX5_renew_60 jg4 ?_
          refine r_iconst hJ (v := nI 5) dX5_renew_62 (by decide) ?_
          refine r_iaddN hJ dX5_renew_63 ?_
          refine r_ialdO hJ (by omega) (alM1 (by omega)) rfl dX5_renew_64 ?_
          refine r_if_le hJ (tgt := 84) dX5_renew_65 (by decide) (fun c65 => ?_) (fun c65 => ?_)
          · have c65 : T 1 ((32 + 12 * (toN n)) + 5) ≤ 0 := c65
            refine r_aload_n hJ dX5_renew_84 rfl jg0 ?_
            refine r_V0u hJ kX5_83 (rcv5 E) (c5_saves l E S x (thr T (nI 0)) hm6 hm) dX5_renew_85 ⟨by decide, by decide⟩ (Nat.le_of_ble_eq_true rfl) ?_
            rw [← putA_self (savT (thr T (nI 0))) 1, s1]
            refine r_aload_n hJ dX5_renew_88 rfl jg0 ?_
            refine r_g5_0 hJ m791 dX5_renew_89 ?_
            refine r_iload hJ dX5_renew_92 jg4 ?_
            refine r_iconst hJ (v := nI 2) dX5_renew_94 (by decide) ?_
            refine r_iaddN hJ dX5_renew_95 ?_
            refine r_ialdA hJ (alM1 (by omega)) rfl dX5_renew_96 ?_
            refine r_istore hJ dX5_renew_97 (jp5 rfl rfl) ?_
            refine r_aload_n hJ dX5_renew_99 rfl jg0 ?_
            refine r_g5_0 hJ m791 dX5_renew_100 ?_
            refine r_iconst hJ (v := nI 5) dX5_renew_103 (by decide) ?_
            refine r_dup2_11 hJ dX5_renew_104 rfl rfl ?_
            refine r_ialdA hJ (alM1 (by omega)) rfl dX5_renew_105 ?_
            refine r_iconst hJ (v := nI 1) dX5_renew_106 (by decide) ?_
            refine r_iadd hJ dX5_renew_107 ?_
            refine r_iastA hJ (alM1 (by omega)) rfl dX5_renew_108 ?_
            refine r_aload_n hJ dX5_renew_109 rfl jg0 ?_
            refine r_g5_0 hJ m791 dX5_renew_110 ?_
            refine r_bipush hJ (v := nI 6) dX5_renew_113 (by decide) ?_
            refine r_dup2_11 hJ dX5_renew_115 rfl rfl ?_
            refine r_ialdA hJ (alM1 (by omega)) rfl dX5_renew_116 ?_
            refine r_aload_n hJ dX5_renew_117 rfl jg0 ?_
            refine r_g5_0 hJ m791 dX5_renew_118 ?_
            refine r_iload_n hJ dX5_renew_121 rfl jg2 ?_
            obtain ⟨r1, hr1⟩ : ∃ r1, upd (T 1) 5 (T 1 5 + nI 1) = r1 := ⟨_, rfl⟩
            rw [hr1]
            have hsg := c5_stageOf l E S x (savT (thr T (nI 0))) (Or.inl rfl) r1 (n := toN n) (by omega)
            rw [← n1] at hsg
            refine r_S2v hJ kX5_51 (hsg) dX5_renew_122 ⟨by decide, by decide⟩ (Nat.le_of_ble_eq_true rfl) ?_
            refine r_iconst hJ (v := nI 2) dX5_renew_125 (by decide) ?_
            refine r_icmp_ne hJ (tgt := 133) dX5_renew_126 (by decide) (fun c126 => ?_) (fun c126 => ?_)
            · refine r_iconst hJ (v := nI 0) dX5_renew_133 (by decide) ?_
              refine r_iadd hJ dX5_renew_134 ?_
              refine r_iastA hJ (alM1 (by omega)) rfl dX5_renew_135 ?_
              refine r_aload_n hJ dX5_renew_136 rfl jg0 ?_
              refine r_g5_0 hJ m791 dX5_renew_137 ?_
              refine r_iload hJ dX5_renew_140 jg4 ?_
              refine r_iconst hJ (v := nI 2) dX5_renew_142 (by decide) ?_
              refine r_iaddN hJ dX5_renew_143 ?_
              refine r_aload_n hJ dX5_renew_144 rfl jg0 ?_
              refine r_g5_0 hJ m791 dX5_renew_145 ?_
              refine r_iconst hJ (v := nI 0) dX5_renew_148 (by decide) ?_
              refine r_ialdA hJ (alM1 (by omega)) rfl dX5_renew_149 ?_
              refine r_iload_n hJ dX5_renew_150 rfl jg3 ?_
              refine r_iadd hJ dX5_renew_151 ?_
              refine r_iastA hJ (alM1 (by omega)) rfl dX5_renew_152 ?_
              refine r_aload_n hJ dX5_renew_153 rfl jg0 ?_
              refine r_g5_0 hJ m791 dX5_renew_154 ?_
              refine r_iload hJ dX5_renew_157 jg4 ?_
              refine r_iconst hJ (v := nI 3) dX5_renew_159 (by decide) ?_
              refine r_iaddN hJ dX5_renew_160 ?_
              refine r_aload_n hJ dX5_renew_161 rfl jg0 ?_
              refine r_g5_0 hJ m791 dX5_renew_162 ?_
              refine r_iconst hJ (v := nI 0) dX5_renew_165 (by decide) ?_
              refine r_ialdA hJ (alM1 (by omega)) rfl dX5_renew_166 ?_
              refine r_iload_n hJ dX5_renew_167 rfl jg3 ?_
              refine r_iadd hJ dX5_renew_168 ?_
              refine r_aload_n hJ dX5_renew_169 rfl jg0 ?_
              refine r_g5_0 hJ m791 dX5_renew_170 ?_
              refine r_iconst hJ (v := nI 1) dX5_renew_173 (by decide) ?_
              refine r_ialdA hJ (alM1 (by omega)) rfl dX5_renew_174 ?_
              refine r_iadd hJ dX5_renew_175 ?_
              refine r_iastA hJ (alM1 (by omega)) rfl dX5_renew_176 ?_
              refine r_iload hJ dX5_renew_177 jg5 ?_
              have hres : mRen T z h n u = (T 1 ((32 + 12 * (toN n)) + 2), putA (savT (thr T (nI 0))) 1 (mRenR (T 1) (toN n) u)) := by simp [mRen, c9, c17, c30, c53, c65, c126]
              exact ret_i hF dX5_renew_179 (by rw [hres]) (by rw [hres]; simp only [mRenR, hr1, c126, if_true, if_false])
            · refine r_iconst hJ (v := nI 1) dX5_renew_129 (by decide) ?_
              refine r_goto hJ (tgt := 134) dX5_renew_130 (by decide) ?_
              refine r_iadd hJ dX5_renew_134 ?_
              refine r_iastA hJ (alM1 (by omega)) rfl dX5_renew_135 ?_
              refine r_aload_n hJ dX5_renew_136 rfl jg0 ?_
              refine r_g5_0 hJ m791 dX5_renew_137 ?_
              refine r_iload hJ dX5_renew_140 jg4 ?_
              refine r_iconst hJ (v := nI 2) dX5_renew_142 (by decide) ?_
              refine r_iaddN hJ dX5_renew_143 ?_
              refine r_aload_n hJ dX5_renew_144 rfl jg0 ?_
              refine r_g5_0 hJ m791 dX5_renew_145 ?_
              refine r_iconst hJ (v := nI 0) dX5_renew_148 (by decide) ?_
              refine r_ialdA hJ (alM1 (by omega)) rfl dX5_renew_149 ?_
              refine r_iload_n hJ dX5_renew_150 rfl jg3 ?_
              refine r_iadd hJ dX5_renew_151 ?_
              refine r_iastA hJ (alM1 (by omega)) rfl dX5_renew_152 ?_
              refine r_aload_n hJ dX5_renew_153 rfl jg0 ?_
              refine r_g5_0 hJ m791 dX5_renew_154 ?_
              refine r_iload hJ dX5_renew_157 jg4 ?_
              refine r_iconst hJ (v := nI 3) dX5_renew_159 (by decide) ?_
              refine r_iaddN hJ dX5_renew_160 ?_
              refine r_aload_n hJ dX5_renew_161 rfl jg0 ?_
              refine r_g5_0 hJ m791 dX5_renew_162 ?_
              refine r_iconst hJ (v := nI 0) dX5_renew_165 (by decide) ?_
              refine r_ialdA hJ (alM1 (by omega)) rfl dX5_renew_166 ?_
              refine r_iload_n hJ dX5_renew_167 rfl jg3 ?_
              refine r_iadd hJ dX5_renew_168 ?_
              refine r_aload_n hJ dX5_renew_169 rfl jg0 ?_
              refine r_g5_0 hJ m791 dX5_renew_170 ?_
              refine r_iconst hJ (v := nI 1) dX5_renew_173 (by decide) ?_
              refine r_ialdA hJ (alM1 (by omega)) rfl dX5_renew_174 ?_
              refine r_iadd hJ dX5_renew_175 ?_
              refine r_iastA hJ (alM1 (by omega)) rfl dX5_renew_176 ?_
              refine r_iload hJ dX5_renew_177 jg5 ?_
              have hres : mRen T z h n u = (T 1 ((32 + 12 * (toN n)) + 2), putA (savT (thr T (nI 0))) 1 (mRenR (T 1) (toN n) u)) := by simp [mRen, c9, c17, c30, c53, c65, c126]
              exact ret_i hF dX5_renew_179 (by rw [hres]) (by rw [hres]; simp only [mRenR, hr1, c126, if_true, if_false])
          · have c65 : ¬ T 1 ((32 + 12 * (toN n)) + 5) ≤ 0 := c65
            refine r_aload_n hJ dX5_renew_68 rfl jg0 ?_
            refine r_g5_0 hJ m791 dX5_renew_69 ?_
            refine r_iconst hJ (v := nI 3) dX5_renew_72 (by decide) ?_
            refine r_ialdO hJ (by omega) (alM1 (by omega)) rfl dX5_renew_73 ?_
            refine r_iconst hJ (v := nI 1) dX5_renew_74 (by decide) ?_
            refine r_icmp_ne hJ (tgt := 84) dX5_renew_75 (by decide) (fun c75 => ?_) (fun c75 => ?_)
            · have c75 : ¬ T 1 3 = nI 1 := c75
              refine r_aload_n hJ dX5_renew_84 rfl jg0 ?_
              refine r_V0u hJ kX5_83 (rcv5 E) (c5_saves l E S x (thr T (nI 0)) hm6 hm) dX5_renew_85 ⟨by decide, by decide⟩ (Nat.le_of_ble_eq_true rfl) ?_
              rw [← putA_self (savT (thr T (nI 0))) 1, s1]
              refine r_aload_n hJ dX5_renew_88 rfl jg0 ?_
              refine r_g5_0 hJ m791 dX5_renew_89 ?_
              refine r_iload hJ dX5_renew_92 jg4 ?_
              refine r_iconst hJ (v := nI 2) dX5_renew_94 (by decide) ?_
              refine r_iaddN hJ dX5_renew_95 ?_
              refine r_ialdA hJ (alM1 (by omega)) rfl dX5_renew_96 ?_
              refine r_istore hJ dX5_renew_97 (jp5 rfl rfl) ?_
              refine r_aload_n hJ dX5_renew_99 rfl jg0 ?_
              refine r_g5_0 hJ m791 dX5_renew_100 ?_
              refine r_iconst hJ (v := nI 5) dX5_renew_103 (by decide) ?_
              refine r_dup2_11 hJ dX5_renew_104 rfl rfl ?_
              refine r_ialdA hJ (alM1 (by omega)) rfl dX5_renew_105 ?_
              refine r_iconst hJ (v := nI 1) dX5_renew_106 (by decide) ?_
              refine r_iadd hJ dX5_renew_107 ?_
              refine r_iastA hJ (alM1 (by omega)) rfl dX5_renew_108 ?_
              refine r_aload_n hJ dX5_renew_109 rfl jg0 ?_
              refine r_g5_0 hJ m791 dX5_renew_110 ?_
              refine r_bipush hJ (v := nI 6) dX5_renew_113 (by decide) ?_
              refine r_dup2_11 hJ dX5_renew_115 rfl rfl ?_
              refine r_ialdA hJ (alM1 (by omega)) rfl dX5_renew_116 ?_
              refine r_aload_n hJ dX5_renew_117 rfl jg0 ?_
              refine r_g5_0 hJ m791 dX5_renew_118 ?_
              refine r_iload_n hJ dX5_renew_121 rfl jg2 ?_
              obtain ⟨r1, hr1⟩ : ∃ r1, upd (T 1) 5 (T 1 5 + nI 1) = r1 := ⟨_, rfl⟩
              rw [hr1]
              have hsg := c5_stageOf l E S x (savT (thr T (nI 0))) (Or.inl rfl) r1 (n := toN n) (by omega)
              rw [← n1] at hsg
              refine r_S2v hJ kX5_51 (hsg) dX5_renew_122 ⟨by decide, by decide⟩ (Nat.le_of_ble_eq_true rfl) ?_
              refine r_iconst hJ (v := nI 2) dX5_renew_125 (by decide) ?_
              refine r_icmp_ne hJ (tgt := 133) dX5_renew_126 (by decide) (fun c126 => ?_) (fun c126 => ?_)
              · refine r_iconst hJ (v := nI 0) dX5_renew_133 (by decide) ?_
                refine r_iadd hJ dX5_renew_134 ?_
                refine r_iastA hJ (alM1 (by omega)) rfl dX5_renew_135 ?_
                refine r_aload_n hJ dX5_renew_136 rfl jg0 ?_
                refine r_g5_0 hJ m791 dX5_renew_137 ?_
                refine r_iload hJ dX5_renew_140 jg4 ?_
                refine r_iconst hJ (v := nI 2) dX5_renew_142 (by decide) ?_
                refine r_iaddN hJ dX5_renew_143 ?_
                refine r_aload_n hJ dX5_renew_144 rfl jg0 ?_
                refine r_g5_0 hJ m791 dX5_renew_145 ?_
                refine r_iconst hJ (v := nI 0) dX5_renew_148 (by decide) ?_
                refine r_ialdA hJ (alM1 (by omega)) rfl dX5_renew_149 ?_
                refine r_iload_n hJ dX5_renew_150 rfl jg3 ?_
                refine r_iadd hJ dX5_renew_151 ?_
                refine r_iastA hJ (alM1 (by omega)) rfl dX5_renew_152 ?_
                refine r_aload_n hJ dX5_renew_153 rfl jg0 ?_
                refine r_g5_0 hJ m791 dX5_renew_154 ?_
                refine r_iload hJ dX5_renew_157 jg4 ?_
                refine r_iconst hJ (v := nI 3) dX5_renew_159 (by decide) ?_
                refine r_iaddN hJ dX5_renew_160 ?_
                refine r_aload_n hJ dX5_renew_161 rfl jg0 ?_
                refine r_g5_0 hJ m791 dX5_renew_162 ?_
                refine r_iconst hJ (v := nI 0) dX5_renew_165 (by decide) ?_
                refine r_ialdA hJ (alM1 (by omega)) rfl dX5_renew_166 ?_
                refine r_iload_n hJ dX5_renew_167 rfl jg3 ?_
                refine r_iadd hJ dX5_renew_168 ?_
                refine r_aload_n hJ dX5_renew_169 rfl jg0 ?_
                refine r_g5_0 hJ m791 dX5_renew_170 ?_
                refine r_iconst hJ (v := nI 1) dX5_renew_173 (by decide) ?_
                refine r_ialdA hJ (alM1 (by omega)) rfl dX5_renew_174 ?_
                refine r_iadd hJ dX5_renew_175 ?_
                refine r_iastA hJ (alM1 (by omega)) rfl dX5_renew_176 ?_
                refine r_iload hJ dX5_renew_177 jg5 ?_
                have hres : mRen T z h n u = (T 1 ((32 + 12 * (toN n)) + 2), putA (savT (thr T (nI 0))) 1 (mRenR (T 1) (toN n) u)) := by simp [mRen, c9, c17, c30, c53, c65, c75, c126]
                exact ret_i hF dX5_renew_179 (by rw [hres]) (by rw [hres]; simp only [mRenR, hr1, c126, if_true, if_false])
              · refine r_iconst hJ (v := nI 1) dX5_renew_129 (by decide) ?_
                refine r_goto hJ (tgt := 134) dX5_renew_130 (by decide) ?_
                refine r_iadd hJ dX5_renew_134 ?_
                refine r_iastA hJ (alM1 (by omega)) rfl dX5_renew_135 ?_
                refine r_aload_n hJ dX5_renew_136 rfl jg0 ?_
                refine r_g5_0 hJ m791 dX5_renew_137 ?_
                refine r_iload hJ dX5_renew_140 jg4 ?_
                refine r_iconst hJ (v := nI 2) dX5_renew_142 (by decide) ?_
                refine r_iaddN hJ dX5_renew_143 ?_
                refine r_aload_n hJ dX5_renew_144 rfl jg0 ?_
                refine r_g5_0 hJ m791 dX5_renew_145 ?_
                refine r_iconst hJ (v := nI 0) dX5_renew_148 (by decide) ?_
                refine r_ialdA hJ (alM1 (by omega)) rfl dX5_renew_149 ?_
                refine r_iload_n hJ dX5_renew_150 rfl jg3 ?_
                refine r_iadd hJ dX5_renew_151 ?_
                refine r_iastA hJ (alM1 (by omega)) rfl dX5_renew_152 ?_
                refine r_aload_n hJ dX5_renew_153 rfl jg0 ?_
                refine r_g5_0 hJ m791 dX5_renew_154 ?_
                refine r_iload hJ dX5_renew_157 jg4 ?_
                refine r_iconst hJ (v := nI 3) dX5_renew_159 (by decide) ?_
                refine r_iaddN hJ dX5_renew_160 ?_
                refine r_aload_n hJ dX5_renew_161 rfl jg0 ?_
                refine r_g5_0 hJ m791 dX5_renew_162 ?_
                refine r_iconst hJ (v := nI 0) dX5_renew_165 (by decide) ?_
                refine r_ialdA hJ (alM1 (by omega)) rfl dX5_renew_166 ?_
                refine r_iload_n hJ dX5_renew_167 rfl jg3 ?_
                refine r_iadd hJ dX5_renew_168 ?_
                refine r_aload_n hJ dX5_renew_169 rfl jg0 ?_
                refine r_g5_0 hJ m791 dX5_renew_170 ?_
                refine r_iconst hJ (v := nI 1) dX5_renew_173 (by decide) ?_
                refine r_ialdA hJ (alM1 (by omega)) rfl dX5_renew_174 ?_
                refine r_iadd hJ dX5_renew_175 ?_
                refine r_iastA hJ (alM1 (by omega)) rfl dX5_renew_176 ?_
                refine r_iload hJ dX5_renew_177 jg5 ?_
                have hres : mRen T z h n u = (T 1 ((32 + 12 * (toN n)) + 2), putA (savT (thr T (nI 0))) 1 (mRenR (T 1) (toN n) u)) := by simp [mRen, c9, c17, c30, c53, c65, c75, c126]
                exact ret_i hF dX5_renew_179 (by rw [hres]) (by rw [hres]; simp only [mRenR, hr1, c126, if_true, if_false])
            · have c75 : T 1 3 = nI 1 := c75
              refine r_aload_n hJ dX5_renew_78 rfl jg0 ?_
              refine r_iconst hJ (v := nI 3) dX5_renew_79 (by decide) ?_
              refine r_V1v hJ kX5_36 (rcv5 E) (c5_fails l E _ x _ (nI 3)) dX5_renew_80 ⟨by decide, by decide⟩ (Nat.le_of_ble_eq_true rfl) ?_
              exact ret_i hF dX5_renew_83 (by simp [mRen, c9, c17, c30, c53, c65, c75]) (by simp [mRen, thr, c9, c17, c30, c53, c65, c75])
      · have c30 : witQ u (nI 1) (nI 999) = false := bI_0.mp c30
        refine r_aload_n hJ dX5_renew_33 rfl jg0 ?_
        refine r_iconst hJ (v := nI 2) dX5_renew_34 (by decide) ?_
        refine r_V1v hJ kX5_36 (rcv5 E) (c5_fails l E _ x _ (nI 2)) dX5_renew_35 ⟨by decide, by decide⟩ (Nat.le_of_ble_eq_true rfl) ?_
        exact ret_i hF dX5_renew_38 (by simp [mRen, c9, c17, c30]) (by simp [mRen, thr, c9, c17, c30])
    · have c17 : witQ n (nI 0) (nI (z - 1)) = false := bI_0.mp c17
      refine r_aload_n hJ dX5_renew_20 rfl jg0 ?_
      refine r_iconst hJ (v := nI 1) dX5_renew_21 (by decide) ?_
      refine r_V1v hJ kX5_36 (rcv5 E) (c5_fails l E _ x _ (nI 1)) dX5_renew_22 ⟨by decide, by decide⟩ (Nat.le_of_ble_eq_true rfl) ?_
      exact ret_i hF dX5_renew_25 (by simp [mRen, c9, c17]) (by simp [mRen, thr, c9, c17])
