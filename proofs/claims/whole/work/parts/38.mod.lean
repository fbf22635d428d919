theorem mNext_6 (T : jO) : mNext T 0 6 = T 0 6 := pfa (by decide)
theorem mStop_6 (T : jO) : mStop T 0 6 = T 0 6 := pfa (by decide)
theorem mWh1_6 (T : jO) : mWh1 T 0 6 = T 0 6 := (mNext_6 _).trans (pfa (by decide))
theorem whole_5 (T : jO) (lo hi : Int32) : (mWhole T lo hi).1 5 = T 5 ∧ (mWhole T lo hi).1 0 6 = T 0 6 := by
  unfold mWhole
  split
  · split
    · exact ⟨rfl, (mNext_6 (put (mWh1 T) 0 5 (mTwo (mWh1 T)))).trans ((pfa (T := mWh1 T) (i := 5) (by decide)).trans (mWh1_6 T))⟩
    · split
      · exact ⟨rfl, mWh1_6 T⟩
      · exact ⟨rfl, (mStop_6 _).trans (mWh1_6 T)⟩
  · exact ⟨rfl, mStop_6 T⟩
theorem whole_v {T : jO} {lo hi : Int32} (h : (mWhole T lo hi).2 = true) : witQ ((mWhole T lo hi).1 0 5) lo hi = true := by
  unfold mWhole at h ⊢
  split at h
  · rename_i h1
    rw [if_pos h1]
    split at h
    · rename_i h2
      rw [if_pos h2]
      have e : (mNext (put (mWh1 T) 0 5 (mTwo (mWh1 T)))) 0 5 = mTwo (mWh1 T) := by
        unfold mNext
        rw [pfa (by decide), put_at, if_pos rfl]
      show witQ ((mNext (put (mWh1 T) 0 5 (mTwo (mWh1 T)))) 0 5) lo hi = true
      rw [e]
      exact h2.2.2
    · rename_i h2
      rw [if_neg h2]
      split at h
      · rename_i h3
        rw [if_pos h3]
        show witQ (mWh1 T 0 5) lo hi = true
        rw [mWh1_5]
        exact h3
      · exact Bool.noConfusion h
  · exact Bool.noConfusion h
theorem told_5 {T : jO} {k j : Nat} {lo hi : Int32} (hk : toN (T 0 6) = k) (q : Nat) : (mTold T j lo hi).1 5 q = if q = 4 * k + j then (mWhole T lo hi).1 0 5 else T 5 q := by
  unfold mTold
  rw [hk]
  show put (mWhole T lo hi).1 5 (4 * k + j) _ 5 q = _
  rw [put_at, (whole_5 T lo hi).1]
theorem told_6 {T : jO} {k j : Nat} {lo hi : Int32} (hk : toN (T 0 6) = k) : toN ((mTold T j lo hi).1 0 6) = k := by
  rw [show (mTold T j lo hi).1 0 6 = (mWhole T lo hi).1 0 6 from rfl, (whole_5 T lo hi).2, hk]
theorem told_v {T : jO} {j : Nat} {lo hi : Int32} (h : (mTold T j lo hi).2 = true) : witQ ((mWhole T lo hi).1 0 5) lo hi = true := whole_v h
theorem sign_5 (T : jO) (s : Int32) : (mSign T s).1 5 = T 5 := by
  unfold mSign
  split <;> rfl
theorem sign_6 {T : jO} {k : Nat} {s : Int32} (hk : toN (T 0 6) = k) : toN ((mSign T s).1 0 6) = k := by
  unfold mSign
  split
  · show toN (mNext T 0 6) = k
    rw [mNext_6, hk]
  · show toN (mStop T 0 6) = k
    rw [mStop_6, hk]
theorem andB_t {p : jO × Bool} {f : jO → jO × Bool} (h : (andB p f).2 = true) : p.2 = true ∧ (f p.1).2 = true ∧ andB p f = f p.1 := by
  unfold andB at h ⊢
  split at h
  · rename_i h1
    exact ⟨h1, h, if_pos h1⟩
  · rename_i h1
    exact Bool.noConfusion h
theorem order_ok {T : jO} {k : Nat} (h : TI T k) (h2 : (mOrder T).2 = true) : mOk ((mOrder T).1 5) k ∧ ∀ q, q < 4 * k → (mOrder T).1 5 q = T 5 q := by
  have hk : toN (T 0 6) = k := by
    rw [h.2.2.2.2.1]
    exact toN_nI (by have := h.2.2.2.2.2; omega)
  by_cases hor : (mAt T (nI 116) (nI 116) || mAt T (nI 119) (nI 119) || mAt T (nI 103) (nI 103) || mAt T (nI 100) (nI 100)) = true
  · obtain ⟨c, hc⟩ : ∃ c, T 4 (toN (T 0 3)) = c := ⟨_, rfl⟩
    have hcs : c = nI 100 ∨ c = nI 116 ∨ c = nI 119 ∨ c = nI 103 := by
      have key : ∀ v, mAt T v v = true → c = v := by
        intro v hv
        unfold mAt witQ at hv
        rw [hc] at hv
        simp only [Bool.and_eq_true, decide_eq_true_iff] at hv
        exact Int32.le_antisymm hv.2.2 hv.2.1
      simp only [Bool.or_eq_true] at hor
      rcases hor with ((q | q) | q) | q
      · exact Or.inr (Or.inl (key _ q))
      · exact Or.inr (Or.inr (Or.inl (key _ q)))
      · exact Or.inr (Or.inr (Or.inr (key _ q)))
      · exact Or.inl (key _ q)
    obtain ⟨T1, hT1⟩ : ∃ T1, mNext (put T 5 (4 * k) c) = T1 := ⟨_, rfl⟩
    have h5 : ∀ q, T1 5 q = if q = 4 * k then c else T 5 q := by
      intro q
      rw [← hT1]
      exact put_at T 5 (4 * k) c q
    have h6 : toN (T1 0 6) = k := by
      rw [← hT1]
      unfold mNext
      rw [pfa (by decide), put_ne (by decide), hk]
    have hO : mOrder T = (if c = nI 100 then mTold T1 1 (nI 1) (nI 99) else andB (mTold T1 1 (nI 0) (nI 7)) fun A => if c = nI 116 then andB (mSign A (nI 42)) fun B => mTold B 2 (nI 1) (nI 99) else if c = nI 119 then andB (mSign A (nI 64)) fun B => andB (mTold B 2 (nI 0) (nI 63)) fun C => andB (mSign C (nI 42)) fun D => mTold D 3 (nI 1) (nI 99) else andB (mSign A (nI 58)) fun B => andB (mTold B 2 (nI 0) (nI 63)) fun C => andB (mSign C (nI 45)) fun D => mTold D 3 (D 5 (4 * toN (D 0 6) + 2)) (nI 63)) := by
      unfold mOrder
      rw [if_pos hor]
      dsimp only
      rw [hk, hc, hT1]
    rw [hO] at h2 ⊢
    clear hO
    rcases hcs with rfl | rfl | rfl | rfl
    · rw [if_pos rfl] at h2 ⊢
      refine ⟨Or.inl ⟨?_, ?_⟩, fun q hq => ?_⟩
      · rw [told_5 h6, if_neg (by omega), h5, if_pos rfl]
      · rw [told_5 h6, if_pos rfl]
        exact told_v h2
      · rw [told_5 h6, if_neg (by omega), h5, if_neg (by omega)]
    · rw [if_neg (by decide)] at h2 ⊢
      obtain ⟨hA, h2, e1⟩ := andB_t h2
      rw [e1]
      clear e1
      obtain ⟨A, eA⟩ : ∃ p, mTold T1 1 (nI 0) (nI 7) = p := ⟨_, rfl⟩
      have a5 : ∀ q, A.1 5 q = _ := fun q => eA ▸ told_5 (j := 1) (lo := nI 0) (hi := nI 7) h6 q
      have a6 : toN (A.1 0 6) = k := eA ▸ told_6 (j := 1) (lo := nI 0) (hi := nI 7) h6
      have aw := told_v hA
      rw [eA] at h2 ⊢
      rw [if_pos rfl] at h2 ⊢
      obtain ⟨-, h2, e1⟩ := andB_t h2
      rw [e1]
      have b6 := sign_6 (s := nI 42) a6
      refine ⟨Or.inr (Or.inl ⟨?_, ?_, ?_⟩), fun q hq => ?_⟩
      · rw [told_5 b6, if_neg (by omega), sign_5, a5, if_neg (by omega), h5, if_pos rfl]
      · rw [told_5 b6, if_neg (by omega), sign_5, a5, if_pos rfl]
        exact aw
      · rw [told_5 b6, if_pos rfl]
        exact told_v h2
      · rw [told_5 b6, if_neg (by omega), sign_5, a5, if_neg (by omega), h5, if_neg (by omega)]
    · rw [if_neg (by decide)] at h2 ⊢
      obtain ⟨hA, h2, e1⟩ := andB_t h2
      rw [e1]
      clear e1
      obtain ⟨A, eA⟩ : ∃ p, mTold T1 1 (nI 0) (nI 7) = p := ⟨_, rfl⟩
      have a5 : ∀ q, A.1 5 q = _ := fun q => eA ▸ told_5 (j := 1) (lo := nI 0) (hi := nI 7) h6 q
      have a6 : toN (A.1 0 6) = k := eA ▸ told_6 (j := 1) (lo := nI 0) (hi := nI 7) h6
      have aw := told_v hA
      rw [eA] at h2 ⊢
      rw [if_neg (by decide), if_pos rfl] at h2 ⊢
      obtain ⟨-, h2, e1⟩ := andB_t h2
      rw [e1]
      clear e1
      obtain ⟨B, eB⟩ : ∃ p, mSign A.1 (nI 64) = p := ⟨_, rfl⟩
      have b5 : B.1 5 = A.1 5 := eB ▸ sign_5 A.1 (nI 64)
      have b6 : toN (B.1 0 6) = k := eB ▸ sign_6 (s := nI 64) a6
      rw [eB] at h2 ⊢
      obtain ⟨hC, h2, e1⟩ := andB_t h2
      rw [e1]
      clear e1
      have cw := told_v hC
      obtain ⟨C, eC⟩ : ∃ p, mTold B.1 2 (nI 0) (nI 63) = p := ⟨_, rfl⟩
      have c5 : ∀ q, C.1 5 q = _ := fun q => eC ▸ told_5 (j := 2) (lo := nI 0) (hi := nI 63) b6 q
      have c6 : toN (C.1 0 6) = k := eC ▸ told_6 (j := 2) (lo := nI 0) (hi := nI 63) b6
      rw [eC] at h2 ⊢
      obtain ⟨-, h2, e1⟩ := andB_t h2
      rw [e1]
      have d6 := sign_6 (s := nI 42) c6
      refine ⟨Or.inr (Or.inr (Or.inl ⟨?_, ?_, ?_, ?_⟩)), fun q hq => ?_⟩
      · rw [told_5 d6, if_neg (by omega), sign_5, c5, if_neg (by omega), b5, a5, if_neg (by omega), h5, if_pos rfl]
      · rw [told_5 d6, if_neg (by omega), sign_5, c5, if_neg (by omega), b5, a5, if_pos rfl]
        exact aw
      · rw [told_5 d6, if_neg (by omega), sign_5, c5, if_pos rfl]
        exact cw
      · rw [told_5 d6, if_pos rfl]
        exact told_v h2
      · rw [told_5 d6, if_neg (by omega), sign_5, c5, if_neg (by omega), b5, a5, if_neg (by omega), h5, if_neg (by omega)]
    · rw [if_neg (by decide)] at h2 ⊢
      obtain ⟨hA, h2, e1⟩ := andB_t h2
      rw [e1]
      clear e1
      obtain ⟨A, eA⟩ : ∃ p, mTold T1 1 (nI 0) (nI 7) = p := ⟨_, rfl⟩
      have a5 : ∀ q, A.1 5 q = _ := fun q => eA ▸ told_5 (j := 1) (lo := nI 0) (hi := nI 7) h6 q
      have a6 : toN (A.1 0 6) = k := eA ▸ told_6 (j := 1) (lo := nI 0) (hi := nI 7) h6
      have aw := told_v hA
      rw [eA] at h2 ⊢
      rw [if_neg (by decide), if_neg (by decide)] at h2 ⊢
      obtain ⟨-, h2, e1⟩ := andB_t h2
      rw [e1]
      clear e1
      obtain ⟨B, eB⟩ : ∃ p, mSign A.1 (nI 58) = p := ⟨_, rfl⟩
      have b5 : B.1 5 = A.1 5 := eB ▸ sign_5 A.1 (nI 58)
      have b6 : toN (B.1 0 6) = k := eB ▸ sign_6 (s := nI 58) a6
      rw [eB] at h2 ⊢
      obtain ⟨hC, h2, e1⟩ := andB_t h2
      rw [e1]
      clear e1
      have cw := told_v hC
      obtain ⟨C, eC⟩ : ∃ p, mTold B.1 2 (nI 0) (nI 63) = p := ⟨_, rfl⟩
      have c5 : ∀ q, C.1 5 q = _ := fun q => eC ▸ told_5 (j := 2) (lo := nI 0) (hi := nI 63) b6 q
      have c6 : toN (C.1 0 6) = k := eC ▸ told_6 (j := 2) (lo := nI 0) (hi := nI 63) b6
      rw [eC] at h2 ⊢
      obtain ⟨-, h2, e1⟩ := andB_t h2
      rw [e1]
      clear e1
      obtain ⟨D, eD⟩ : ∃ p, mSign C.1 (nI 45) = p := ⟨_, rfl⟩
      have d5 : D.1 5 = C.1 5 := eD ▸ sign_5 C.1 (nI 45)
      have d6 : toN (D.1 0 6) = k := eD ▸ sign_6 (s := nI 45) c6
      rw [eD] at h2 ⊢
      rw [d6] at h2 ⊢
      refine ⟨Or.inr (Or.inr (Or.inr ⟨?_, ?_, ?_, ?_⟩)), fun q hq => ?_⟩
      · rw [told_5 d6, if_neg (by omega), d5, c5, if_neg (by omega), b5, a5, if_neg (by omega), h5, if_pos rfl]
      · rw [told_5 d6, if_neg (by omega), d5, c5, if_neg (by omega), b5, a5, if_pos rfl]
        exact aw
      · rw [told_5 d6, if_neg (by omega), d5, c5, if_pos rfl]
        exact cw
      · rw [told_5 d6, if_pos rfl, told_5 d6, if_neg (by omega)]
        exact told_v h2
      · rw [told_5 d6, if_neg (by omega), d5, c5, if_neg (by omega), b5, a5, if_neg (by omega), h5, if_neg (by omega)]
  · unfold mOrder at h2
    rw [if_neg hor] at h2
    exact Bool.noConfusion h2