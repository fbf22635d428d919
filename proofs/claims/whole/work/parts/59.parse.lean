/-! THE TEXT OF ORDERS, READ ON BOTH SIDES: Q the class's orders, T the model -/
def TX (Q T : jO) (w : Nat) : Prop := Q 0 0 = nI w ∧ T 0 1 = nI w ∧ w ≤ 60 ∧ ∀ i, i < w → T 4 i = Q 1 i
def PC (Q T : jO) (a w : Nat) : Prop := TX Q T w ∧ Q 0 1 = nI a ∧ T 0 3 = nI a ∧ a ≤ w
def GO (Q : jO) (p : jO × Bool) (w k : Nat) : Prop := ∃ a, PC Q p.1 a w ∧ p.1 0 6 = nI k ∧ (p.2 = true → Q 0 2 = 0) ∧ (p.2 = false → ¬ Q 0 2 = 0 ∧ p.1 0 4 = bI (decide (a < w)))
theorem PC_q {Q T : jO} {a w i : Nat} {v : Int32} (h0 : i ≠ 0) (h1 : i ≠ 1) (h : PC Q T a w) : PC (put Q 0 i v) T a w := by
  obtain ⟨⟨a1, a2, a3, a4⟩, b1, b2, b3⟩ := h
  exact ⟨⟨by rw [pfa (by omega)]; exact a1, a2, a3, a4⟩, by rw [pfa (by omega)]; exact b1, b2, b3⟩
theorem PC_t {Q T : jO} {a w i : Nat} {v : Int32} (h0 : i ≠ 1) (h1 : i ≠ 3) (h : PC Q T a w) : PC Q (put T 0 i v) a w := by
  obtain ⟨⟨a1, a2, a3, a4⟩, b1, b2, b3⟩ := h
  exact ⟨⟨a1, by rw [pfa (by omega)]; exact a2, a3, a4⟩, b1, by rw [pfa (by omega)]; exact b2, b3⟩
theorem PC_5 {Q T : jO} {a w i : Nat} {v : Int32} (h : PC Q T a w) : PC Q (put T 5 i v) a w := h
theorem PC_next {Q T : jO} {a w : Nat} (ha : a < w) (h : PC Q T a w) : PC (nextQ Q) (mNext T) (a + 1) w := by
  obtain ⟨⟨a1, a2, a3, a4⟩, b1, b2, b3⟩ := h
  refine ⟨⟨by unfold nextQ; rw [pfa (by omega)]; exact a1, by unfold mNext; rw [pfa (by omega)]; exact a2, a3, a4⟩, ?_, ?_, by omega⟩
  · unfold nextQ
    rw [put_at, if_pos rfl, b1, nI_add]
  · unfold mNext
    rw [put_at, if_pos rfl, b2, nI_add]
theorem PC_at {Q T : jO} {a w : Nat} (h : PC Q T a w) (lo hi : Int32) : mAt T lo hi = (decide (a < w) && witQ (Q 1 a) lo hi) := by
  obtain ⟨⟨a1, a2, a3, a4⟩, b1, b2, b3⟩ := h
  unfold mAt
  rw [b2, a2, toN_nI (by omega)]
  by_cases hw : a < w
  · rw [a4 a hw, decide_eq_true hw, decide_eq_true (nI_lt hw (by omega))]
  · rw [decide_eq_false hw, decide_eq_false (nI_nlt (by omega) (by omega)), Bool.false_and, Bool.false_and]
theorem PC_sg {Q T : jO} {a w : Nat} (h : PC Q T a w) : sgA Q (atQ Q) = if a < w then Q 1 a else -1 := by
  obtain ⟨⟨a1, a2, a3, a4⟩, b1, b2, b3⟩ := h
  unfold sgA lenQ atQ
  rw [a1, b1, toN_nI (by omega), toN_nI (by omega)]
theorem PC_chr {Q T : jO} {a w : Nat} (ha : a < w) (h : PC Q T a w) : T 4 (toN (T 0 3)) = Q 1 a := by
  obtain ⟨⟨a1, a2, a3, a4⟩, b1, b2, b3⟩ := h
  rw [b2, toN_nI (by omega), a4 a ha]
theorem wit_one (v s : Int32) : witQ v s s = decide (v = s) := by
  unfold witQ
  by_cases h : v = s
  · subst h
    simp
  · rw [decide_eq_false h]
    by_cases h1 : s ≤ v
    · have : ¬ v ≤ s := fun q => h (Int32.le_antisymm q h1)
      rw [decide_eq_false this, Bool.and_false]
    · rw [decide_eq_false h1, Bool.false_and]
theorem stop_GO {Q T : jO} {a w k : Nat} (h : PC Q T a w) (hk : T 0 6 = nI k) : GO (stopQ Q) (mStop T, false) w k := by
  refine ⟨a, PC_t (by omega) (by omega) (PC_q (by omega) (by omega) h), by show mStop T 0 6 = nI k; rw [mStop_6]; exact hk, fun q => Bool.noConfusion q, fun _ => ⟨?_, ?_⟩⟩
  · unfold stopQ
    rw [put_at, if_pos rfl]
    decide
  · show mStop T 0 4 = _
    unfold mStop
    rw [put_at, if_pos rfl, h.2.2.1, h.1.2.1]
    obtain ⟨⟨a1, a2, a3, a4⟩, b1, b2, b3⟩ := h
    congr 1
    rw [decide_eq_decide]
    exact nI_ltI (by omega) (by omega)
theorem GO_ok {Q : jO} {p : jO × Bool} {w k : Nat} (h : GO Q p w k) (h2 : p.2 = true) : ∃ a, PC Q p.1 a w ∧ p.1 0 6 = nI k ∧ Q 0 2 = 0 := by
  obtain ⟨a, h1, h3, h4, -⟩ := h
  exact ⟨a, h1, h3, h4 h2⟩
/-- what has stopped stays so -/
theorem GO_put {Q : jO} {p : jO × Bool} {w k i : Nat} {v : Int32} (hi : 3 ≤ i) (h : GO Q p w k) : GO (put Q 0 i v) p w k := by
  obtain ⟨a, h1, h3, h4, h5⟩ := h
  exact ⟨a, PC_q (by omega) (by omega) h1, h3, fun q => by rw [pfa (by omega)]; exact h4 q, fun q => by rw [pfa (by omega)]; exact h5 q⟩
theorem GO_stop {Q : jO} {p : jO × Bool} {w k : Nat} (hp : p.2 = false) (h : GO Q p w k) : GO (stopQ Q) p w k := by
  obtain ⟨a, h1, h3, -, h5⟩ := h
  refine ⟨a, PC_q (by omega) (by omega) h1, h3, fun q => by rw [hp] at q; exact Bool.noConfusion q, fun q => ⟨?_, (h5 q).2⟩⟩
  unfold stopQ
  rw [put_at, if_pos rfl]
  decide
theorem GO_sign {Q : jO} {p : jO × Bool} {w k : Nat} (s : Int32) (hp : p.2 = false) (h : GO Q p w k) : GO (rdSign Q s) p w k := by
  have h5 := h
  obtain ⟨a, -, -, -, h5⟩ := h5
  unfold rdSign
  rw [if_neg (fun q => (h5 hp).1 q.1)]
  exact GO_stop hp h
theorem GO_num {Q : jO} {p : jO × Bool} {w k : Nat} (lo hi : Int32) (hp : p.2 = false) (h : GO Q p w k) : GO (rdNum Q lo hi).1 p w k := by
  have h5 := h
  obtain ⟨a, -, -, -, h5⟩ := h5
  unfold rdNum
  simp only
  rw [if_neg (fun q => (h5 hp).1 q.1)]
  exact GO_stop hp h
theorem GO_and {Q : jO} {p : jO × Bool} {f : jO → jO × Bool} {w k : Nat} (hp : p.2 = false) (h : GO Q p w k) : GO Q (andB p f) w k ∧ (andB p f).2 = false := by
  unfold andB
  rw [if_neg (by rw [hp]; decide)]
  refine ⟨?_, rfl⟩
  obtain ⟨a, h1, h3, -, h5⟩ := h
  exact ⟨a, h1, h3, fun q => Bool.noConfusion q, fun _ => h5 hp⟩
theorem sign_go {Q T : jO} {a w k : Nat} {c : Nat} (hc : c < 2 ^ 31) (h : PC Q T a w) (h2 : Q 0 2 = 0) (hk : T 0 6 = nI k) : GO (rdSign Q (nI c)) (mSign T (nI c)) w k := by
  unfold rdSign mSign
  rw [PC_sg h, PC_at h, wit_one]
  by_cases ha : a < w
  · rw [if_pos ha]
    by_cases hs : Q 1 a = nI c
    · rw [if_pos ⟨h2, hs⟩, if_pos (by rw [decide_eq_true ha, decide_eq_true hs]; rfl)]
      refine ⟨a + 1, PC_next ha h, by show mNext T 0 6 = nI k; rw [mNext_6]; exact hk, fun _ => by unfold nextQ; rw [pfa (by omega)]; exact h2, fun q => Bool.noConfusion q⟩
    · rw [if_neg (fun q => hs q.2), if_neg (by rw [decide_eq_false hs, Bool.and_false]; decide)]
      exact stop_GO h hk
  · rw [if_neg ha, if_neg (fun q => nI_m1 hc q.2.symm), if_neg (by rw [decide_eq_false ha, Bool.false_and]; decide)]
    exact stop_GO h hk
theorem sign_keep (Q : jO) (s : Int32) {i : Nat} (hi : 3 ≤ i) : rdSign Q s 0 i = Q 0 i := by
  unfold rdSign nextQ stopQ
  split <;> rw [pfa (by omega)]
theorem dig_j {x : Int32} (h : nI 48 ≤ x ∧ x ≤ nI 57) : ∃ j, j ≤ 9 ∧ x - nI 48 = nI j := by
  have h0 : ¬ x < 0 := fun q => absurd (Int32.lt_of_le_of_lt h.1 q) (by decide)
  obtain ⟨j, j1, rfl⟩ := nI_of2 (n := 57) (by decide) h0 h.2
  have := (nI_leI (a := 48) (by omega) (by omega)).mp h.1
  exact ⟨j - 48, by omega, pk_sub this⟩
theorem digQ_at {Q T : jO} {a w : Nat} (h : PC Q T a w) : (mAt T (nI 48) (nI 57) = true → digQ Q (atQ Q) = mDig T ∧ ¬ digQ Q (atQ Q) = -1 ∧ a < w) ∧ (¬ mAt T (nI 48) (nI 57) = true → digQ Q (atQ Q) = -1) := by
  rw [PC_at h]
  unfold digQ
  rw [PC_sg h]
  by_cases ha : a < w
  · rw [if_pos ha, decide_eq_true ha, Bool.true_and]
    unfold witQ
    by_cases hs : nI 48 ≤ Q 1 a ∧ Q 1 a ≤ nI 57
    · rw [if_pos hs, decide_eq_true hs.1, decide_eq_true hs.2]
      refine ⟨fun _ => ⟨?_, ?_, ha⟩, fun q => absurd rfl q⟩
      · unfold mDig
        rw [PC_chr ha h]
      · obtain ⟨j, j1, j2⟩ := dig_j hs
        rw [j2]
        exact nI_m1 (by omega)
    · rw [if_neg hs]
      refine ⟨fun q => ?_, fun _ => rfl⟩
      rw [Bool.and_eq_true, decide_eq_true_eq, decide_eq_true_eq] at q
      exact absurd q hs
  · rw [if_neg ha, decide_eq_false ha, Bool.false_and]
    refine ⟨fun q => Bool.noConfusion q, fun _ => ?_⟩
    rw [if_neg (fun q => absurd q.1 (by decide))]
theorem i32_as (a b c : Int32) : a + b - c = a + (b - c) := by grind
theorem next_2 (Q : jO) : nextQ Q 0 2 = Q 0 2 := by
  unfold nextQ
  rw [pfa (by omega)]
theorem num_go {Q T : jO} {a w k : Nat} (lo hi : Int32) (h : PC Q T a w) (h2 : Q 0 2 = 0) (hk : T 0 6 = nI k) :
    GO (rdNum Q lo hi).1 (mWhole T lo hi) w k ∧ ((mWhole T lo hi).2 = true → (rdNum Q lo hi).2 = (mWhole T lo hi).1 0 5) ∧ ∀ i, 3 ≤ i → (rdNum Q lo hi).1 0 i = Q 0 i := by
  obtain ⟨d1, d2⟩ := digQ_at h
  unfold rdNum mWhole
  simp only
  by_cases hm : mAt T (nI 48) (nI 57) = true ∧ begQ (mDig T) lo hi = true
  · obtain ⟨e1, e2, ha⟩ := d1 hm.1
    rw [e1] at e2 ⊢
    rw [if_pos hm, if_pos ⟨h2, e2, hm.2⟩]
    have hk1 : mWh1 T 0 6 = nI k := by rw [mWh1_6]; exact hk
    have hP1 : PC (nextQ Q) (mWh1 T) (a + 1) w := PC_next ha (PC_t (by omega) (by omega) h)
    have hq1 : nextQ Q 0 2 = 0 := by rw [next_2]; exact h2
    obtain ⟨f1, f2⟩ := digQ_at hP1
    have two : mAt (mWh1 T) (nI 48) (nI 57) = true → mTwo (mWh1 T) = nI 10 * mDig T + digQ (nextQ Q) (atQ (nextQ Q)) := by
      intro q
      rw [(f1 q).1]
      unfold mTwo
      rw [mWh1_5, i32_as]
      rfl
    have k1 : ∀ i, 3 ≤ i → nextQ Q 0 i = Q 0 i := fun i hi => by unfold nextQ; rw [pfa (by omega)]
    unfold rdTwo
    by_cases hm2 : 0 < mDig T ∧ mAt (mWh1 T) (nI 48) (nI 57) = true ∧ witQ (mTwo (mWh1 T)) lo hi = true
    · obtain ⟨g1, g2, hb⟩ := f1 hm2.2.1
      have hw := hm2.2.2
      rw [two hm2.2.1] at hw
      rw [if_pos hm2, if_pos (show 0 < mDig T ∧ ¬ digQ (nextQ Q) (atQ (nextQ Q)) = -1 ∧ witQ (nI 10 * mDig T + digQ (nextQ Q) (atQ (nextQ Q))) lo hi = true from ⟨hm2.1, g2, hw⟩), two hm2.2.1]
      simp only
      rw [if_pos hw]
      have hk2 : mNext (put (mWh1 T) 0 5 (nI 10 * mDig T + digQ (nextQ Q) (atQ (nextQ Q)))) 0 6 = nI k := by
        rw [mNext_6, pfa (by omega)]
        exact hk1
      refine ⟨⟨a + 1 + 1, PC_next hb (PC_t (by omega) (by omega) hP1), hk2, fun _ => by rw [next_2]; exact hq1, fun q => Bool.noConfusion q⟩, fun _ => ?_, fun i hi => ?_⟩
      · unfold mNext
        rw [pfa (by omega), put_at, if_pos rfl]
      · have : nextQ (nextQ Q) 0 i = nextQ Q 0 i := by
          show put (nextQ Q) 0 1 _ 0 i = _
          rw [pfa (by omega)]
        rw [this, k1 i hi]
    · have hn : ¬ (0 < mDig T ∧ ¬ digQ (nextQ Q) (atQ (nextQ Q)) = -1 ∧ witQ (nI 10 * mDig T + digQ (nextQ Q) (atQ (nextQ Q))) lo hi = true) := by
        rintro ⟨q1, q2, q3⟩
        have qm : mAt (mWh1 T) (nI 48) (nI 57) = true := by
          rcases Decidable.em (mAt (mWh1 T) (nI 48) (nI 57) = true) with q | q
          · exact q
          · exact absurd (f2 q) q2
        exact hm2 ⟨q1, qm, by rw [two qm]; exact q3⟩
      rw [if_neg hm2, if_neg hn]
      simp only
      by_cases hw : witQ (mDig T) lo hi = true
      · rw [if_pos hw, if_pos hw]
        exact ⟨⟨a + 1, hP1, hk1, fun _ => hq1, fun q => Bool.noConfusion q⟩, fun _ => (mWh1_5 T).symm, k1⟩
      · rw [if_neg hw, if_neg hw]
        refine ⟨stop_GO hP1 hk1, fun q => Bool.noConfusion q, fun i hi => ?_⟩
        show put (nextQ Q) 0 2 _ 0 i = _
        rw [pfa (by omega), k1 i hi]
  · have hn : ¬ (Q 0 2 = 0 ∧ ¬ digQ Q (atQ Q) = -1 ∧ begQ (digQ Q (atQ Q)) lo hi = true) := by
      rintro ⟨-, q2, q3⟩
      rcases Decidable.em (mAt T (nI 48) (nI 57) = true) with q | q
      · rw [(d1 q).1] at q3
        exact hm ⟨q, q3⟩
      · exact q2 (d2 q)
    rw [if_neg hm, if_neg hn]
    refine ⟨stop_GO h hk, fun q => Bool.noConfusion q, fun i hi => ?_⟩
    show put Q 0 2 _ 0 i = _
    rw [pfa (by omega)]
theorem num_keep (Q : jO) (lo hi : Int32) {i : Nat} (hi3 : 3 ≤ i) : (rdNum Q lo hi).1 0 i = Q 0 i := by
  have n1 : ∀ A : jO, nextQ A 0 i = A 0 i := fun A => by unfold nextQ; rw [pfa (by omega)]
  have s1 : ∀ A : jO, stopQ A 0 i = A 0 i := fun A => by unfold stopQ; rw [pfa (by omega)]
  have t1 : ∀ (A : jO) (v : Int32), (rdTwo A v lo hi).1 0 i = A 0 i := fun A v => by unfold rdTwo; split <;> first | exact n1 A | rfl
  unfold rdNum
  simp only
  split
  · split
    · rw [t1, n1]
    · show stopQ (rdTwo (nextQ Q) (digQ Q (atQ Q)) lo hi).1 0 i = _
      rw [s1, t1, n1]
  · exact s1 Q
/-- a number that is told: the class keeps it in the field i, the model at 4 k + j -/
theorem told_go {Q T : jO} {a w k i j : Nat} (lo hi : Int32) (hi3 : 3 ≤ i) (hk6 : k ≤ 20) (h : PC Q T a w) (h2 : Q 0 2 = 0) (hk : T 0 6 = nI k) :
    GO (put (rdNum Q lo hi).1 0 i (rdNum Q lo hi).2) (mTold T j lo hi) w k ∧ ((mTold T j lo hi).2 = true → put (rdNum Q lo hi).1 0 i (rdNum Q lo hi).2 0 i = (mTold T j lo hi).1 5 (4 * k + j)) ∧
    (∀ i', 3 ≤ i' → i' ≠ i → put (rdNum Q lo hi).1 0 i (rdNum Q lo hi).2 0 i' = Q 0 i') ∧ ∀ q, q ≠ 4 * k + j → (mTold T j lo hi).1 5 q = T 5 q := by
  obtain ⟨g1, g2, g3⟩ := num_go lo hi h h2 hk
  have ht : toN (T 0 6) = k := by rw [hk, toN_nI (by omega)]
  refine ⟨GO_put hi3 ?_, fun q => ?_, fun i' a b => ?_, fun q hq => by rw [told_5 ht, if_neg hq]⟩
  · obtain ⟨a', c1, c2, c3, c4⟩ := g1
    exact ⟨a', c1, c2, c3, c4⟩
  · rw [put_at, if_pos rfl, told_5 ht, if_pos rfl]
    exact g2 q
  · rw [pfa (by omega)]
    exact g3 i' a
