/-! ONE ORDER, READ ON BOTH SIDES -/
/-- the fields of the class hold what the model noted at 4 k -/
def FO (Q : jO) (o : Nat → Int32) (k : Nat) : Prop :=
  Q 0 3 = o (4 * k) ∧ (o (4 * k) = nI 100 → Q 0 6 = o (4 * k + 1)) ∧ (o (4 * k) = nI 116 → Q 0 4 = o (4 * k + 1) ∧ Q 0 6 = o (4 * k + 2)) ∧
  (o (4 * k) = nI 119 ∨ o (4 * k) = nI 103 → Q 0 4 = o (4 * k + 1) ∧ Q 0 5 = o (4 * k + 2) ∧ Q 0 6 = o (4 * k + 3))
theorem andB_1 {p : jO × Bool} {f : jO → jO × Bool} (h : p.2 = true) : andB p f = f p.1 := by
  unfold andB
  rw [if_pos h]
theorem mSign_5 (T : jO) (s : Int32) : (mSign T s).1 5 = T 5 := sign_5 T s
def rT (Q : jO) : jO :=
  let a := rdNum Q (nI 0) (nI 7)
  let b := rdNum (rdSign (put a.1 0 4 a.2) (nI 42)) (nI 1) (nI 99)
  put b.1 0 6 b.2
def rW (Q : jO) : jO :=
  let a := rdNum Q (nI 0) (nI 7)
  let b := rdNum (rdSign (put a.1 0 4 a.2) (nI 64)) (nI 0) (nI 63)
  let c := rdNum (rdSign (put b.1 0 5 b.2) (nI 42)) (nI 1) (nI 99)
  put c.1 0 6 c.2
def rG (Q : jO) : jO :=
  let a := rdNum Q (nI 0) (nI 7)
  let b := rdNum (rdSign (put a.1 0 4 a.2) (nI 58)) (nI 0) (nI 63)
  let Q3 := rdSign (put b.1 0 5 b.2) (nI 45)
  let c := rdNum Q3 (Q3 0 5) (nI 63)
  put c.1 0 6 c.2
theorem rT_go {Q T : jO} {a w k : Nat} (hk6 : k ≤ 20) (h : PC Q T a w) (h2 : Q 0 2 = 0) (hk : T 0 6 = nI k) :
    GO (rT Q) (andB (mTold T 1 (nI 0) (nI 7)) fun A => andB (mSign A (nI 42)) fun B => mTold B 2 (nI 1) (nI 99)) w k ∧
    ((andB (mTold T 1 (nI 0) (nI 7)) fun A => andB (mSign A (nI 42)) fun B => mTold B 2 (nI 1) (nI 99)).2 = true → rT Q 0 3 = Q 0 3 ∧
      rT Q 0 4 = (andB (mTold T 1 (nI 0) (nI 7)) fun A => andB (mSign A (nI 42)) fun B => mTold B 2 (nI 1) (nI 99)).1 5 (4 * k + 1) ∧
      rT Q 0 6 = (andB (mTold T 1 (nI 0) (nI 7)) fun A => andB (mSign A (nI 42)) fun B => mTold B 2 (nI 1) (nI 99)).1 5 (4 * k + 2) ∧
      (andB (mTold T 1 (nI 0) (nI 7)) fun A => andB (mSign A (nI 42)) fun B => mTold B 2 (nI 1) (nI 99)).1 5 (4 * k) = T 5 (4 * k)) := by
  obtain ⟨gA, vA, fA, oA⟩ := told_go (j := 1) (i := 4) (nI 0) (nI 7) (by omega) hk6 h h2 hk
  unfold rT
  simp only
  by_cases hA : (mTold T 1 (nI 0) (nI 7)).2 = true
  · rw [andB_1 hA]
    obtain ⟨a1, p1, k1, s1⟩ := GO_ok gA hA
    have vA := vA hA
    have gB := sign_go (c := 42) (by decide) p1 s1 k1
    have kB := fun i => sign_keep (put (rdNum Q (nI 0) (nI 7)).1 0 4 (rdNum Q (nI 0) (nI 7)).2) (nI 42) (i := i)
    by_cases hB : (mSign (mTold T 1 (nI 0) (nI 7)).1 (nI 42)).2 = true
    · rw [andB_1 hB]
      obtain ⟨a2, p2, k2, s2⟩ := GO_ok gB hB
      obtain ⟨gC, vC, fC, oC⟩ := told_go (j := 2) (i := 6) (nI 1) (nI 99) (by omega) hk6 p2 s2 k2
      refine ⟨gC, fun hC => ⟨?_, ?_, vC hC, ?_⟩⟩
      · rw [fC 3 (by omega) (by omega), kB 3 (by omega), fA 3 (by omega) (by omega)]
      · rw [fC 4 (by omega) (by omega), kB 4 (by omega), vA, oC _ (by omega), mSign_5]
      · rw [oC _ (by omega), mSign_5, oA _ (by omega)]
    · have hB := Bool.eq_false_iff.mpr hB
      obtain ⟨gC, hC⟩ := GO_and (f := fun B => mTold B 2 (nI 1) (nI 99)) hB gB
      exact ⟨GO_put (by omega) (GO_num _ _ hC gC), fun q => by rw [hC] at q; exact Bool.noConfusion q⟩
  · have hA := Bool.eq_false_iff.mpr hA
    obtain ⟨gC, hC⟩ := GO_and (f := fun A => andB (mSign A (nI 42)) fun B => mTold B 2 (nI 1) (nI 99)) hA gA
    exact ⟨GO_put (by omega) (GO_num _ _ hC (GO_sign _ hC gC)), fun q => by rw [hC] at q; exact Bool.noConfusion q⟩
/-- the orders w and g: a holder, a sign, a number, a sign, a number -/
theorem rX_go {Q T : jO} {a w k c1 c2 : Nat} {lo : jO → Int32} {lo' : jO → Int32} {hi : Int32} (h1 : c1 < 2 ^ 31) (h22 : c2 < 2 ^ 31) (hk6 : k ≤ 20) (h : PC Q T a w) (h2 : Q 0 2 = 0) (hk : T 0 6 = nI k)
    (hlo : ∀ A B : jO, A 0 5 = B 5 (4 * k + 2) → B 0 6 = nI k → lo A = lo' B) :
    let x := rdNum Q (nI 0) (nI 7)
    let y := rdNum (rdSign (put x.1 0 4 x.2) (nI c1)) (nI 0) (nI 63)
    let Q3 := rdSign (put y.1 0 5 y.2) (nI c2)
    let u := rdNum Q3 (lo Q3) hi
    let R := put u.1 0 6 u.2
    let p := andB (mTold T 1 (nI 0) (nI 7)) fun A => andB (mSign A (nI c1)) fun B => andB (mTold B 2 (nI 0) (nI 63)) fun C => andB (mSign C (nI c2)) fun D => mTold D 3 (lo' D) hi
    GO R p w k ∧ (p.2 = true → R 0 3 = Q 0 3 ∧ R 0 4 = p.1 5 (4 * k + 1) ∧ R 0 5 = p.1 5 (4 * k + 2) ∧ R 0 6 = p.1 5 (4 * k + 3) ∧ p.1 5 (4 * k) = T 5 (4 * k)) := by
  intro x y Q3 u R p
  obtain ⟨gA, vA, fA, oA⟩ := told_go (j := 1) (i := 4) (nI 0) (nI 7) (by omega) hk6 h h2 hk
  have kB := fun i => sign_keep (put x.1 0 4 x.2) (nI c1) (i := i)
  have kD := fun i => sign_keep (put y.1 0 5 y.2) (nI c2) (i := i)
  by_cases hA : (mTold T 1 (nI 0) (nI 7)).2 = true
  · obtain ⟨a1, p1, k1, s1⟩ := GO_ok gA hA
    have vA := vA hA
    have gB := sign_go (c := c1) h1 p1 s1 k1
    have ep : p = andB (mSign (mTold T 1 (nI 0) (nI 7)).1 (nI c1)) fun B => andB (mTold B 2 (nI 0) (nI 63)) fun C => andB (mSign C (nI c2)) fun D => mTold D 3 (lo' D) hi := andB_1 hA
    rw [ep]
    by_cases hB : (mSign (mTold T 1 (nI 0) (nI 7)).1 (nI c1)).2 = true
    · rw [andB_1 hB]
      obtain ⟨a2, p2, k2, s2⟩ := GO_ok gB hB
      obtain ⟨gC, vC, fC, oC⟩ := told_go (j := 2) (i := 5) (nI 0) (nI 63) (by omega) hk6 p2 s2 k2
      by_cases hC : (mTold (mSign (mTold T 1 (nI 0) (nI 7)).1 (nI c1)).1 2 (nI 0) (nI 63)).2 = true
      · rw [andB_1 hC]
        obtain ⟨a3, p3, k3, s3⟩ := GO_ok gC hC
        have vC := vC hC
        have gD := sign_go (c := c2) h22 p3 s3 k3
        by_cases hD : (mSign (mTold (mSign (mTold T 1 (nI 0) (nI 7)).1 (nI c1)).1 2 (nI 0) (nI 63)).1 (nI c2)).2 = true
        · rw [andB_1 hD]
          obtain ⟨a4, p4, k4, s4⟩ := GO_ok gD hD
          have el : lo Q3 = lo' (mSign (mTold (mSign (mTold T 1 (nI 0) (nI 7)).1 (nI c1)).1 2 (nI 0) (nI 63)).1 (nI c2)).1 :=
            hlo _ _ ((kD 5 (by omega)).trans (vC.trans (by rw [mSign_5]))) k4
          obtain ⟨gE, vE, fE, oE⟩ := told_go (j := 3) (i := 6) (lo Q3) hi (by omega) hk6 p4 s4 k4
          rw [← el]
          refine ⟨gE, fun hE => ⟨?_, ?_, ?_, vE hE, ?_⟩⟩
          · show put u.1 0 6 u.2 0 3 = _
            rw [fE 3 (by omega) (by omega), kD 3 (by omega), fC 3 (by omega) (by omega), kB 3 (by omega), fA 3 (by omega) (by omega)]
          · show put u.1 0 6 u.2 0 4 = _
            rw [fE 4 (by omega) (by omega), kD 4 (by omega), fC 4 (by omega) (by omega), kB 4 (by omega), vA, oE _ (by omega), mSign_5, oC _ (by omega), mSign_5]
          · show put u.1 0 6 u.2 0 5 = _
            rw [fE 5 (by omega) (by omega), kD 5 (by omega), vC, oE _ (by omega), mSign_5]
          · rw [oE _ (by omega), mSign_5, oC _ (by omega), mSign_5, oA _ (by omega)]
        · have hD := Bool.eq_false_iff.mpr hD
          obtain ⟨gE, hE⟩ := GO_and (f := fun D => mTold D 3 (lo' D) hi) hD gD
          exact ⟨GO_put (by omega) (GO_num _ _ hE gE), fun q => by rw [hE] at q; exact Bool.noConfusion q⟩
      · have hC := Bool.eq_false_iff.mpr hC
        obtain ⟨gE, hE⟩ := GO_and (f := fun C => andB (mSign C (nI c2)) fun D => mTold D 3 (lo' D) hi) hC gC
        exact ⟨GO_put (by omega) (GO_num _ _ hE (GO_sign _ hE gE)), fun q => by rw [hE] at q; exact Bool.noConfusion q⟩
    · have hB := Bool.eq_false_iff.mpr hB
      obtain ⟨gE, hE⟩ := GO_and (f := fun B => andB (mTold B 2 (nI 0) (nI 63)) fun C => andB (mSign C (nI c2)) fun D => mTold D 3 (lo' D) hi) hB gB
      exact ⟨GO_put (by omega) (GO_num _ _ hE (GO_sign _ hE (GO_put (by omega) (GO_num _ _ hE gE)))), fun q => by rw [hE] at q; exact Bool.noConfusion q⟩
  · have hA := Bool.eq_false_iff.mpr hA
    obtain ⟨gE, hE⟩ := GO_and (f := fun A => andB (mSign A (nI c1)) fun B => andB (mTold B 2 (nI 0) (nI 63)) fun C => andB (mSign C (nI c2)) fun D => mTold D 3 (lo' D) hi) hA gA
    exact ⟨GO_put (by omega) (GO_num _ _ hE (GO_sign _ hE (GO_put (by omega) (GO_num _ _ hE (GO_sign _ hE gE))))), fun q => by rw [hE] at q; exact Bool.noConfusion q⟩
theorem nextQ_put (Q : jO) (v : Int32) : nextQ (put Q 0 3 v) = put (nextQ Q) 0 3 v := by
  unfold nextQ
  rw [pfa (by omega)]
  funext j i
  rw [put_app, put_app, put_app, put_app]
  by_cases h1 : j = 0 ∧ i = 1
  · rw [if_pos h1, if_neg (by omega), if_pos h1]
  · rw [if_neg h1]
    by_cases h3 : j = 0 ∧ i = 3
    · rw [if_pos h3, if_pos h3]
    · rw [if_neg h3, if_neg h3, if_neg h1]
theorem order_go {Q T : jO} {a w k : Nat} (hk6 : k ≤ 20) (h : PC Q T a w) (h2 : Q 0 2 = 0) (hk : T 0 6 = nI k) : GO (rdOrder Q) (mOrder T) w k ∧ ((mOrder T).2 = true → FO (rdOrder Q) ((mOrder T).1 5) k ∧ a < w) := by
  have ht : toN (T 0 6) = k := by rw [hk, toN_nI (by omega)]
  have w4 : ∀ c, (mAt T (nI c) (nI c)) = (decide (a < w) && decide (Q 1 a = nI c)) := fun c => by rw [PC_at h, wit_one]
  unfold rdOrder mOrder
  simp only
  rw [PC_sg h, w4, w4, w4, w4]
  by_cases ha : a < w
  · rw [if_pos ha, PC_chr ha h, ht]
    simp only [decide_eq_true ha, Bool.true_and]
    have hP : PC (nextQ (put Q 0 3 (Q 1 a))) (mNext (put T 5 (4 * k) (Q 1 a))) (a + 1) w := PC_next ha (PC_5 (PC_q (by omega) (by omega) h))
    have hQ2 : nextQ (put Q 0 3 (Q 1 a)) 0 2 = 0 := by rw [next_2, pfa (by omega)]; exact h2
    have hQ3 : nextQ (put Q 0 3 (Q 1 a)) 0 3 = Q 1 a := by rw [nextQ_put, put_at, if_pos rfl]
    have hk' : mNext (put T 5 (4 * k) (Q 1 a)) 0 6 = nI k := by rw [mNext_6, put_ne (by decide)]; exact hk
    have h5 : mNext (put T 5 (4 * k) (Q 1 a)) 5 (4 * k) = Q 1 a := by
      show put (put T 5 (4 * k) (Q 1 a)) 0 3 _ 5 (4 * k) = _
      rw [put_ne (by decide), put_at, if_pos rfl]
    generalize Q 1 a = c at hP hQ2 hQ3 hk' h5 ⊢
    generalize nextQ (put Q 0 3 c) = Q1 at hP hQ2 hQ3 ⊢
    generalize mNext (put T 5 (4 * k) c) = T1 at hP hk' h5 ⊢
    by_cases c1 : c = nI 116
    · subst c1
      rw [if_pos rfl, if_pos (by decide), if_neg (by decide)]
      simp only [eq_self, if_true]
      obtain ⟨g, f⟩ := rT_go hk6 hP hQ2 hk'
      refine ⟨g, fun q => ⟨?_, ha⟩⟩
      obtain ⟨f1, f2, f3, f4⟩ := f q
      have e : rT Q1 0 3 = nI 116 := f1.trans hQ3
      rw [h5] at f4
      refine ⟨e.trans f4.symm, fun q => absurd (f4.symm.trans q) (by decide), fun _ => ⟨f2, f3⟩, fun q => ?_⟩
      rcases q with q | q <;> exact absurd (f4.symm.trans q) (by decide)
    · rw [if_neg c1]
      by_cases c2 : c = nI 119
      · subst c2
        rw [if_pos rfl, if_pos (by decide), if_neg (by decide)]
        simp only [eq_self, n9b, if_true, if_false]
        obtain ⟨g, f⟩ := rX_go (c1 := 64) (c2 := 42) (lo := fun _ => nI 1) (lo' := fun _ => nI 1) (hi := nI 99) (by decide) (by decide) hk6 hP hQ2 hk' (fun _ _ _ _ => rfl)
        refine ⟨g, fun q => ⟨?_, ha⟩⟩
        obtain ⟨f1, f2, f3, f4, f5⟩ := f q
        rw [h5] at f5
        refine ⟨(f1.trans hQ3).trans f5.symm, fun q => absurd (f5.symm.trans q) (by decide), fun q => absurd (f5.symm.trans q) (by decide), fun _ => ⟨f2, f3, f4⟩⟩
      · rw [if_neg c2]
        by_cases c3 : c = nI 103
        · subst c3
          rw [if_pos rfl, if_pos (by decide), if_neg (by decide)]
          simp only [n9e, n9f, if_false]
          obtain ⟨g, f⟩ := rX_go (c1 := 58) (c2 := 45) (lo := fun A => A 0 5) (lo' := fun D => D 5 (4 * toN (D 0 6) + 2)) (hi := nI 63) (by decide) (by decide) hk6 hP hQ2 hk' (fun A B q1 q2 => by rw [q2, toN_nI (by omega)]; exact q1)
          refine ⟨g, fun q => ⟨?_, ha⟩⟩
          obtain ⟨f1, f2, f3, f4, f5⟩ := f q
          rw [h5] at f5
          refine ⟨(f1.trans hQ3).trans f5.symm, fun q => absurd (f5.symm.trans q) (by decide), fun q => absurd (f5.symm.trans q) (by decide), fun _ => ⟨f2, f3, f4⟩⟩
        · rw [if_neg c3]
          by_cases c4 : c = nI 100
          · subst c4
            rw [if_pos rfl, if_pos (by decide), if_pos rfl]
            obtain ⟨g, v, f, o⟩ := told_go (j := 1) (i := 6) (nI 1) (nI 99) (by omega) hk6 hP hQ2 hk'
            refine ⟨g, fun q => ⟨?_, ha⟩⟩
            have f5 : (mTold T1 1 (nI 1) (nI 99)).1 5 (4 * k) = nI 100 := (o _ (by omega)).trans h5
            refine ⟨((f 3 (by omega) (by omega)).trans hQ3).trans f5.symm, fun _ => v q, fun q => absurd (f5.symm.trans q) (by decide), fun q => ?_⟩
            rcases q with q | q <;> exact absurd (f5.symm.trans q) (by decide)
          · rw [if_neg c4, if_neg (by rw [decide_eq_false c1, decide_eq_false c2, decide_eq_false c3, decide_eq_false c4]; decide)]
            exact ⟨stop_GO (PC_q (by omega) (by omega) h) hk, fun q => Bool.noConfusion q⟩
  · rw [if_neg ha]
    simp only [decide_eq_false ha, Bool.false_and, Bool.or_false]
    rw [if_neg (by decide), if_neg (by decide), if_neg (by decide), if_neg (by decide), if_neg (by decide)]
    exact ⟨stop_GO (PC_q (by omega) (by omega) h) hk, fun q => Bool.noConfusion q⟩
