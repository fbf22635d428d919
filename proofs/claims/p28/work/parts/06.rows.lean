/-! THE JUDGEMENT: J G pc L st: from the frame at pc with locals L and stack st, the world in the state G, the machine comes to the method's end as its contract says. jR: J is such a judgement. Rows turn J at an instruction into J at the next. -/
def lh (nL : Nat) (ls : Array Slot) (L : List (Option Value)) : Prop := ls.size = nL ∧ L.length = nL ∧ lv_wf ls ∧ ∀ (i : Nat) (v : Value), L[i]? = some (some v) → ls[i]? = some (.val v)
def lprs : List (Option Value) → Nat → List (Nat × Value)
  | [], _ => []
  | none :: t, i => lprs t (i + 1)
  | some v :: t, i => (i, v) :: lprs t (i + 1)
theorem lprs_mem : ∀ (L : List (Option Value)) (i0 : Nat) (q : Nat × Value), q ∈ lprs L i0 ↔ ∃ i : Nat, q.1 = i0 + i ∧ L[i]? = some (some q.2)
  | [], i0, q => by simp [lprs]
  | none :: t, i0, q => by
    rw [lprs, lprs_mem t (i0 + 1) q]
    constructor
    · rintro ⟨i, h1, h2⟩
      exact ⟨i + 1, by omega, by simpa using h2⟩
    · rintro ⟨i, h1, h2⟩
      cases i with
      | zero => simp at h2
      | succ i => exact ⟨i, by omega, by simpa using h2⟩
  | some v :: t, i0, q => by
    rw [lprs, List.mem_cons, lprs_mem t (i0 + 1) q]
    constructor
    · rintro (rfl | ⟨i, h1, h2⟩)
      · exact ⟨0, rfl, rfl⟩
      · exact ⟨i + 1, by omega, by simpa using h2⟩
    · rintro ⟨i, h1, h2⟩
      cases i with
      | zero =>
        left
        obtain ⟨a, b⟩ := q
        simp at h1 h2
        rw [h1, h2]
      | succ i => exact Or.inr ⟨i, by omega, by simpa using h2⟩
theorem lh_has {nL : Nat} {ls : Array Slot} {L : List (Option Value)} (h : lh nL ls L) : lv_has ls nL (lprs L 0) := by
  refine ⟨h.1, h.2.2.1, fun q hq => ?_⟩
  obtain ⟨i, e, hi⟩ := (lprs_mem L 0 q).mp hq
  have e2 : q.1 = i := by omega
  rw [e2]
  exact h.2.2.2 i q.2 hi
def nc2 : Option Value → Bool
  | some v => v.category != 2
  | none => true
/-- the locals L' are L with v stored at i -/
def lpt (L : List (Option Value)) (i : Nat) (v : Value) (L' : List (Option Value)) : Prop :=
  L'.length = L.length ∧ i < L.length ∧ (v.category = 2 → i + 1 < L.length) ∧ ∀ (j : Nat) (w : Value), L'[j]? = some (some w) → (j = i ∧ w = v) ∨ (L[j]? = some (some w) ∧ j ≠ i ∧ ¬ (j + 1 = i ∧ w.category = 2) ∧ (v.category = 2 → j ≠ i + 1))
theorem lh_put1 {nL i : Nat} {v : Value} {ls : Array Slot} {L L' : List (Option Value)} (hL : L.length = nL) (hc : v.category = 1) (hp : lpt L i v L') (h : lv_has ls nL ((i, v) :: (lprs L 0).filter (fun q => !(q.1 == i) && !(q.1 + 1 == i && q.2.category == 2)))) : lh nL ls L' := by
  refine ⟨h.1, by rw [hp.1, hL], h.2.1, fun j w hj => ?_⟩
  rcases hp.2.2.2 j w hj with ⟨rfl, rfl⟩ | ⟨h1, h2, h3, -⟩
  · exact h.2.2 _ List.mem_cons_self
  · refine h.2.2 (j, w) (List.mem_cons_of_mem _ (List.mem_filter.mpr ⟨(lprs_mem L 0 (j, w)).mpr ⟨j, by simp, h1⟩, ?_⟩))
    simp only [Bool.and_eq_true, Bool.not_eq_true', beq_eq_false_iff_ne, Bool.and_eq_false_iff]
    refine ⟨h2, ?_⟩
    by_cases h4 : j + 1 = i
    · right
      intro h5
      exact h3 ⟨h4, h5⟩
    · exact Or.inl h4
theorem lh_put2 {nL i : Nat} {v : Value} {ls : Array Slot} {L L' : List (Option Value)} (hL : L.length = nL) (hc : v.category = 2) (hp : lpt L i v L') (h : lv_has ls nL ((i, v) :: (lprs L 0).filter (fun q => !(q.1 == i) && (!(q.1 == i + 1) && !(q.1 + 1 == i && q.2.category == 2))))) : lh nL ls L' := by
  refine ⟨h.1, by rw [hp.1, hL], h.2.1, fun j w hj => ?_⟩
  rcases hp.2.2.2 j w hj with ⟨rfl, rfl⟩ | ⟨h1, h2, h3, h6⟩
  · exact h.2.2 _ List.mem_cons_self
  · refine h.2.2 (j, w) (List.mem_cons_of_mem _ (List.mem_filter.mpr ⟨(lprs_mem L 0 (j, w)).mpr ⟨j, by simp, h1⟩, ?_⟩))
    simp only [Bool.and_eq_true, Bool.not_eq_true', beq_eq_false_iff_ne, Bool.and_eq_false_iff]
    refine ⟨h2, h6 hc, ?_⟩
    by_cases h4 : j + 1 = i
    · right
      intro h5
      exact h3 ⟨h4, h5⟩
    · exact Or.inl h4
theorem lpt_0 {a : Option Value} {t : List (Option Value)} {v : Value} (hc : v.category = 1) : lpt (a :: t) 0 v (some v :: t) := by
  refine ⟨rfl, Nat.zero_lt_succ _, fun h => by omega, fun j w hj => ?_⟩
  cases j with
  | zero => left; simp at hj; exact ⟨rfl, hj.symm⟩
  | succ j => right; exact ⟨by simpa using hj, by omega, by omega, fun h => by omega⟩
theorem lpt_20 {a b : Option Value} {t : List (Option Value)} {v : Value} (hc : v.category = 2) : lpt (a :: b :: t) 0 v (some v :: none :: t) := by
  refine ⟨rfl, Nat.zero_lt_succ _, fun _ => by simp, fun j w hj => ?_⟩
  cases j with
  | zero => left; simp at hj; exact ⟨rfl, hj.symm⟩
  | succ j =>
    cases j with
    | zero => simp at hj
    | succ j => right; exact ⟨by simpa using hj, by omega, by omega, fun _ => by omega⟩
theorem lpt_s {a : Option Value} {L L' : List (Option Value)} {i : Nat} {v : Value} (ha : i = 0 → nc2 a = true) (h : lpt L i v L') : lpt (a :: L) (i + 1) v (a :: L') := by
  obtain ⟨h1, h2, h3, h4⟩ := h
  refine ⟨by simp [h1], by simp [h2], fun h => by simp [h3 h], fun j w hj => ?_⟩
  cases j with
  | zero =>
    right
    simp at hj
    subst hj
    refine ⟨rfl, by omega, fun q => ?_, fun _ => by omega⟩
    have hi : i = 0 := by omega
    have h5 := ha hi
    simp [nc2] at h5
    exact h5 q.2
  | succ j =>
    rcases h4 j w (by simpa using hj) with ⟨rfl, rfl⟩ | ⟨g1, g2, g3, g4⟩
    · exact Or.inl ⟨rfl, rfl⟩
    · right
      exact ⟨by simpa using g1, by omega, fun q => g3 ⟨by omega, q.2⟩, fun h => by have := g4 h; omega⟩
theorem jp0 {a0 : Option Value} {t : List (Option Value)} {v : Value} (hc : v.category = 1) : lpt (a0 :: t) 0 v (some v :: t) := lpt_0 hc
theorem jq0 {a0 b : Option Value} {t : List (Option Value)} {v : Value} (hc : v.category = 2) : lpt (a0 :: b :: t) 0 v (some v :: none :: t) := lpt_20 hc
theorem jg0 {t : List (Option Value)} {v : Value} : (some v :: t)[0]? = some (some v) := rfl
theorem jp1 {a0 a1 : Option Value} {t : List (Option Value)} {v : Value} (h : nc2 a0 = true) (hc : v.category = 1) : lpt (a0 :: a1 :: t) 1 v (a0 :: some v :: t) := lpt_s (fun _ => h) (lpt_0 hc)
theorem jq1 {a0 a1 b : Option Value} {t : List (Option Value)} {v : Value} (h : nc2 a0 = true) (hc : v.category = 2) : lpt (a0 :: a1 :: b :: t) 1 v (a0 :: some v :: none :: t) := lpt_s (fun _ => h) (lpt_20 hc)
theorem jg1 {a0 : Option Value} {t : List (Option Value)} {v : Value} : (a0 :: some v :: t)[1]? = some (some v) := rfl
theorem jp2 {a0 a1 a2 : Option Value} {t : List (Option Value)} {v : Value} (h : nc2 a1 = true) (hc : v.category = 1) : lpt (a0 :: a1 :: a2 :: t) 2 v (a0 :: a1 :: some v :: t) := lpt_s (fun q => by omega) (lpt_s (fun _ => h) (lpt_0 hc))
theorem jq2 {a0 a1 a2 b : Option Value} {t : List (Option Value)} {v : Value} (h : nc2 a1 = true) (hc : v.category = 2) : lpt (a0 :: a1 :: a2 :: b :: t) 2 v (a0 :: a1 :: some v :: none :: t) := lpt_s (fun q => by omega) (lpt_s (fun _ => h) (lpt_20 hc))
theorem jg2 {a0 a1 : Option Value} {t : List (Option Value)} {v : Value} : (a0 :: a1 :: some v :: t)[2]? = some (some v) := rfl
theorem jp3 {a0 a1 a2 a3 : Option Value} {t : List (Option Value)} {v : Value} (h : nc2 a2 = true) (hc : v.category = 1) : lpt (a0 :: a1 :: a2 :: a3 :: t) 3 v (a0 :: a1 :: a2 :: some v :: t) := lpt_s (fun q => by omega) (lpt_s (fun q => by omega) (lpt_s (fun _ => h) (lpt_0 hc)))
theorem jq3 {a0 a1 a2 a3 b : Option Value} {t : List (Option Value)} {v : Value} (h : nc2 a2 = true) (hc : v.category = 2) : lpt (a0 :: a1 :: a2 :: a3 :: b :: t) 3 v (a0 :: a1 :: a2 :: some v :: none :: t) := lpt_s (fun q => by omega) (lpt_s (fun q => by omega) (lpt_s (fun _ => h) (lpt_20 hc)))
theorem jg3 {a0 a1 a2 : Option Value} {t : List (Option Value)} {v : Value} : (a0 :: a1 :: a2 :: some v :: t)[3]? = some (some v) := rfl
theorem jp4 {a0 a1 a2 a3 a4 : Option Value} {t : List (Option Value)} {v : Value} (h : nc2 a3 = true) (hc : v.category = 1) : lpt (a0 :: a1 :: a2 :: a3 :: a4 :: t) 4 v (a0 :: a1 :: a2 :: a3 :: some v :: t) := lpt_s (fun q => by omega) (lpt_s (fun q => by omega) (lpt_s (fun q => by omega) (lpt_s (fun _ => h) (lpt_0 hc))))
theorem jq4 {a0 a1 a2 a3 a4 b : Option Value} {t : List (Option Value)} {v : Value} (h : nc2 a3 = true) (hc : v.category = 2) : lpt (a0 :: a1 :: a2 :: a3 :: a4 :: b :: t) 4 v (a0 :: a1 :: a2 :: a3 :: some v :: none :: t) := lpt_s (fun q => by omega) (lpt_s (fun q => by omega) (lpt_s (fun q => by omega) (lpt_s (fun _ => h) (lpt_20 hc))))
theorem jg4 {a0 a1 a2 a3 : Option Value} {t : List (Option Value)} {v : Value} : (a0 :: a1 :: a2 :: a3 :: some v :: t)[4]? = some (some v) := rfl
theorem jp5 {a0 a1 a2 a3 a4 a5 : Option Value} {t : List (Option Value)} {v : Value} (h : nc2 a4 = true) (hc : v.category = 1) : lpt (a0 :: a1 :: a2 :: a3 :: a4 :: a5 :: t) 5 v (a0 :: a1 :: a2 :: a3 :: a4 :: some v :: t) := lpt_s (fun q => by omega) (lpt_s (fun q => by omega) (lpt_s (fun q => by omega) (lpt_s (fun q => by omega) (lpt_s (fun _ => h) (lpt_0 hc)))))
theorem jq5 {a0 a1 a2 a3 a4 a5 b : Option Value} {t : List (Option Value)} {v : Value} (h : nc2 a4 = true) (hc : v.category = 2) : lpt (a0 :: a1 :: a2 :: a3 :: a4 :: a5 :: b :: t) 5 v (a0 :: a1 :: a2 :: a3 :: a4 :: some v :: none :: t) := lpt_s (fun q => by omega) (lpt_s (fun q => by omega) (lpt_s (fun q => by omega) (lpt_s (fun q => by omega) (lpt_s (fun _ => h) (lpt_20 hc)))))
theorem jg5 {a0 a1 a2 a3 a4 : Option Value} {t : List (Option Value)} {v : Value} : (a0 :: a1 :: a2 :: a3 :: a4 :: some v :: t)[5]? = some (some v) := rfl
theorem jp6 {a0 a1 a2 a3 a4 a5 a6 : Option Value} {t : List (Option Value)} {v : Value} (h : nc2 a5 = true) (hc : v.category = 1) : lpt (a0 :: a1 :: a2 :: a3 :: a4 :: a5 :: a6 :: t) 6 v (a0 :: a1 :: a2 :: a3 :: a4 :: a5 :: some v :: t) := lpt_s (fun q => by omega) (lpt_s (fun q => by omega) (lpt_s (fun q => by omega) (lpt_s (fun q => by omega) (lpt_s (fun q => by omega) (lpt_s (fun _ => h) (lpt_0 hc))))))
theorem jq6 {a0 a1 a2 a3 a4 a5 a6 b : Option Value} {t : List (Option Value)} {v : Value} (h : nc2 a5 = true) (hc : v.category = 2) : lpt (a0 :: a1 :: a2 :: a3 :: a4 :: a5 :: a6 :: b :: t) 6 v (a0 :: a1 :: a2 :: a3 :: a4 :: a5 :: some v :: none :: t) := lpt_s (fun q => by omega) (lpt_s (fun q => by omega) (lpt_s (fun q => by omega) (lpt_s (fun q => by omega) (lpt_s (fun q => by omega) (lpt_s (fun _ => h) (lpt_20 hc))))))
theorem jg6 {a0 a1 a2 a3 a4 a5 : Option Value} {t : List (Option Value)} {v : Value} : (a0 :: a1 :: a2 :: a3 :: a4 :: a5 :: some v :: t)[6]? = some (some v) := rfl
theorem jp7 {a0 a1 a2 a3 a4 a5 a6 a7 : Option Value} {t : List (Option Value)} {v : Value} (h : nc2 a6 = true) (hc : v.category = 1) : lpt (a0 :: a1 :: a2 :: a3 :: a4 :: a5 :: a6 :: a7 :: t) 7 v (a0 :: a1 :: a2 :: a3 :: a4 :: a5 :: a6 :: some v :: t) := lpt_s (fun q => by omega) (lpt_s (fun q => by omega) (lpt_s (fun q => by omega) (lpt_s (fun q => by omega) (lpt_s (fun q => by omega) (lpt_s (fun q => by omega) (lpt_s (fun _ => h) (lpt_0 hc)))))))
theorem jq7 {a0 a1 a2 a3 a4 a5 a6 a7 b : Option Value} {t : List (Option Value)} {v : Value} (h : nc2 a6 = true) (hc : v.category = 2) : lpt (a0 :: a1 :: a2 :: a3 :: a4 :: a5 :: a6 :: a7 :: b :: t) 7 v (a0 :: a1 :: a2 :: a3 :: a4 :: a5 :: a6 :: some v :: none :: t) := lpt_s (fun q => by omega) (lpt_s (fun q => by omega) (lpt_s (fun q => by omega) (lpt_s (fun q => by omega) (lpt_s (fun q => by omega) (lpt_s (fun q => by omega) (lpt_s (fun _ => h) (lpt_20 hc)))))))
theorem jg7 {a0 a1 a2 a3 a4 a5 a6 : Option Value} {t : List (Option Value)} {v : Value} : (a0 :: a1 :: a2 :: a3 :: a4 :: a5 :: a6 :: some v :: t)[7]? = some (some v) := rfl
theorem jp8 {a0 a1 a2 a3 a4 a5 a6 a7 a8 : Option Value} {t : List (Option Value)} {v : Value} (h : nc2 a7 = true) (hc : v.category = 1) : lpt (a0 :: a1 :: a2 :: a3 :: a4 :: a5 :: a6 :: a7 :: a8 :: t) 8 v (a0 :: a1 :: a2 :: a3 :: a4 :: a5 :: a6 :: a7 :: some v :: t) := lpt_s (fun q => by omega) (lpt_s (fun q => by omega) (lpt_s (fun q => by omega) (lpt_s (fun q => by omega) (lpt_s (fun q => by omega) (lpt_s (fun q => by omega) (lpt_s (fun q => by omega) (lpt_s (fun _ => h) (lpt_0 hc))))))))
theorem jq8 {a0 a1 a2 a3 a4 a5 a6 a7 a8 b : Option Value} {t : List (Option Value)} {v : Value} (h : nc2 a7 = true) (hc : v.category = 2) : lpt (a0 :: a1 :: a2 :: a3 :: a4 :: a5 :: a6 :: a7 :: a8 :: b :: t) 8 v (a0 :: a1 :: a2 :: a3 :: a4 :: a5 :: a6 :: a7 :: some v :: none :: t) := lpt_s (fun q => by omega) (lpt_s (fun q => by omega) (lpt_s (fun q => by omega) (lpt_s (fun q => by omega) (lpt_s (fun q => by omega) (lpt_s (fun q => by omega) (lpt_s (fun q => by omega) (lpt_s (fun _ => h) (lpt_20 hc))))))))
theorem jg8 {a0 a1 a2 a3 a4 a5 a6 a7 : Option Value} {t : List (Option Value)} {v : Value} : (a0 :: a1 :: a2 :: a3 :: a4 :: a5 :: a6 :: a7 :: some v :: t)[8]? = some (some v) := rfl
theorem jp9 {a0 a1 a2 a3 a4 a5 a6 a7 a8 a9 : Option Value} {t : List (Option Value)} {v : Value} (h : nc2 a8 = true) (hc : v.category = 1) : lpt (a0 :: a1 :: a2 :: a3 :: a4 :: a5 :: a6 :: a7 :: a8 :: a9 :: t) 9 v (a0 :: a1 :: a2 :: a3 :: a4 :: a5 :: a6 :: a7 :: a8 :: some v :: t) := lpt_s (fun q => by omega) (lpt_s (fun q => by omega) (lpt_s (fun q => by omega) (lpt_s (fun q => by omega) (lpt_s (fun q => by omega) (lpt_s (fun q => by omega) (lpt_s (fun q => by omega) (lpt_s (fun q => by omega) (lpt_s (fun _ => h) (lpt_0 hc)))))))))
theorem jq9 {a0 a1 a2 a3 a4 a5 a6 a7 a8 a9 b : Option Value} {t : List (Option Value)} {v : Value} (h : nc2 a8 = true) (hc : v.category = 2) : lpt (a0 :: a1 :: a2 :: a3 :: a4 :: a5 :: a6 :: a7 :: a8 :: a9 :: b :: t) 9 v (a0 :: a1 :: a2 :: a3 :: a4 :: a5 :: a6 :: a7 :: a8 :: some v :: none :: t) := lpt_s (fun q => by omega) (lpt_s (fun q => by omega) (lpt_s (fun q => by omega) (lpt_s (fun q => by omega) (lpt_s (fun q => by omega) (lpt_s (fun q => by omega) (lpt_s (fun q => by omega) (lpt_s (fun q => by omega) (lpt_s (fun _ => h) (lpt_20 hc)))))))))
theorem jg9 {a0 a1 a2 a3 a4 a5 a6 a7 a8 : Option Value} {t : List (Option Value)} {v : Value} : (a0 :: a1 :: a2 :: a3 :: a4 :: a5 :: a6 :: a7 :: a8 :: some v :: t)[9]? = some (some v) := rfl
theorem jp10 {a0 a1 a2 a3 a4 a5 a6 a7 a8 a9 a10 : Option Value} {t : List (Option Value)} {v : Value} (h : nc2 a9 = true) (hc : v.category = 1) : lpt (a0 :: a1 :: a2 :: a3 :: a4 :: a5 :: a6 :: a7 :: a8 :: a9 :: a10 :: t) 10 v (a0 :: a1 :: a2 :: a3 :: a4 :: a5 :: a6 :: a7 :: a8 :: a9 :: some v :: t) := lpt_s (fun q => by omega) (lpt_s (fun q => by omega) (lpt_s (fun q => by omega) (lpt_s (fun q => by omega) (lpt_s (fun q => by omega) (lpt_s (fun q => by omega) (lpt_s (fun q => by omega) (lpt_s (fun q => by omega) (lpt_s (fun q => by omega) (lpt_s (fun _ => h) (lpt_0 hc))))))))))
theorem jq10 {a0 a1 a2 a3 a4 a5 a6 a7 a8 a9 a10 b : Option Value} {t : List (Option Value)} {v : Value} (h : nc2 a9 = true) (hc : v.category = 2) : lpt (a0 :: a1 :: a2 :: a3 :: a4 :: a5 :: a6 :: a7 :: a8 :: a9 :: a10 :: b :: t) 10 v (a0 :: a1 :: a2 :: a3 :: a4 :: a5 :: a6 :: a7 :: a8 :: a9 :: some v :: none :: t) := lpt_s (fun q => by omega) (lpt_s (fun q => by omega) (lpt_s (fun q => by omega) (lpt_s (fun q => by omega) (lpt_s (fun q => by omega) (lpt_s (fun q => by omega) (lpt_s (fun q => by omega) (lpt_s (fun q => by omega) (lpt_s (fun q => by omega) (lpt_s (fun _ => h) (lpt_20 hc))))))))))
theorem jg10 {a0 a1 a2 a3 a4 a5 a6 a7 a8 a9 : Option Value} {t : List (Option Value)} {v : Value} : (a0 :: a1 :: a2 :: a3 :: a4 :: a5 :: a6 :: a7 :: a8 :: a9 :: some v :: t)[10]? = some (some v) := rfl
theorem jp11 {a0 a1 a2 a3 a4 a5 a6 a7 a8 a9 a10 a11 : Option Value} {t : List (Option Value)} {v : Value} (h : nc2 a10 = true) (hc : v.category = 1) : lpt (a0 :: a1 :: a2 :: a3 :: a4 :: a5 :: a6 :: a7 :: a8 :: a9 :: a10 :: a11 :: t) 11 v (a0 :: a1 :: a2 :: a3 :: a4 :: a5 :: a6 :: a7 :: a8 :: a9 :: a10 :: some v :: t) := lpt_s (fun q => by omega) (lpt_s (fun q => by omega) (lpt_s (fun q => by omega) (lpt_s (fun q => by omega) (lpt_s (fun q => by omega) (lpt_s (fun q => by omega) (lpt_s (fun q => by omega) (lpt_s (fun q => by omega) (lpt_s (fun q => by omega) (lpt_s (fun q => by omega) (lpt_s (fun _ => h) (lpt_0 hc)))))))))))
theorem jq11 {a0 a1 a2 a3 a4 a5 a6 a7 a8 a9 a10 a11 b : Option Value} {t : List (Option Value)} {v : Value} (h : nc2 a10 = true) (hc : v.category = 2) : lpt (a0 :: a1 :: a2 :: a3 :: a4 :: a5 :: a6 :: a7 :: a8 :: a9 :: a10 :: a11 :: b :: t) 11 v (a0 :: a1 :: a2 :: a3 :: a4 :: a5 :: a6 :: a7 :: a8 :: a9 :: a10 :: some v :: none :: t) := lpt_s (fun q => by omega) (lpt_s (fun q => by omega) (lpt_s (fun q => by omega) (lpt_s (fun q => by omega) (lpt_s (fun q => by omega) (lpt_s (fun q => by omega) (lpt_s (fun q => by omega) (lpt_s (fun q => by omega) (lpt_s (fun q => by omega) (lpt_s (fun q => by omega) (lpt_s (fun _ => h) (lpt_20 hc)))))))))))
theorem jg11 {a0 a1 a2 a3 a4 a5 a6 a7 a8 a9 a10 : Option Value} {t : List (Option Value)} {v : Value} : (a0 :: a1 :: a2 :: a3 :: a4 :: a5 :: a6 :: a7 :: a8 :: a9 :: a10 :: some v :: t)[11]? = some (some v) := rfl
/-! the base: what the tables and the statics say, at the method's entry -/
def lsS (j : Nat) : Int32 := if j = 1 then 1 else if j = 3 then 4 else 0
def msS (j : Nat) : Int32 := if j = 0 then 50 else if j = 2 then 1 else 64
def xw : List Cond := [.declares (Bundle.init0 "java/lang/RuntimeException"), .declares (Bundle.init0 "java/lang/Exception"), .declares (Bundle.init0 Bundle.tN), .castable "java/lang/IndexOutOfBoundsException" "java/lang/IndexOutOfBoundsException", .castable "java/lang/IllegalArgumentException" "java/lang/IllegalArgumentException", .castable "java/lang/IllegalStateException" "java/lang/IllegalStateException"]
def ncs : List (String × String) := [("java/lang/IllegalArgumentException", "java/lang/IndexOutOfBoundsException"), ("java/lang/IllegalStateException", "java/lang/IndexOutOfBoundsException"), ("java/lang/IndexOutOfBoundsException", "java/lang/IllegalArgumentException"), ("java/lang/IllegalStateException", "java/lang/IllegalArgumentException"), ("java/lang/IndexOutOfBoundsException", "java/lang/IllegalStateException"), ("java/lang/IllegalArgumentException", "java/lang/IllegalStateException")]
theorem castable_moved {C T : String} {u U : State} (hvm : u.vm.Alike U.vm) (h : va_Nw (.castable C T) u) : va_Nw (.castable C T) U := by
  unfold va_Nw at *
  simp only [Cond.before, Cond.holds, Cond.value] at h ⊢
  rw [hvm.findClass, hvm.findClass]
  revert h
  cases h1 : u.vm.findClass C <;> cases h2 : u.vm.findClass T <;> simp [hvm.assignable]
theorem xw_moved {u U : State} (hW : u.WarmedH U.vm) (h : ∀ w ∈ xw, va_Nw w u) : ∀ w ∈ xw, va_Nw w U := by
  intro w hw
  have h1 := h w hw
  simp only [xw, List.mem_cons, List.not_mem_nil, or_false] at hw
  rcases hw with rfl | rfl | rfl | rfl | rfl | rfl
  · exact va_Nw.warmD hW h1
  · exact va_Nw.warmD hW h1
  · exact va_Nw.warmD hW h1
  · exact castable_moved hW.alike h1
  · exact castable_moved hW.alike h1
  · exact castable_moved hW.alike h1
def jB (E : jE) (U : State) (H : Heap) : Prop := va_K E.2.1 vwCl (jtys E) U ∧ vx_Zq Bundle.tN "UNASSIGNED_STACK" Bundle.steD (jA E) U H ∧ vx_Zq Bundle.tN "SUPPRESSED_SENTINEL" Bundle.listD (jA E) U H ∧ va_Z RX4 "LEAST_SETTING" "[I" (.ref E.2.2.2.1) (jA E) U H ∧ va_Z RX4 "MOST_SETTING" "[I" (.ref E.2.2.2.2) (jA E) U H ∧ va_T .int E.2.2.2.1 4 (fun j => .int (lsS j)) (jA E) U H ∧ va_T .int E.2.2.2.2 4 (fun j => .int (msS j)) (jA E) U H ∧ (E.1 ≤ H.size ∧ E.2.2.1.2.1.1 < E.1 ∧ E.2.2.1.2.1.2.1 ≤ 5000 ∧ va_X E.2.2.1.2.1.1 E.2.2.1.2.1.2.1 E.2.2.1.2.1.2.2 U H) ∧ va_Nw (.methodLinkNest "NumberLeases$Pool" 137 ⟨"NumberLeases", "sum", "([I)I"⟩ "NumberLeases") U ∧ (∀ w ∈ xw, va_Nw w U) ∧ ∀ q ∈ ncs, va_Nc q.1 q.2 U
theorem jB.moved {E : jE} {u U : State} {H : Heap} (hW : u.WarmedH U.vm) (h : jB E u H) : jB E U H := by
  obtain ⟨h1, h2, h3, h4, h5, h6, h7, h8, h9, h10, h11⟩ := h
  have hvm := hW.alike
  exact ⟨h1.moved hvm, h2.moved hvm, h3.moved hvm, h4.moved hvm, h5.moved hvm, h6.moved hvm, h7.moved hvm, ⟨h8.1, h8.2.1, h8.2.2.1, h8.2.2.2.moved hvm⟩, va_Nw.warmM hW h9, xw_moved hW h10, fun q hq => (h11 q hq).moved hvm⟩
theorem jB.go {E : jE} {s U : State} {H : Heap} {locs : List Loc} (h : jB E s s.heap) (hS : va_S (jA E) s.heap H locs) (hvm : s.WarmedH U.vm) (hH : U.heap = H) : jB E U U.heap := by
  have h9 : jB E s H := by
    obtain ⟨h1, h2, h3, h4, h5, h6, h7, h8, h9, h10, h11⟩ := h
    exact ⟨h1, h2.kept hS.2.1, h3.kept hS.2.1, h4.kept hS.2.1, h5.kept hS.2.1, h6.kept hS.2.1, h7.kept hS.2.1, ⟨Nat.le_trans h8.1 hS.1, h8.2.1, h8.2.2.1, h8.2.2.2.kept (hS.2.1 _ (Nat.lt_of_lt_of_le h8.2.1 h8.1) (Nat.not_le.mpr h8.2.1))⟩, h9, h10, h11⟩
  rw [hH]
  exact h9.moved hvm
abbrev jT : Type := jG → Nat → List (Option Value) → List Value → Prop
def jW (p : Program) (l : Launch) (e : Env) (R : Room) (s : State) (m : MethodId) (args : Array Value) (below : List Frame) (meth : Method) (c : Code) (Q : State → Prop) (E : jE) (nL n0 cap cb sb : Nat) : jT := fun G pc L st =>
  n0 ≤ G.2.2.2 → G.2.2.2 ≤ n0 + cap → ∀ (H : Heap) (locs : List Loc) (ls : Array Slot), va_P E.2.1 vwCl (wld E G) H → va_S (jA E) s.heap H locs → lh nL ls L →
    W p l e R s m args below meth c H locs (cb + (G.2.2.2 - n0)) (sb + 6 * (G.2.2.2 - n0)) Q (F0 m pc ls st)
def jR (l : Launch) (E : jE) (own : String) (cc : ByteArray) (nL d n0 cap : Nat) (J : jT) : Prop :=
  ∃ (p : Program) (e : Env) (R : Room) (s : State) (m : MethodId) (args : Array Value) (below : List Frame) (meth : Method) (c : Code) (Q : State → Prop) (cb sb : Nat), J = jW p l e R s m args below meth c Q E nL n0 cap cb sb ∧
    CallFix p m c cc nL s args gw own ∧ d ≤ R.frames ∧ 32 * d ≤ R.locals ∧ cb + cap ≤ R.cells ∧ sb + 6 * cap ≤ R.slots ∧ jB E s s.heap
abbrev rmd (d kx : Nat) : Room := { frames := d, cells := kx, slots := 6 * kx, locals := 32 * d }
def jPc (E : jE) (av : List Value) (G : jG) : Array Value → State → Prop := va_Pc av (fun U => va_P E.2.1 vwCl (wld E G) U.heap ∧ jB E U U.heap)
def jQc (E : jE) (r : Option Value) (G : jG) : Array Value → State → Outcome → State → Prop := fun _ st oc t => (oc = .returned r ∧ va_P E.2.1 vwCl (wld E G) t.heap) ∧ va_F (jA E) st t
/-- THE CONTRACT: y, called with av in the state G, answers r (none: void) and leaves G' -/
def Ct (l : Launch) (E : jE) (y : MethodName) (cc : ByteArray) (nL : Nat) (ret : Option FieldType) (d : Nat) (av : List Value) (G : jG) (r : Option Value) (G' : jG) : Prop :=
  ∃ kx : Nat, G'.2.2.2 = G.2.2.2 + kx ∧ Met l y (.code y cc nL ret :: gw) (rmd d kx) (jPc E av G) (jQc E r G') kx (6 * kx) (jA E)
theorem jPc_blind (E : jE) (av : List Value) (G : jG) : FrameBlind (jPc E av G) := fun a U g mk q => ⟨q.1, q.2.1, jB.moved (u := U) (U := U.calling g mk a) (State.WarmedH.refl U) q.2.2⟩
section ROWS
variable {l : Launch} {E : jE} {own : String} {cc : ByteArray} {nL d n0 cap : Nat} {J : jT} {G : jG} {pc : Nat} {L : List (Option Value)} {rest : List Value}
theorem r_iconst (hJ : jR l E own cc nL d n0 cap J) {n : Int} {v : Int32} (hd : decode cc pc = .ok (.iconst n, 1)) (hv : Int32.ofInt n = v) (k : J G (pc + 1) L (.int v :: rest)) : J G pc L (rest) := by
  obtain ⟨p, e, R, s, m, args, below, meth, c, Q, cb, sb, rfl, ⟨hx, hb, hml, hown, hts⟩, hfr, hlo, hce, hsl, hB⟩ := hJ
  intro h1 h2 H locs ls hP hS hl
  exact lv_iconst hx hb hd hv (k h1 h2 H locs ls hP hS hl)
theorem r_bipush (hJ : jR l E own cc nL d n0 cap J) {n : Int} {v : Int32} (hd : decode cc pc = .ok (.bipush n, 2)) (hv : (Int8.ofInt n).toInt32 = v) (k : J G (pc + 2) L (.int v :: rest)) : J G pc L (rest) := by
  obtain ⟨p, e, R, s, m, args, below, meth, c, Q, cb, sb, rfl, ⟨hx, hb, hml, hown, hts⟩, hfr, hlo, hce, hsl, hB⟩ := hJ
  intro h1 h2 H locs ls hP hS hl
  exact lv_bipush hx hb hd hv (k h1 h2 H locs ls hP hS hl)
theorem r_sipush (hJ : jR l E own cc nL d n0 cap J) {n : Int} {v : Int32} (hd : decode cc pc = .ok (.sipush n, 3)) (hv : (Int16.ofInt n).toInt32 = v) (k : J G (pc + 3) L (.int v :: rest)) : J G pc L (rest) := by
  obtain ⟨p, e, R, s, m, args, below, meth, c, Q, cb, sb, rfl, ⟨hx, hb, hml, hown, hts⟩, hfr, hlo, hce, hsl, hB⟩ := hJ
  intro h1 h2 H locs ls hP hS hl
  exact lv_sipush hx hb hd hv (k h1 h2 H locs ls hP hS hl)
theorem r_lconst (hJ : jR l E own cc nL d n0 cap J) {n : Fin 2} {v : Int64} (hd : decode cc pc = .ok (.lconst n, 1)) (hv : Int64.ofNat (n : Nat) = v) (k : J G (pc + 1) L (.long v :: rest)) : J G pc L (rest) := by
  obtain ⟨p, e, R, s, m, args, below, meth, c, Q, cb, sb, rfl, ⟨hx, hb, hml, hown, hts⟩, hfr, hlo, hce, hsl, hB⟩ := hJ
  intro h1 h2 H locs ls hP hS hl
  exact lv_lconst hx hb hd hv (k h1 h2 H locs ls hP hS hl)
theorem r_iload_n (hJ : jR l E own cc nL d n0 cap J) {q : Fin 4} {i : Nat} {x : Int32} (hd : decode cc pc = .ok (.iload_n q, 1)) (hi : (q : Nat) = i) (hL : L[i]? = some (some (.int x))) (k : J G (pc + 1) L (.int x :: rest)) : J G pc L rest := by
  obtain ⟨p, e, R, s, m, args, below, meth, c, Q, cb, sb, rfl, ⟨hx, hb, hml, hown, hts⟩, hfr, hlo, hce, hsl, hB⟩ := hJ
  intro h1 h2 H locs ls hP hS hl
  exact lv_iload_n hx hb hd hi (hl.2.2.2 i _ hL) (k h1 h2 H locs ls hP hS hl)
theorem r_iload (hJ : jR l E own cc nL d n0 cap J) {i : Nat} {x : Int32} (hd : decode cc pc = .ok (.iload i, 2)) (hL : L[i]? = some (some (.int x))) (k : J G (pc + 2) L (.int x :: rest)) : J G pc L rest := by
  obtain ⟨p, e, R, s, m, args, below, meth, c, Q, cb, sb, rfl, ⟨hx, hb, hml, hown, hts⟩, hfr, hlo, hce, hsl, hB⟩ := hJ
  intro h1 h2 H locs ls hP hS hl
  exact lv_iload hx hb hd (hl.2.2.2 i _ hL) (k h1 h2 H locs ls hP hS hl)
theorem r_istore_n (hJ : jR l E own cc nL d n0 cap J) {q : Fin 4} {i : Nat} {x : Int32} {L' : List (Option Value)} (hd : decode cc pc = .ok (.istore_n q, 1)) (hi : (q : Nat) = i) (hp : lpt L i (.int x) L') (k : J G (pc + 1) L' rest) : J G pc L (.int x :: rest) := by
  obtain ⟨p, e, R, s, m, args, below, meth, c, Q, cb, sb, rfl, ⟨hx, hb, hml, hown, hts⟩, hfr, hlo, hce, hsl, hB⟩ := hJ
  intro h1 h2 H locs ls hP hS hl
  exact lv_istore_n hx hb hd hi (lh_has hl) (hl.2.1 ▸ hp.2.1) rfl (fun ls' hl' => k h1 h2 H locs ls' hP hS (lh_put1 hl.2.1 rfl hp hl'))
theorem r_istore (hJ : jR l E own cc nL d n0 cap J) {i : Nat} {x : Int32} {L' : List (Option Value)} (hd : decode cc pc = .ok (.istore i, 2)) (hp : lpt L i (.int x) L') (k : J G (pc + 2) L' rest) : J G pc L (.int x :: rest) := by
  obtain ⟨p, e, R, s, m, args, below, meth, c, Q, cb, sb, rfl, ⟨hx, hb, hml, hown, hts⟩, hfr, hlo, hce, hsl, hB⟩ := hJ
  intro h1 h2 H locs ls hP hS hl
  exact lv_istore hx hb hd (lh_has hl) (hl.2.1 ▸ hp.2.1) rfl (fun ls' hl' => k h1 h2 H locs ls' hP hS (lh_put1 hl.2.1 rfl hp hl'))
theorem r_lload_n (hJ : jR l E own cc nL d n0 cap J) {q : Fin 4} {i : Nat} {x : Int64} (hd : decode cc pc = .ok (.lload_n q, 1)) (hi : (q : Nat) = i) (hL : L[i]? = some (some (.long x))) (k : J G (pc + 1) L (.long x :: rest)) : J G pc L rest := by
  obtain ⟨p, e, R, s, m, args, below, meth, c, Q, cb, sb, rfl, ⟨hx, hb, hml, hown, hts⟩, hfr, hlo, hce, hsl, hB⟩ := hJ
  intro h1 h2 H locs ls hP hS hl
  exact lv_lload_n hx hb hd hi (hl.2.2.2 i _ hL) (k h1 h2 H locs ls hP hS hl)
theorem r_lload (hJ : jR l E own cc nL d n0 cap J) {i : Nat} {x : Int64} (hd : decode cc pc = .ok (.lload i, 2)) (hL : L[i]? = some (some (.long x))) (k : J G (pc + 2) L (.long x :: rest)) : J G pc L rest := by
  obtain ⟨p, e, R, s, m, args, below, meth, c, Q, cb, sb, rfl, ⟨hx, hb, hml, hown, hts⟩, hfr, hlo, hce, hsl, hB⟩ := hJ
  intro h1 h2 H locs ls hP hS hl
  exact lv_lload hx hb hd (hl.2.2.2 i _ hL) (k h1 h2 H locs ls hP hS hl)
theorem r_lstore_n (hJ : jR l E own cc nL d n0 cap J) {q : Fin 4} {i : Nat} {x : Int64} {L' : List (Option Value)} (hd : decode cc pc = .ok (.lstore_n q, 1)) (hi : (q : Nat) = i) (hp : lpt L i (.long x) L') (k : J G (pc + 1) L' rest) : J G pc L (.long x :: rest) := by
  obtain ⟨p, e, R, s, m, args, below, meth, c, Q, cb, sb, rfl, ⟨hx, hb, hml, hown, hts⟩, hfr, hlo, hce, hsl, hB⟩ := hJ
  intro h1 h2 H locs ls hP hS hl
  exact lv_lstore_n hx hb hd hi (lh_has hl) (hl.2.1 ▸ hp.2.2.1 rfl) rfl (fun ls' hl' => k h1 h2 H locs ls' hP hS (lh_put2 hl.2.1 rfl hp hl'))
theorem r_lstore (hJ : jR l E own cc nL d n0 cap J) {i : Nat} {x : Int64} {L' : List (Option Value)} (hd : decode cc pc = .ok (.lstore i, 2)) (hp : lpt L i (.long x) L') (k : J G (pc + 2) L' rest) : J G pc L (.long x :: rest) := by
  obtain ⟨p, e, R, s, m, args, below, meth, c, Q, cb, sb, rfl, ⟨hx, hb, hml, hown, hts⟩, hfr, hlo, hce, hsl, hB⟩ := hJ
  intro h1 h2 H locs ls hP hS hl
  exact lv_lstore hx hb hd (lh_has hl) (hl.2.1 ▸ hp.2.2.1 rfl) rfl (fun ls' hl' => k h1 h2 H locs ls' hP hS (lh_put2 hl.2.1 rfl hp hl'))
theorem r_aload_n (hJ : jR l E own cc nL d n0 cap J) {q : Fin 4} {i : Nat} {x : Nat} (hd : decode cc pc = .ok (.aload_n q, 1)) (hi : (q : Nat) = i) (hL : L[i]? = some (some (.ref x))) (k : J G (pc + 1) L (.ref x :: rest)) : J G pc L rest := by
  obtain ⟨p, e, R, s, m, args, below, meth, c, Q, cb, sb, rfl, ⟨hx, hb, hml, hown, hts⟩, hfr, hlo, hce, hsl, hB⟩ := hJ
  intro h1 h2 H locs ls hP hS hl
  exact lv_aload_n hx hb hd hi (hl.2.2.2 i _ hL) (k h1 h2 H locs ls hP hS hl)
theorem r_aload (hJ : jR l E own cc nL d n0 cap J) {i : Nat} {x : Nat} (hd : decode cc pc = .ok (.aload i, 2)) (hL : L[i]? = some (some (.ref x))) (k : J G (pc + 2) L (.ref x :: rest)) : J G pc L rest := by
  obtain ⟨p, e, R, s, m, args, below, meth, c, Q, cb, sb, rfl, ⟨hx, hb, hml, hown, hts⟩, hfr, hlo, hce, hsl, hB⟩ := hJ
  intro h1 h2 H locs ls hP hS hl
  exact lv_aload hx hb hd (hl.2.2.2 i _ hL) (k h1 h2 H locs ls hP hS hl)
theorem r_astore_n (hJ : jR l E own cc nL d n0 cap J) {q : Fin 4} {i : Nat} {x : Nat} {L' : List (Option Value)} (hd : decode cc pc = .ok (.astore_n q, 1)) (hi : (q : Nat) = i) (hp : lpt L i (.ref x) L') (k : J G (pc + 1) L' rest) : J G pc L (.ref x :: rest) := by
  obtain ⟨p, e, R, s, m, args, below, meth, c, Q, cb, sb, rfl, ⟨hx, hb, hml, hown, hts⟩, hfr, hlo, hce, hsl, hB⟩ := hJ
  intro h1 h2 H locs ls hP hS hl
  exact lv_astore_n hx hb hd hi (lh_has hl) (hl.2.1 ▸ hp.2.1) rfl (fun ls' hl' => k h1 h2 H locs ls' hP hS (lh_put1 hl.2.1 rfl hp hl'))
theorem r_astore (hJ : jR l E own cc nL d n0 cap J) {i : Nat} {x : Nat} {L' : List (Option Value)} (hd : decode cc pc = .ok (.astore i, 2)) (hp : lpt L i (.ref x) L') (k : J G (pc + 2) L' rest) : J G pc L (.ref x :: rest) := by
  obtain ⟨p, e, R, s, m, args, below, meth, c, Q, cb, sb, rfl, ⟨hx, hb, hml, hown, hts⟩, hfr, hlo, hce, hsl, hB⟩ := hJ
  intro h1 h2 H locs ls hP hS hl
  exact lv_astore hx hb hd (lh_has hl) (hl.2.1 ▸ hp.2.1) rfl (fun ls' hl' => k h1 h2 H locs ls' hP hS (lh_put1 hl.2.1 rfl hp hl'))
theorem r_fload_n (hJ : jR l E own cc nL d n0 cap J) {q : Fin 4} {i : Nat} {x : UInt32} (hd : decode cc pc = .ok (.fload_n q, 1)) (hi : (q : Nat) = i) (hL : L[i]? = some (some (.float x))) (k : J G (pc + 1) L (.float x :: rest)) : J G pc L rest := by
  obtain ⟨p, e, R, s, m, args, below, meth, c, Q, cb, sb, rfl, ⟨hx, hb, hml, hown, hts⟩, hfr, hlo, hce, hsl, hB⟩ := hJ
  intro h1 h2 H locs ls hP hS hl
  exact lv_fload_n hx hb hd hi (hl.2.2.2 i _ hL) (k h1 h2 H locs ls hP hS hl)
theorem r_fload (hJ : jR l E own cc nL d n0 cap J) {i : Nat} {x : UInt32} (hd : decode cc pc = .ok (.fload i, 2)) (hL : L[i]? = some (some (.float x))) (k : J G (pc + 2) L (.float x :: rest)) : J G pc L rest := by
  obtain ⟨p, e, R, s, m, args, below, meth, c, Q, cb, sb, rfl, ⟨hx, hb, hml, hown, hts⟩, hfr, hlo, hce, hsl, hB⟩ := hJ
  intro h1 h2 H locs ls hP hS hl
  exact lv_fload hx hb hd (hl.2.2.2 i _ hL) (k h1 h2 H locs ls hP hS hl)
theorem r_fstore_n (hJ : jR l E own cc nL d n0 cap J) {q : Fin 4} {i : Nat} {x : UInt32} {L' : List (Option Value)} (hd : decode cc pc = .ok (.fstore_n q, 1)) (hi : (q : Nat) = i) (hp : lpt L i (.float x) L') (k : J G (pc + 1) L' rest) : J G pc L (.float x :: rest) := by
  obtain ⟨p, e, R, s, m, args, below, meth, c, Q, cb, sb, rfl, ⟨hx, hb, hml, hown, hts⟩, hfr, hlo, hce, hsl, hB⟩ := hJ
  intro h1 h2 H locs ls hP hS hl
  exact lv_fstore_n hx hb hd hi (lh_has hl) (hl.2.1 ▸ hp.2.1) rfl (fun ls' hl' => k h1 h2 H locs ls' hP hS (lh_put1 hl.2.1 rfl hp hl'))
theorem r_fstore (hJ : jR l E own cc nL d n0 cap J) {i : Nat} {x : UInt32} {L' : List (Option Value)} (hd : decode cc pc = .ok (.fstore i, 2)) (hp : lpt L i (.float x) L') (k : J G (pc + 2) L' rest) : J G pc L (.float x :: rest) := by
  obtain ⟨p, e, R, s, m, args, below, meth, c, Q, cb, sb, rfl, ⟨hx, hb, hml, hown, hts⟩, hfr, hlo, hce, hsl, hB⟩ := hJ
  intro h1 h2 H locs ls hP hS hl
  exact lv_fstore hx hb hd (lh_has hl) (hl.2.1 ▸ hp.2.1) rfl (fun ls' hl' => k h1 h2 H locs ls' hP hS (lh_put1 hl.2.1 rfl hp hl'))
theorem r_dload_n (hJ : jR l E own cc nL d n0 cap J) {q : Fin 4} {i : Nat} {x : UInt64} (hd : decode cc pc = .ok (.dload_n q, 1)) (hi : (q : Nat) = i) (hL : L[i]? = some (some (.double x))) (k : J G (pc + 1) L (.double x :: rest)) : J G pc L rest := by
  obtain ⟨p, e, R, s, m, args, below, meth, c, Q, cb, sb, rfl, ⟨hx, hb, hml, hown, hts⟩, hfr, hlo, hce, hsl, hB⟩ := hJ
  intro h1 h2 H locs ls hP hS hl
  exact lv_dload_n hx hb hd hi (hl.2.2.2 i _ hL) (k h1 h2 H locs ls hP hS hl)
theorem r_dload (hJ : jR l E own cc nL d n0 cap J) {i : Nat} {x : UInt64} (hd : decode cc pc = .ok (.dload i, 2)) (hL : L[i]? = some (some (.double x))) (k : J G (pc + 2) L (.double x :: rest)) : J G pc L rest := by
  obtain ⟨p, e, R, s, m, args, below, meth, c, Q, cb, sb, rfl, ⟨hx, hb, hml, hown, hts⟩, hfr, hlo, hce, hsl, hB⟩ := hJ
  intro h1 h2 H locs ls hP hS hl
  exact lv_dload hx hb hd (hl.2.2.2 i _ hL) (k h1 h2 H locs ls hP hS hl)
theorem r_dstore_n (hJ : jR l E own cc nL d n0 cap J) {q : Fin 4} {i : Nat} {x : UInt64} {L' : List (Option Value)} (hd : decode cc pc = .ok (.dstore_n q, 1)) (hi : (q : Nat) = i) (hp : lpt L i (.double x) L') (k : J G (pc + 1) L' rest) : J G pc L (.double x :: rest) := by
  obtain ⟨p, e, R, s, m, args, below, meth, c, Q, cb, sb, rfl, ⟨hx, hb, hml, hown, hts⟩, hfr, hlo, hce, hsl, hB⟩ := hJ
  intro h1 h2 H locs ls hP hS hl
  exact lv_dstore_n hx hb hd hi (lh_has hl) (hl.2.1 ▸ hp.2.2.1 rfl) rfl (fun ls' hl' => k h1 h2 H locs ls' hP hS (lh_put2 hl.2.1 rfl hp hl'))
theorem r_dstore (hJ : jR l E own cc nL d n0 cap J) {i : Nat} {x : UInt64} {L' : List (Option Value)} (hd : decode cc pc = .ok (.dstore i, 2)) (hp : lpt L i (.double x) L') (k : J G (pc + 2) L' rest) : J G pc L (.double x :: rest) := by
  obtain ⟨p, e, R, s, m, args, below, meth, c, Q, cb, sb, rfl, ⟨hx, hb, hml, hown, hts⟩, hfr, hlo, hce, hsl, hB⟩ := hJ
  intro h1 h2 H locs ls hP hS hl
  exact lv_dstore hx hb hd (lh_has hl) (hl.2.1 ▸ hp.2.2.1 rfl) rfl (fun ls' hl' => k h1 h2 H locs ls' hP hS (lh_put2 hl.2.1 rfl hp hl'))
theorem r_iinc (hJ : jR l E own cc nL d n0 cap J) {i : Nat} {n : Int} {x v : Int32} {L' : List (Option Value)} (hd : decode cc pc = .ok (.iinc i n, 3)) (hL : L[i]? = some (some (.int x))) (hv : x + Int32.ofInt n = v) (hp : lpt L i (.int v) L') (k : J G (pc + 3) L' rest) : J G pc L rest := by
  obtain ⟨p, e, R, s, m, args, below, meth, c, Q, cb, sb, rfl, ⟨hx, hb, hml, hown, hts⟩, hfr, hlo, hce, hsl, hB⟩ := hJ
  intro h1 h2 H locs ls hP hS hl
  obtain ⟨kk, hk⟩ := List.getElem?_of_mem ((lprs_mem L 0 (i, .int x)).mpr ⟨i, by simp, hL⟩)
  exact lv_iinc hx hb hd (lh_has hl) (k := kk) hk hv (hl.2.1 ▸ hp.2.1) rfl (fun ls' hl' => k h1 h2 H locs ls' hP hS (lh_put1 hl.2.1 rfl hp hl'))
theorem r_iadd (hJ : jR l E own cc nL d n0 cap J) {x y : Int32} (hd : decode cc pc = .ok (.iadd, 1)) (k : J G (pc + 1) L (.int (x + y) :: rest)) : J G pc L (.int y :: .int x :: rest) := by
  obtain ⟨p, e, R, s, m, args, below, meth, c, Q, cb, sb, rfl, ⟨hx, hb, hml, hown, hts⟩, hfr, hlo, hce, hsl, hB⟩ := hJ
  intro h1 h2 H locs ls hP hS hl
  exact lv_iadd hx hb hd (k h1 h2 H locs ls hP hS hl)
theorem r_isub (hJ : jR l E own cc nL d n0 cap J) {x y : Int32} (hd : decode cc pc = .ok (.isub, 1)) (k : J G (pc + 1) L (.int (x - y) :: rest)) : J G pc L (.int y :: .int x :: rest) := by
  obtain ⟨p, e, R, s, m, args, below, meth, c, Q, cb, sb, rfl, ⟨hx, hb, hml, hown, hts⟩, hfr, hlo, hce, hsl, hB⟩ := hJ
  intro h1 h2 H locs ls hP hS hl
  exact lv_isub hx hb hd (k h1 h2 H locs ls hP hS hl)
theorem r_imul (hJ : jR l E own cc nL d n0 cap J) {x y : Int32} (hd : decode cc pc = .ok (.imul, 1)) (k : J G (pc + 1) L (.int (x * y) :: rest)) : J G pc L (.int y :: .int x :: rest) := by
  obtain ⟨p, e, R, s, m, args, below, meth, c, Q, cb, sb, rfl, ⟨hx, hb, hml, hown, hts⟩, hfr, hlo, hce, hsl, hB⟩ := hJ
  intro h1 h2 H locs ls hP hS hl
  exact lv_imul hx hb hd (k h1 h2 H locs ls hP hS hl)
theorem r_iand (hJ : jR l E own cc nL d n0 cap J) {x y : Int32} (hd : decode cc pc = .ok (.iand, 1)) (k : J G (pc + 1) L (.int (x &&& y) :: rest)) : J G pc L (.int y :: .int x :: rest) := by
  obtain ⟨p, e, R, s, m, args, below, meth, c, Q, cb, sb, rfl, ⟨hx, hb, hml, hown, hts⟩, hfr, hlo, hce, hsl, hB⟩ := hJ
  intro h1 h2 H locs ls hP hS hl
  exact lv_iand hx hb hd (k h1 h2 H locs ls hP hS hl)
theorem r_ladd (hJ : jR l E own cc nL d n0 cap J) {x y : Int64} (hd : decode cc pc = .ok (.ladd, 1)) (k : J G (pc + 1) L (.long (x + y) :: rest)) : J G pc L (.long y :: .long x :: rest) := by
  obtain ⟨p, e, R, s, m, args, below, meth, c, Q, cb, sb, rfl, ⟨hx, hb, hml, hown, hts⟩, hfr, hlo, hce, hsl, hB⟩ := hJ
  intro h1 h2 H locs ls hP hS hl
  exact lv_ladd hx hb hd (k h1 h2 H locs ls hP hS hl)
theorem r_lsub (hJ : jR l E own cc nL d n0 cap J) {x y : Int64} (hd : decode cc pc = .ok (.lsub, 1)) (k : J G (pc + 1) L (.long (x - y) :: rest)) : J G pc L (.long y :: .long x :: rest) := by
  obtain ⟨p, e, R, s, m, args, below, meth, c, Q, cb, sb, rfl, ⟨hx, hb, hml, hown, hts⟩, hfr, hlo, hce, hsl, hB⟩ := hJ
  intro h1 h2 H locs ls hP hS hl
  exact lv_lsub hx hb hd (k h1 h2 H locs ls hP hS hl)
theorem r_lmul (hJ : jR l E own cc nL d n0 cap J) {x y : Int64} (hd : decode cc pc = .ok (.lmul, 1)) (k : J G (pc + 1) L (.long (x * y) :: rest)) : J G pc L (.long y :: .long x :: rest) := by
  obtain ⟨p, e, R, s, m, args, below, meth, c, Q, cb, sb, rfl, ⟨hx, hb, hml, hown, hts⟩, hfr, hlo, hce, hsl, hB⟩ := hJ
  intro h1 h2 H locs ls hP hS hl
  exact lv_lmul hx hb hd (k h1 h2 H locs ls hP hS hl)
theorem r_i2l (hJ : jR l E own cc nL d n0 cap J) {x : Int32} {v : Int64} (hd : decode cc pc = .ok (.i2l, 1)) (hv : x.toInt64 = v) (k : J G (pc + 1) L (.long v :: rest)) : J G pc L (.int x :: rest) := by
  obtain ⟨p, e, R, s, m, args, below, meth, c, Q, cb, sb, rfl, ⟨hx, hb, hml, hown, hts⟩, hfr, hlo, hce, hsl, hB⟩ := hJ
  intro h1 h2 H locs ls hP hS hl
  exact lv_i2l hx hb hd hv (k h1 h2 H locs ls hP hS hl)
theorem r_dup (hJ : jR l E own cc nL d n0 cap J) {va : Value} (hd : decode cc pc = .ok (.dup, 1)) (hva : va.category = 1) (k : J G (pc + 1) L (va :: va :: rest)) : J G pc L (va :: rest) := by
  obtain ⟨p, e, R, s, m, args, below, meth, c, Q, cb, sb, rfl, ⟨hx, hb, hml, hown, hts⟩, hfr, hlo, hce, hsl, hB⟩ := hJ
  intro h1 h2 H locs ls hP hS hl
  exact lv_dup hx hb hd hva (k h1 h2 H locs ls hP hS hl)
theorem r_pop (hJ : jR l E own cc nL d n0 cap J) {va : Value} (hd : decode cc pc = .ok (.pop, 1)) (hva : va.category = 1) (k : J G (pc + 1) L (rest)) : J G pc L (va :: rest) := by
  obtain ⟨p, e, R, s, m, args, below, meth, c, Q, cb, sb, rfl, ⟨hx, hb, hml, hown, hts⟩, hfr, hlo, hce, hsl, hB⟩ := hJ
  intro h1 h2 H locs ls hP hS hl
  exact lv_pop hx hb hd hva (k h1 h2 H locs ls hP hS hl)
theorem r_dup2_11 (hJ : jR l E own cc nL d n0 cap J) {va vb : Value} (hd : decode cc pc = .ok (.dup2, 1)) (hva : va.category = 1) (hvb : vb.category = 1) (k : J G (pc + 1) L (va :: vb :: va :: vb :: rest)) : J G pc L (va :: vb :: rest) := by
  obtain ⟨p, e, R, s, m, args, below, meth, c, Q, cb, sb, rfl, ⟨hx, hb, hml, hown, hts⟩, hfr, hlo, hce, hsl, hB⟩ := hJ
  intro h1 h2 H locs ls hP hS hl
  exact lv_dup2_11 hx hb hd hva hvb (k h1 h2 H locs ls hP hS hl)
theorem r_ishl (hJ : jR l E own cc nL d n0 cap J) {x y : Int32} (hd : decode cc pc = .ok (.ishl, 1)) (k : J G (pc + 1) L (.int (x <<< (y &&& 31)) :: rest)) : J G pc L (.int y :: .int x :: rest) := by
  obtain ⟨p, e, R, s, m, args, below, meth, c, Q, cb, sb, rfl, ⟨hx, hb, hml, hown, hts⟩, hfr, hlo, hce, hsl, hB⟩ := hJ
  intro h1 h2 H locs ls hP hS hl
  exact lv_ishl hx hb hd (k h1 h2 H locs ls hP hS hl)
theorem r_null (hJ : jR l E own cc nL d n0 cap J) (hd : decode cc pc = .ok (.aconst_null, 1)) (k : J G (pc + 1) L (.null :: rest)) : J G pc L (rest) := by
  obtain ⟨p, e, R, s, m, args, below, meth, c, Q, cb, sb, rfl, ⟨hx, hb, hml, hown, hts⟩, hfr, hlo, hce, hsl, hB⟩ := hJ
  intro h1 h2 H locs ls hP hS hl
  exact lv_null hx hb hd (k h1 h2 H locs ls hP hS hl)
theorem r_if_eq (hJ : jR l E own cc nL d n0 cap J) {x : Int32} {off : Int} {tgt : Nat} (hd : decode cc pc = .ok (.ifCond .eq off, 3)) (ht : (pc : Int) + off = (tgt : Int)) (kt : x = 0 → J G tgt L rest) (kf : ¬ x = 0 → J G (pc + 3) L rest) : J G pc L (.int x :: rest) := by
  obtain ⟨p, e, R, s, m, args, below, meth, c, Q, cb, sb, rfl, ⟨hx, hb, hml, hown, hts⟩, hfr, hlo, hce, hsl, hB⟩ := hJ
  intro h1 h2 H locs ls hP hS hl
  exact lv_if_eq hx hb hd ht (fun q => kt q h1 h2 H locs ls hP hS hl) (fun q => kf q h1 h2 H locs ls hP hS hl)
theorem r_icmp_eq (hJ : jR l E own cc nL d n0 cap J) {x y : Int32} {off : Int} {tgt : Nat} (hd : decode cc pc = .ok (.if_icmp .eq off, 3)) (ht : (pc : Int) + off = (tgt : Int)) (kt : x = y → J G tgt L rest) (kf : ¬ x = y → J G (pc + 3) L rest) : J G pc L (.int y :: .int x :: rest) := by
  obtain ⟨p, e, R, s, m, args, below, meth, c, Q, cb, sb, rfl, ⟨hx, hb, hml, hown, hts⟩, hfr, hlo, hce, hsl, hB⟩ := hJ
  intro h1 h2 H locs ls hP hS hl
  exact lv_icmp_eq hx hb hd ht (fun q => kt q h1 h2 H locs ls hP hS hl) (fun q => kf q h1 h2 H locs ls hP hS hl)
theorem r_if_ne (hJ : jR l E own cc nL d n0 cap J) {x : Int32} {off : Int} {tgt : Nat} (hd : decode cc pc = .ok (.ifCond .ne off, 3)) (ht : (pc : Int) + off = (tgt : Int)) (kt : ¬ x = 0 → J G tgt L rest) (kf : x = 0 → J G (pc + 3) L rest) : J G pc L (.int x :: rest) := by
  obtain ⟨p, e, R, s, m, args, below, meth, c, Q, cb, sb, rfl, ⟨hx, hb, hml, hown, hts⟩, hfr, hlo, hce, hsl, hB⟩ := hJ
  intro h1 h2 H locs ls hP hS hl
  exact lv_if_ne hx hb hd ht (fun q => kt q h1 h2 H locs ls hP hS hl) (fun q => kf q h1 h2 H locs ls hP hS hl)
theorem r_icmp_ne (hJ : jR l E own cc nL d n0 cap J) {x y : Int32} {off : Int} {tgt : Nat} (hd : decode cc pc = .ok (.if_icmp .ne off, 3)) (ht : (pc : Int) + off = (tgt : Int)) (kt : ¬ x = y → J G tgt L rest) (kf : x = y → J G (pc + 3) L rest) : J G pc L (.int y :: .int x :: rest) := by
  obtain ⟨p, e, R, s, m, args, below, meth, c, Q, cb, sb, rfl, ⟨hx, hb, hml, hown, hts⟩, hfr, hlo, hce, hsl, hB⟩ := hJ
  intro h1 h2 H locs ls hP hS hl
  exact lv_icmp_ne hx hb hd ht (fun q => kt q h1 h2 H locs ls hP hS hl) (fun q => kf q h1 h2 H locs ls hP hS hl)
theorem r_if_lt (hJ : jR l E own cc nL d n0 cap J) {x : Int32} {off : Int} {tgt : Nat} (hd : decode cc pc = .ok (.ifCond .lt off, 3)) (ht : (pc : Int) + off = (tgt : Int)) (kt : x < 0 → J G tgt L rest) (kf : ¬ x < 0 → J G (pc + 3) L rest) : J G pc L (.int x :: rest) := by
  obtain ⟨p, e, R, s, m, args, below, meth, c, Q, cb, sb, rfl, ⟨hx, hb, hml, hown, hts⟩, hfr, hlo, hce, hsl, hB⟩ := hJ
  intro h1 h2 H locs ls hP hS hl
  exact lv_if_lt hx hb hd ht (fun q => kt q h1 h2 H locs ls hP hS hl) (fun q => kf q h1 h2 H locs ls hP hS hl)
theorem r_icmp_lt (hJ : jR l E own cc nL d n0 cap J) {x y : Int32} {off : Int} {tgt : Nat} (hd : decode cc pc = .ok (.if_icmp .lt off, 3)) (ht : (pc : Int) + off = (tgt : Int)) (kt : x < y → J G tgt L rest) (kf : ¬ x < y → J G (pc + 3) L rest) : J G pc L (.int y :: .int x :: rest) := by
  obtain ⟨p, e, R, s, m, args, below, meth, c, Q, cb, sb, rfl, ⟨hx, hb, hml, hown, hts⟩, hfr, hlo, hce, hsl, hB⟩ := hJ
  intro h1 h2 H locs ls hP hS hl
  exact lv_icmp_lt hx hb hd ht (fun q => kt q h1 h2 H locs ls hP hS hl) (fun q => kf q h1 h2 H locs ls hP hS hl)
theorem r_if_ge (hJ : jR l E own cc nL d n0 cap J) {x : Int32} {off : Int} {tgt : Nat} (hd : decode cc pc = .ok (.ifCond .ge off, 3)) (ht : (pc : Int) + off = (tgt : Int)) (kt : 0 ≤ x → J G tgt L rest) (kf : ¬ 0 ≤ x → J G (pc + 3) L rest) : J G pc L (.int x :: rest) := by
  obtain ⟨p, e, R, s, m, args, below, meth, c, Q, cb, sb, rfl, ⟨hx, hb, hml, hown, hts⟩, hfr, hlo, hce, hsl, hB⟩ := hJ
  intro h1 h2 H locs ls hP hS hl
  exact lv_if_ge hx hb hd ht (fun q => kt q h1 h2 H locs ls hP hS hl) (fun q => kf q h1 h2 H locs ls hP hS hl)
theorem r_icmp_ge (hJ : jR l E own cc nL d n0 cap J) {x y : Int32} {off : Int} {tgt : Nat} (hd : decode cc pc = .ok (.if_icmp .ge off, 3)) (ht : (pc : Int) + off = (tgt : Int)) (kt : y ≤ x → J G tgt L rest) (kf : ¬ y ≤ x → J G (pc + 3) L rest) : J G pc L (.int y :: .int x :: rest) := by
  obtain ⟨p, e, R, s, m, args, below, meth, c, Q, cb, sb, rfl, ⟨hx, hb, hml, hown, hts⟩, hfr, hlo, hce, hsl, hB⟩ := hJ
  intro h1 h2 H locs ls hP hS hl
  exact lv_icmp_ge hx hb hd ht (fun q => kt q h1 h2 H locs ls hP hS hl) (fun q => kf q h1 h2 H locs ls hP hS hl)
theorem r_if_gt (hJ : jR l E own cc nL d n0 cap J) {x : Int32} {off : Int} {tgt : Nat} (hd : decode cc pc = .ok (.ifCond .gt off, 3)) (ht : (pc : Int) + off = (tgt : Int)) (kt : 0 < x → J G tgt L rest) (kf : ¬ 0 < x → J G (pc + 3) L rest) : J G pc L (.int x :: rest) := by
  obtain ⟨p, e, R, s, m, args, below, meth, c, Q, cb, sb, rfl, ⟨hx, hb, hml, hown, hts⟩, hfr, hlo, hce, hsl, hB⟩ := hJ
  intro h1 h2 H locs ls hP hS hl
  exact lv_if_gt hx hb hd ht (fun q => kt q h1 h2 H locs ls hP hS hl) (fun q => kf q h1 h2 H locs ls hP hS hl)
theorem r_icmp_gt (hJ : jR l E own cc nL d n0 cap J) {x y : Int32} {off : Int} {tgt : Nat} (hd : decode cc pc = .ok (.if_icmp .gt off, 3)) (ht : (pc : Int) + off = (tgt : Int)) (kt : y < x → J G tgt L rest) (kf : ¬ y < x → J G (pc + 3) L rest) : J G pc L (.int y :: .int x :: rest) := by
  obtain ⟨p, e, R, s, m, args, below, meth, c, Q, cb, sb, rfl, ⟨hx, hb, hml, hown, hts⟩, hfr, hlo, hce, hsl, hB⟩ := hJ
  intro h1 h2 H locs ls hP hS hl
  exact lv_icmp_gt hx hb hd ht (fun q => kt q h1 h2 H locs ls hP hS hl) (fun q => kf q h1 h2 H locs ls hP hS hl)
theorem r_if_le (hJ : jR l E own cc nL d n0 cap J) {x : Int32} {off : Int} {tgt : Nat} (hd : decode cc pc = .ok (.ifCond .le off, 3)) (ht : (pc : Int) + off = (tgt : Int)) (kt : x ≤ 0 → J G tgt L rest) (kf : ¬ x ≤ 0 → J G (pc + 3) L rest) : J G pc L (.int x :: rest) := by
  obtain ⟨p, e, R, s, m, args, below, meth, c, Q, cb, sb, rfl, ⟨hx, hb, hml, hown, hts⟩, hfr, hlo, hce, hsl, hB⟩ := hJ
  intro h1 h2 H locs ls hP hS hl
  exact lv_if_le hx hb hd ht (fun q => kt q h1 h2 H locs ls hP hS hl) (fun q => kf q h1 h2 H locs ls hP hS hl)
theorem r_icmp_le (hJ : jR l E own cc nL d n0 cap J) {x y : Int32} {off : Int} {tgt : Nat} (hd : decode cc pc = .ok (.if_icmp .le off, 3)) (ht : (pc : Int) + off = (tgt : Int)) (kt : x ≤ y → J G tgt L rest) (kf : ¬ x ≤ y → J G (pc + 3) L rest) : J G pc L (.int y :: .int x :: rest) := by
  obtain ⟨p, e, R, s, m, args, below, meth, c, Q, cb, sb, rfl, ⟨hx, hb, hml, hown, hts⟩, hfr, hlo, hce, hsl, hB⟩ := hJ
  intro h1 h2 H locs ls hP hS hl
  exact lv_icmp_le hx hb hd ht (fun q => kt q h1 h2 H locs ls hP hS hl) (fun q => kf q h1 h2 H locs ls hP hS hl)
theorem r_goto (hJ : jR l E own cc nL d n0 cap J) {off : Int} {tgt : Nat} (hd : decode cc pc = .ok (.goto off, 3)) (ht : (pc : Int) + off = (tgt : Int)) (k : J G tgt L rest) : J G pc L rest := by
  obtain ⟨p, e, R, s, m, args, below, meth, c, Q, cb, sb, rfl, ⟨hx, hb, hml, hown, hts⟩, hfr, hlo, hce, hsl, hB⟩ := hJ
  intro h1 h2 H locs ls hP hS hl
  exact lv_goto hx hb hd ht (k h1 h2 H locs ls hP hS hl)
theorem r_tableOut (hJ : jR l E own cc nL d n0 cap J) {dflt lo hi : Int} {offs : Array Int} {len : Nat} {x : Int32} {tgt : Nat} (hd : decode cc pc = .ok (.tableswitch dflt lo hi offs, len)) (h : x.toInt < lo ∨ hi < x.toInt) (ht : (pc : Int) + dflt = (tgt : Int)) (k : J G tgt L rest) : J G pc L (.int x :: rest) := by
  obtain ⟨p, e, R, s, m, args, below, meth, c, Q, cb, sb, rfl, ⟨hx, hb, hml, hown, hts⟩, hfr, hlo, hce, hsl, hB⟩ := hJ
  intro h1 h2 H locs ls hP hS hl
  exact lv_tableOut hx hb hd h ht (k h1 h2 H locs ls hP hS hl)
theorem r_tableIn (hJ : jR l E own cc nL d n0 cap J) {dflt lo hi : Int} {offs : Array Int} {len : Nat} {x : Int32} {off : Int} {tgt : Nat} (hd : decode cc pc = .ok (.tableswitch dflt lo hi offs, len)) (g1 : ¬ x.toInt < lo) (g2 : ¬ hi < x.toInt) (ho : offs[(x.toInt - lo).toNat]? = some off) (ht : (pc : Int) + off = (tgt : Int)) (k : J G tgt L rest) : J G pc L (.int x :: rest) := by
  obtain ⟨p, e, R, s, m, args, below, meth, c, Q, cb, sb, rfl, ⟨hx, hb, hml, hown, hts⟩, hfr, hlo, hce, hsl, hB⟩ := hJ
  intro h1 h2 H locs ls hP hS hl
  exact lv_tableIn hx hb hd g1 g2 ho ht (k h1 h2 H locs ls hP hS hl)
theorem r_lookup (hJ : jR l E own cc nL d n0 cap J) {dflt : Int} {ps : Array (Int × Int)} {len : Nat} {x : Int32} {off : Int} {tgt : Nat} (hd : decode cc pc = .ok (.lookupswitch dflt ps, len)) (hp : (ps.toList.zip (ps.toList.drop 1)).all (fun (a, next) => a.1 < next.1) = true) (ho : Op.lookupswitch.offset ps.toList dflt x.toInt = off) (ht : (pc : Int) + off = (tgt : Int)) (k : J G tgt L rest) : J G pc L (.int x :: rest) := by
  obtain ⟨p, e, R, s, m, args, below, meth, c, Q, cb, sb, rfl, ⟨hx, hb, hml, hown, hts⟩, hfr, hlo, hce, hsl, hB⟩ := hJ
  intro h1 h2 H locs ls hP hS hl
  exact lv_lookup hx hb hd hp ho ht (k h1 h2 H locs ls hP hS hl)
theorem r_ifnull (hJ : jR l E own cc nL d n0 cap J) {x : Nat} {off : Int} (hd : decode cc pc = .ok (.ifnull off, 3)) (k : J G (pc + 3) L rest) : J G pc L (.ref x :: rest) := by
  obtain ⟨p, e, R, s, m, args, below, meth, c, Q, cb, sb, rfl, ⟨hx, hb, hml, hown, hts⟩, hfr, hlo, hce, hsl, hB⟩ := hJ
  intro h1 h2 H locs ls hP hS hl
  exact lv_ifnull hx hb hd (k h1 h2 H locs ls hP hS hl)
theorem r_topi {x : Int32} (k : ∀ y : Int32, y = x → J G pc L (.int y :: rest)) : J G pc L (.int x :: rest) := k x rfl
theorem aln_le (o j : Nat) : aln o j ≤ 4800 := by
  unfold aln
  repeat' split
  all_goals omega
theorem r_iald (hJ : jR l E own cc nL d n0 cap J) {S : jS} {x : jX} {o j n : Nat} {i : Int32} (ho : o < 13) (hn : n < aln o j) (hi : i = nI n) (hd : decode cc pc = .ok (.iaload, 1)) (k : J (S, x) (pc + 1) L (.int (S o j n) :: rest)) : J (S, x) pc L (.int i :: .ref (ad E o j) :: rest) := by
  obtain ⟨p, e, R, s, m, args, below, meth, c, Q, cb, sb, rfl, ⟨hx, hb, hml, hown, hts⟩, hfr, hlo, hce, hsl, hB⟩ := hJ
  intro h1 h2 H locs ls hP hS hl
  have ha := aln_le o j
  subst hi
  refine va_iald (D := E.2.1) (ws := wld E (S, x)) hx hb hB.1 hP (bas o + j) 0 (by rw [wld_get E S x ho (aln_wid o ho j (by omega)), cel_arr (by omega)]) rfl (vp_in_nI hn (by omega)) hd ?_
  rw [nI_clamp (by omega)]
  exact k h1 h2 H locs ls hP hS hl
theorem r_iast (hJ : jR l E own cc nL d n0 cap J) {S : jS} {x : jX} {o j n : Nat} {P : jO} {i v : Int32} (ho : o < 13) (hn : n < aln o j) (hi : i = nI n) (hd : decode cc pc = .ok (.iastore, 1)) (k : J (setO S o (put P j n v), x) (pc + 1) L rest) : J (setO S o P, x) pc L (.int v :: .int i :: .ref (ad E o j) :: rest) := by
  obtain ⟨p, e, R, s, m, args, below, meth, c, Q, cb, sb, rfl, ⟨hx, hb, hml, hown, hts⟩, hfr, hlo, hce, hsl, hB⟩ := hJ
  intro h1 h2 H locs ls hP hS hl
  have ha := aln_le o j
  subst hi
  refine va_iast (D := E.2.1) (A := jA E) (ws := wld E (setO S o P, x)) (f := P j) hx hb hB.1 hP (wld_D E _) hS (bas o + j) 0 (by rw [wld_get E _ x ho (aln_wid o ho j (by omega)), cel_arr (by omega), setO_at]) rfl (vp_in_nI hn (by omega)) hd (fun H1 locs1 hP1 _ hS1 => ?_)
  rw [nI_clamp (by omega), wld_arr E S x ho (by omega)] at hP1
  exact k h1 h2 H1 locs1 ls hP1 hS1 hl
theorem r_ialdO (hJ : jR l E own cc nL d n0 cap J) {S : jS} {x : jX} {o j n : Nat} {P : jO} {i : Int32} (ho : o < 13) (hn : n < aln o j) (hi : i = nI n) (hd : decode cc pc = .ok (.iaload, 1)) (k : J (setO S o P, x) (pc + 1) L (.int (P j n) :: rest)) : J (setO S o P, x) pc L (.int i :: .ref (ad E o j) :: rest) :=
  r_iald hJ ho hn hi hd (by rw [setO_at]; exact k)
theorem r_alen (hJ : jR l E own cc nL d n0 cap J) {S : jS} {x : jX} {o j : Nat} {v : Int32} (ho : o < 13) (hn : 0 < aln o j) (hv : nI (aln o j) = v) (hd : decode cc pc = .ok (.arraylength, 1)) (k : J (S, x) (pc + 1) L (.int v :: rest)) : J (S, x) pc L (.ref (ad E o j) :: rest) := by
  obtain ⟨p, e, R, s, m, args, below, meth, c, Q, cb, sb, rfl, ⟨hx, hb, hml, hown, hts⟩, hfr, hlo, hce, hsl, hB⟩ := hJ
  intro h1 h2 H locs ls hP hS hl
  exact va_alen (D := E.2.1) (ws := wld E (S, x)) hx hb hB.1 hP (bas o + j) 0 (by rw [wld_get E S x ho (aln_wid o ho j hn), cel_arr hn]) (x := (aln o j, .inl (S o j))) (ty := .int) rfl hv hd (k h1 h2 H locs ls hP hS hl)
theorem r_get (hJ : jR l E own cc nL d n0 cap J) {o ci kf N ix : Nat} {fs : List Value} {C : String} {T : u_T} {v : Value} (ho : o ≠ 10 ∧ o < 12) (hc : scal E G.2 o (G.1 o) 0 = .inr (ci, fs)) (hcl : vwCl[ci]? = some (C, T, N)) (hin : ∀ w ∈ u_ws C T N, w ∈ gw) (hk : kf < N) (hw : Cond.fieldLink own ix (T kf).1 (T kf).2.1 (T kf).2.2.1 ∈ gw) (hv : fs[kf]? = some v) (hd : decode cc pc = .ok (.getfield ix, 3)) (k : J G (pc + 3) L (v :: rest)) : J G pc L (.ref (ad E o 0) :: rest) := by
  obtain ⟨p, e, R, s, m, args, below, meth, c, Q, cb, sb, rfl, ⟨hx, hb, hml, hown, hts⟩, hfr, hlo, hce, hsl, hB⟩ := hJ
  intro h1 h2 H locs ls hP hS hl
  obtain ⟨S, x⟩ := G
  have hwd : 0 < wid o := by
    unfold wid
    repeat' split
    all_goals omega
  exact va_get (D := E.2.1) (ws := wld E (S, x)) hx hb hts hin hown hB.1 hP (bas o + 0) (by rw [wld_get E S x (by omega) hwd, cel_0, hc]) hcl kf hk (hts _ hw) (fun _ h => h) hv hd (k h1 h2 H locs ls hP hS hl)
theorem r_put (hJ : jR l E own cc nL d n0 cap J) {S : jS} {x : jX} {P : jO} {o ci kf N ix i : Nat} {fs fs' : List Value} {C : String} {T : u_T} {ty : Nat → FieldType} {t : FieldType} {v : Int32} (ho : o ≠ 10 ∧ o < 12) (hc : scal E x o P 0 = .inr (ci, fs)) (hc' : scal E x o (put P 0 i v) 0 = .inr (ci, fs')) (hcl : vwCl[ci]? = some (C, T, N)) (hin : ∀ w ∈ u_ws C T N, w ∈ gw) (hty : ∀ k, k < N → parseFieldDescriptor (T k).2.2.1 = some (ty k)) (hnm : ∀ a, a < N → ∀ b, b < N → a ≠ b → (T a).2.1 ≠ (T b).2.1) (hk : kf < N) (hw : Cond.fieldLink own ix (T kf).1 (T kf).2.1 (T kf).2.2.1 ∈ gw) (hfin : (T kf).2.2.2 = false) (hdd : parseFieldDescriptor (T kf).2.2.1 = some t) (hnr : narrow t (.int v) = .int v) (hft : fits t (.int v) = true) (hlen : kf < fs.length) (hfs : fs.set kf (.int v) = fs') (hd : decode cc pc = .ok (.putfield ix, 3)) (k : J (setO S o (put P 0 i v), x) (pc + 3) L rest) : J (setO S o P, x) pc L (.int v :: .ref (ad E o 0) :: rest) := by
  obtain ⟨p, e, R, s, m, args, below, meth, c, Q, cb, sb, rfl, ⟨hx, hb, hml, hown, hts⟩, hfr, hlo, hce, hsl, hB⟩ := hJ
  intro h1 h2 H locs ls hP hS hl
  have hwd : 0 < wid o := by
    unfold wid
    repeat' split
    all_goals omega
  refine va_put (D := E.2.1) (A := jA E) (ws := wld E (setO S o P, x)) (fs := fs) hx hb hts hin ty hty hnm hown hB.1 hP (wld_D E _) hS (bas o + 0) (by rw [wld_get E _ x (by omega) hwd, cel_0, setO_at, hc]) hcl kf hk (hts _ hw) (fun _ h => h) hfin hdd hnr hft hlen hd (fun H1 locs1 hP1 _ hS1 => ?_)
  rw [hfs, wld_fld E S x ho P i v _ hc'] at hP1
  exact k h1 h2 H1 locs1 ls hP1 hS1 hl
theorem r_getsL (hJ : jR l E own cc nL d n0 cap J) {ix : Nat} (hw : Cond.fieldLink own ix "NumberLeases" "LEAST_SETTING" "[I" ∈ gw) (hd : decode cc pc = .ok (.getstatic ix, 3)) (k : J G (pc + 3) L (.ref E.2.2.2.1 :: rest)) : J G pc L rest := by
  obtain ⟨p, e, R, s, m, args, below, meth, c, Q, cb, sb, rfl, ⟨hx, hb, hml, hown, hts⟩, hfr, hlo, hce, hsl, hB⟩ := hJ
  intro h1 h2 H locs ls hP hS hl
  exact va_gets hx hb hB.2.2.2.1 hS hown (hts _ hw) (fun _ h => h) hd (k h1 h2 H locs ls hP hS hl)
theorem r_getsM (hJ : jR l E own cc nL d n0 cap J) {ix : Nat} (hw : Cond.fieldLink own ix "NumberLeases" "MOST_SETTING" "[I" ∈ gw) (hd : decode cc pc = .ok (.getstatic ix, 3)) (k : J G (pc + 3) L (.ref E.2.2.2.2 :: rest)) : J G pc L rest := by
  obtain ⟨p, e, R, s, m, args, below, meth, c, Q, cb, sb, rfl, ⟨hx, hb, hml, hown, hts⟩, hfr, hlo, hce, hsl, hB⟩ := hJ
  intro h1 h2 H locs ls hP hS hl
  exact va_gets hx hb hB.2.2.2.2.1 hS hown (hts _ hw) (fun _ h => h) hd (k h1 h2 H locs ls hP hS hl)
theorem r_tabL (hJ : jR l E own cc nL d n0 cap J) {i : Int32} {n : Nat} (hi : i = nI n) (hn : n < 4) (hd : decode cc pc = .ok (.iaload, 1)) (k : J G (pc + 1) L (.int (lsS n) :: rest)) : J G pc L (.int i :: .ref E.2.2.2.1 :: rest) := by
  obtain ⟨p, e, R, s, m, args, below, meth, c, Q, cb, sb, rfl, ⟨hx, hb, hml, hown, hts⟩, hfr, hlo, hce, hsl, hB⟩ := hJ
  intro h1 h2 H locs ls hP hS hl
  subst hi
  exact va_ti hx hb hB.2.2.2.2.2.1 hS (vp_in_nI hn (by decide)) (v := .int (lsS n)) (by rw [nI_clamp (by omega)]) hd (k h1 h2 H locs ls hP hS hl)
theorem r_tabM (hJ : jR l E own cc nL d n0 cap J) {i : Int32} {n : Nat} (hi : i = nI n) (hn : n < 4) (hd : decode cc pc = .ok (.iaload, 1)) (k : J G (pc + 1) L (.int (msS n) :: rest)) : J G pc L (.int i :: .ref E.2.2.2.2 :: rest) := by
  obtain ⟨p, e, R, s, m, args, below, meth, c, Q, cb, sb, rfl, ⟨hx, hb, hml, hown, hts⟩, hfr, hlo, hce, hsl, hB⟩ := hJ
  intro h1 h2 H locs ls hP hS hl
  subst hi
  exact va_ti hx hb hB.2.2.2.2.2.2.1 hS (vp_in_nI hn (by decide)) (v := .int (msS n)) (by rw [nI_clamp (by omega)]) hd (k h1 h2 H locs ls hP hS hl)
theorem r_g1_0 (hJ : jR l E own cc nL d n0 cap J) {ix : Nat} (hw : Cond.fieldLink own ix "NumberLeases$Orders" "signs" "[I" ∈ gw) (hd : decode cc pc = .ok (.getfield ix, 3)) (k : J G (pc + 3) L (.ref (ad E 8 1) :: rest)) : J G pc L (.ref (ad E 8 0) :: rest) :=
  r_get hJ (ci := 0) (C := RX1) (T := TX1) (N := 8) (kf := 0) (by decide) (by simp [scal]; rfl) rfl iX1 (by decide) hw rfl hd k
theorem r_g1_1 (hJ : jR l E own cc nL d n0 cap J) {S : jS} {x : jX} {ix : Nat} (hw : Cond.fieldLink own ix "NumberLeases$Orders" "length" "I" ∈ gw) (hd : decode cc pc = .ok (.getfield ix, 3)) (k : J (S, x) (pc + 3) L (.int (S 8 0 0) :: rest)) : J (S, x) pc L (.ref (ad E 8 0) :: rest) :=
  r_get hJ (ci := 0) (C := RX1) (T := TX1) (N := 8) (kf := 1) (by decide) (by simp [scal]; rfl) rfl iX1 (by decide) hw rfl hd k
theorem r_g1_1O (hJ : jR l E own cc nL d n0 cap J) {S : jS} {x : jX} {P : jO} {ix : Nat} (hw : Cond.fieldLink own ix "NumberLeases$Orders" "length" "I" ∈ gw) (hd : decode cc pc = .ok (.getfield ix, 3)) (k : J (setO S 8 P, x) (pc + 3) L (.int (P 0 0) :: rest)) : J (setO S 8 P, x) pc L (.ref (ad E 8 0) :: rest) :=
  r_g1_1 hJ hw hd (by rw [setO_at]; exact k)
theorem r_p1_1 (hJ : jR l E own cc nL d n0 cap J) {S : jS} {x : jX} {P : jO} {v : Int32} {ix : Nat} (hw : Cond.fieldLink own ix "NumberLeases$Orders" "length" "I" ∈ gw) (hd : decode cc pc = .ok (.putfield ix, 3)) (k : J (setO S 8 (put P 0 0 v), x) (pc + 3) L rest) : J (setO S 8 P, x) pc L (.int v :: .ref (ad E 8 0) :: rest) :=
  r_put hJ (ci := 0) (C := RX1) (T := TX1) (N := 8) (kf := 1) (t := .int) (by decide) (by simp [scal]; rfl) (by simp [scal]; rfl) rfl iX1 tyX1_ok nmX1 (by decide) hw rfl (by decide +kernel) rfl rfl (by simp [poolF, ordF, savF]) (by simp [poolF, ordF, savF, put_app]) hd k
theorem r_g1_2 (hJ : jR l E own cc nL d n0 cap J) {S : jS} {x : jX} {ix : Nat} (hw : Cond.fieldLink own ix "NumberLeases$Orders" "at" "I" ∈ gw) (hd : decode cc pc = .ok (.getfield ix, 3)) (k : J (S, x) (pc + 3) L (.int (S 8 0 1) :: rest)) : J (S, x) pc L (.ref (ad E 8 0) :: rest) :=
  r_get hJ (ci := 0) (C := RX1) (T := TX1) (N := 8) (kf := 2) (by decide) (by simp [scal]; rfl) rfl iX1 (by decide) hw rfl hd k
theorem r_g1_2O (hJ : jR l E own cc nL d n0 cap J) {S : jS} {x : jX} {P : jO} {ix : Nat} (hw : Cond.fieldLink own ix "NumberLeases$Orders" "at" "I" ∈ gw) (hd : decode cc pc = .ok (.getfield ix, 3)) (k : J (setO S 8 P, x) (pc + 3) L (.int (P 0 1) :: rest)) : J (setO S 8 P, x) pc L (.ref (ad E 8 0) :: rest) :=
  r_g1_2 hJ hw hd (by rw [setO_at]; exact k)
theorem r_p1_2 (hJ : jR l E own cc nL d n0 cap J) {S : jS} {x : jX} {P : jO} {v : Int32} {ix : Nat} (hw : Cond.fieldLink own ix "NumberLeases$Orders" "at" "I" ∈ gw) (hd : decode cc pc = .ok (.putfield ix, 3)) (k : J (setO S 8 (put P 0 1 v), x) (pc + 3) L rest) : J (setO S 8 P, x) pc L (.int v :: .ref (ad E 8 0) :: rest) :=
  r_put hJ (ci := 0) (C := RX1) (T := TX1) (N := 8) (kf := 2) (t := .int) (by decide) (by simp [scal]; rfl) (by simp [scal]; rfl) rfl iX1 tyX1_ok nmX1 (by decide) hw rfl (by decide +kernel) rfl rfl (by simp [poolF, ordF, savF]) (by simp [poolF, ordF, savF, put_app]) hd k
theorem r_g1_3 (hJ : jR l E own cc nL d n0 cap J) {S : jS} {x : jX} {ix : Nat} (hw : Cond.fieldLink own ix "NumberLeases$Orders" "stopped" "Z" ∈ gw) (hd : decode cc pc = .ok (.getfield ix, 3)) (k : J (S, x) (pc + 3) L (.int (S 8 0 2) :: rest)) : J (S, x) pc L (.ref (ad E 8 0) :: rest) :=
  r_get hJ (ci := 0) (C := RX1) (T := TX1) (N := 8) (kf := 3) (by decide) (by simp [scal]; rfl) rfl iX1 (by decide) hw rfl hd k
theorem r_g1_3O (hJ : jR l E own cc nL d n0 cap J) {S : jS} {x : jX} {P : jO} {ix : Nat} (hw : Cond.fieldLink own ix "NumberLeases$Orders" "stopped" "Z" ∈ gw) (hd : decode cc pc = .ok (.getfield ix, 3)) (k : J (setO S 8 P, x) (pc + 3) L (.int (P 0 2) :: rest)) : J (setO S 8 P, x) pc L (.ref (ad E 8 0) :: rest) :=
  r_g1_3 hJ hw hd (by rw [setO_at]; exact k)
theorem r_p1_3 (hJ : jR l E own cc nL d n0 cap J) {S : jS} {x : jX} {P : jO} {v : Int32} {ix : Nat} (hz : narrow .boolean (.int v) = .int v ∧ fits .boolean (.int v) = true) (hw : Cond.fieldLink own ix "NumberLeases$Orders" "stopped" "Z" ∈ gw) (hd : decode cc pc = .ok (.putfield ix, 3)) (k : J (setO S 8 (put P 0 2 v), x) (pc + 3) L rest) : J (setO S 8 P, x) pc L (.int v :: .ref (ad E 8 0) :: rest) :=
  r_put hJ (ci := 0) (C := RX1) (T := TX1) (N := 8) (kf := 3) (t := .boolean) (by decide) (by simp [scal]; rfl) (by simp [scal]; rfl) rfl iX1 tyX1_ok nmX1 (by decide) hw rfl (by decide +kernel) hz.1 hz.2 (by simp [poolF, ordF, savF]) (by simp [poolF, ordF, savF, put_app]) hd k
theorem r_g1_4 (hJ : jR l E own cc nL d n0 cap J) {S : jS} {x : jX} {ix : Nat} (hw : Cond.fieldLink own ix "NumberLeases$Orders" "kind" "I" ∈ gw) (hd : decode cc pc = .ok (.getfield ix, 3)) (k : J (S, x) (pc + 3) L (.int (S 8 0 3) :: rest)) : J (S, x) pc L (.ref (ad E 8 0) :: rest) :=
  r_get hJ (ci := 0) (C := RX1) (T := TX1) (N := 8) (kf := 4) (by decide) (by simp [scal]; rfl) rfl iX1 (by decide) hw rfl hd k
theorem r_g1_4O (hJ : jR l E own cc nL d n0 cap J) {S : jS} {x : jX} {P : jO} {ix : Nat} (hw : Cond.fieldLink own ix "NumberLeases$Orders" "kind" "I" ∈ gw) (hd : decode cc pc = .ok (.getfield ix, 3)) (k : J (setO S 8 P, x) (pc + 3) L (.int (P 0 3) :: rest)) : J (setO S 8 P, x) pc L (.ref (ad E 8 0) :: rest) :=
  r_g1_4 hJ hw hd (by rw [setO_at]; exact k)
theorem r_p1_4 (hJ : jR l E own cc nL d n0 cap J) {S : jS} {x : jX} {P : jO} {v : Int32} {ix : Nat} (hw : Cond.fieldLink own ix "NumberLeases$Orders" "kind" "I" ∈ gw) (hd : decode cc pc = .ok (.putfield ix, 3)) (k : J (setO S 8 (put P 0 3 v), x) (pc + 3) L rest) : J (setO S 8 P, x) pc L (.int v :: .ref (ad E 8 0) :: rest) :=
  r_put hJ (ci := 0) (C := RX1) (T := TX1) (N := 8) (kf := 4) (t := .int) (by decide) (by simp [scal]; rfl) (by simp [scal]; rfl) rfl iX1 tyX1_ok nmX1 (by decide) hw rfl (by decide +kernel) rfl rfl (by simp [poolF, ordF, savF]) (by simp [poolF, ordF, savF, put_app]) hd k
theorem r_g1_5 (hJ : jR l E own cc nL d n0 cap J) {S : jS} {x : jX} {ix : Nat} (hw : Cond.fieldLink own ix "NumberLeases$Orders" "holder" "I" ∈ gw) (hd : decode cc pc = .ok (.getfield ix, 3)) (k : J (S, x) (pc + 3) L (.int (S 8 0 4) :: rest)) : J (S, x) pc L (.ref (ad E 8 0) :: rest) :=
  r_get hJ (ci := 0) (C := RX1) (T := TX1) (N := 8) (kf := 5) (by decide) (by simp [scal]; rfl) rfl iX1 (by decide) hw rfl hd k
theorem r_g1_5O (hJ : jR l E own cc nL d n0 cap J) {S : jS} {x : jX} {P : jO} {ix : Nat} (hw : Cond.fieldLink own ix "NumberLeases$Orders" "holder" "I" ∈ gw) (hd : decode cc pc = .ok (.getfield ix, 3)) (k : J (setO S 8 P, x) (pc + 3) L (.int (P 0 4) :: rest)) : J (setO S 8 P, x) pc L (.ref (ad E 8 0) :: rest) :=
  r_g1_5 hJ hw hd (by rw [setO_at]; exact k)
theorem r_p1_5 (hJ : jR l E own cc nL d n0 cap J) {S : jS} {x : jX} {P : jO} {v : Int32} {ix : Nat} (hw : Cond.fieldLink own ix "NumberLeases$Orders" "holder" "I" ∈ gw) (hd : decode cc pc = .ok (.putfield ix, 3)) (k : J (setO S 8 (put P 0 4 v), x) (pc + 3) L rest) : J (setO S 8 P, x) pc L (.int v :: .ref (ad E 8 0) :: rest) :=
  r_put hJ (ci := 0) (C := RX1) (T := TX1) (N := 8) (kf := 5) (t := .int) (by decide) (by simp [scal]; rfl) (by simp [scal]; rfl) rfl iX1 tyX1_ok nmX1 (by decide) hw rfl (by decide +kernel) rfl rfl (by simp [poolF, ordF, savF]) (by simp [poolF, ordF, savF, put_app]) hd k
theorem r_g1_6 (hJ : jR l E own cc nL d n0 cap J) {S : jS} {x : jX} {ix : Nat} (hw : Cond.fieldLink own ix "NumberLeases$Orders" "first" "I" ∈ gw) (hd : decode cc pc = .ok (.getfield ix, 3)) (k : J (S, x) (pc + 3) L (.int (S 8 0 5) :: rest)) : J (S, x) pc L (.ref (ad E 8 0) :: rest) :=
  r_get hJ (ci := 0) (C := RX1) (T := TX1) (N := 8) (kf := 6) (by decide) (by simp [scal]; rfl) rfl iX1 (by decide) hw rfl hd k
theorem r_g1_6O (hJ : jR l E own cc nL d n0 cap J) {S : jS} {x : jX} {P : jO} {ix : Nat} (hw : Cond.fieldLink own ix "NumberLeases$Orders" "first" "I" ∈ gw) (hd : decode cc pc = .ok (.getfield ix, 3)) (k : J (setO S 8 P, x) (pc + 3) L (.int (P 0 5) :: rest)) : J (setO S 8 P, x) pc L (.ref (ad E 8 0) :: rest) :=
  r_g1_6 hJ hw hd (by rw [setO_at]; exact k)
theorem r_p1_6 (hJ : jR l E own cc nL d n0 cap J) {S : jS} {x : jX} {P : jO} {v : Int32} {ix : Nat} (hw : Cond.fieldLink own ix "NumberLeases$Orders" "first" "I" ∈ gw) (hd : decode cc pc = .ok (.putfield ix, 3)) (k : J (setO S 8 (put P 0 5 v), x) (pc + 3) L rest) : J (setO S 8 P, x) pc L (.int v :: .ref (ad E 8 0) :: rest) :=
  r_put hJ (ci := 0) (C := RX1) (T := TX1) (N := 8) (kf := 6) (t := .int) (by decide) (by simp [scal]; rfl) (by simp [scal]; rfl) rfl iX1 tyX1_ok nmX1 (by decide) hw rfl (by decide +kernel) rfl rfl (by simp [poolF, ordF, savF]) (by simp [poolF, ordF, savF, put_app]) hd k
theorem r_g1_7 (hJ : jR l E own cc nL d n0 cap J) {S : jS} {x : jX} {ix : Nat} (hw : Cond.fieldLink own ix "NumberLeases$Orders" "second" "I" ∈ gw) (hd : decode cc pc = .ok (.getfield ix, 3)) (k : J (S, x) (pc + 3) L (.int (S 8 0 6) :: rest)) : J (S, x) pc L (.ref (ad E 8 0) :: rest) :=
  r_get hJ (ci := 0) (C := RX1) (T := TX1) (N := 8) (kf := 7) (by decide) (by simp [scal]; rfl) rfl iX1 (by decide) hw rfl hd k
theorem r_g1_7O (hJ : jR l E own cc nL d n0 cap J) {S : jS} {x : jX} {P : jO} {ix : Nat} (hw : Cond.fieldLink own ix "NumberLeases$Orders" "second" "I" ∈ gw) (hd : decode cc pc = .ok (.getfield ix, 3)) (k : J (setO S 8 P, x) (pc + 3) L (.int (P 0 6) :: rest)) : J (setO S 8 P, x) pc L (.ref (ad E 8 0) :: rest) :=
  r_g1_7 hJ hw hd (by rw [setO_at]; exact k)
theorem r_p1_7 (hJ : jR l E own cc nL d n0 cap J) {S : jS} {x : jX} {P : jO} {v : Int32} {ix : Nat} (hw : Cond.fieldLink own ix "NumberLeases$Orders" "second" "I" ∈ gw) (hd : decode cc pc = .ok (.putfield ix, 3)) (k : J (setO S 8 (put P 0 6 v), x) (pc + 3) L rest) : J (setO S 8 P, x) pc L (.int v :: .ref (ad E 8 0) :: rest) :=
  r_put hJ (ci := 0) (C := RX1) (T := TX1) (N := 8) (kf := 7) (t := .int) (by decide) (by simp [scal]; rfl) (by simp [scal]; rfl) rfl iX1 tyX1_ok nmX1 (by decide) hw rfl (by decide +kernel) rfl rfl (by simp [poolF, ordF, savF]) (by simp [poolF, ordF, savF, put_app]) hd k
theorem r_g2_0 (hJ : jR l E own cc nL d n0 cap J) {o : Nat} (ho : o < 8) {S : jS} {x : jX} {ix : Nat} (hw : Cond.fieldLink own ix "NumberLeases$Pool" "time" "I" ∈ gw) (hd : decode cc pc = .ok (.getfield ix, 3)) (k : J (S, x) (pc + 3) L (.int (S o 0 0) :: rest)) : J (S, x) pc L (.ref (ad E o 0) :: rest) :=
  r_get hJ (ci := 1) (C := RX2) (T := TX2) (N := 16) (kf := 0) (by omega) (by simp [scal, ho]; rfl) rfl iX2 (by decide) hw rfl hd k
theorem r_g2_0O (hJ : jR l E own cc nL d n0 cap J) {o : Nat} (ho : o < 8) {S : jS} {x : jX} {P : jO} {ix : Nat} (hw : Cond.fieldLink own ix "NumberLeases$Pool" "time" "I" ∈ gw) (hd : decode cc pc = .ok (.getfield ix, 3)) (k : J (setO S o P, x) (pc + 3) L (.int (P 0 0) :: rest)) : J (setO S o P, x) pc L (.ref (ad E o 0) :: rest) :=
  r_g2_0 hJ ho hw hd (by rw [setO_at]; exact k)
theorem r_p2_0 (hJ : jR l E own cc nL d n0 cap J) {o : Nat} (ho : o < 8) {S : jS} {x : jX} {P : jO} {v : Int32} {ix : Nat} (hw : Cond.fieldLink own ix "NumberLeases$Pool" "time" "I" ∈ gw) (hd : decode cc pc = .ok (.putfield ix, 3)) (k : J (setO S o (put P 0 0 v), x) (pc + 3) L rest) : J (setO S o P, x) pc L (.int v :: .ref (ad E o 0) :: rest) :=
  r_put hJ (ci := 1) (C := RX2) (T := TX2) (N := 16) (kf := 0) (t := .int) (by omega) (by simp [scal, ho]; rfl) (by simp [scal, ho]; rfl) rfl iX2 tyX2_ok nmX2 (by decide) hw rfl (by decide +kernel) rfl rfl (by simp [poolF, ordF, savF]) (by simp [poolF, ordF, savF, put_app]) hd k
theorem r_g2_1 (hJ : jR l E own cc nL d n0 cap J) {o : Nat} (ho : o < 8) {S : jS} {x : jX} {ix : Nat} (hw : Cond.fieldLink own ix "NumberLeases$Pool" "renewals" "I" ∈ gw) (hd : decode cc pc = .ok (.getfield ix, 3)) (k : J (S, x) (pc + 3) L (.int (S o 0 1) :: rest)) : J (S, x) pc L (.ref (ad E o 0) :: rest) :=
  r_get hJ (ci := 1) (C := RX2) (T := TX2) (N := 16) (kf := 1) (by omega) (by simp [scal, ho]; rfl) rfl iX2 (by decide) hw rfl hd k
theorem r_g2_1O (hJ : jR l E own cc nL d n0 cap J) {o : Nat} (ho : o < 8) {S : jS} {x : jX} {P : jO} {ix : Nat} (hw : Cond.fieldLink own ix "NumberLeases$Pool" "renewals" "I" ∈ gw) (hd : decode cc pc = .ok (.getfield ix, 3)) (k : J (setO S o P, x) (pc + 3) L (.int (P 0 1) :: rest)) : J (setO S o P, x) pc L (.ref (ad E o 0) :: rest) :=
  r_g2_1 hJ ho hw hd (by rw [setO_at]; exact k)
theorem r_p2_1 (hJ : jR l E own cc nL d n0 cap J) {o : Nat} (ho : o < 8) {S : jS} {x : jX} {P : jO} {v : Int32} {ix : Nat} (hw : Cond.fieldLink own ix "NumberLeases$Pool" "renewals" "I" ∈ gw) (hd : decode cc pc = .ok (.putfield ix, 3)) (k : J (setO S o (put P 0 1 v), x) (pc + 3) L rest) : J (setO S o P, x) pc L (.int v :: .ref (ad E o 0) :: rest) :=
  r_put hJ (ci := 1) (C := RX2) (T := TX2) (N := 16) (kf := 1) (t := .int) (by omega) (by simp [scal, ho]; rfl) (by simp [scal, ho]; rfl) rfl iX2 tyX2_ok nmX2 (by decide) hw rfl (by decide +kernel) rfl rfl (by simp [poolF, ordF, savF]) (by simp [poolF, ordF, savF, put_app]) hd k
theorem r_g2_2 (hJ : jR l E own cc nL d n0 cap J) {o : Nat} (ho : o < 8) {S : jS} {x : jX} {ix : Nat} (hw : Cond.fieldLink own ix "NumberLeases$Pool" "graceRenewals" "I" ∈ gw) (hd : decode cc pc = .ok (.getfield ix, 3)) (k : J (S, x) (pc + 3) L (.int (S o 0 2) :: rest)) : J (S, x) pc L (.ref (ad E o 0) :: rest) :=
  r_get hJ (ci := 1) (C := RX2) (T := TX2) (N := 16) (kf := 2) (by omega) (by simp [scal, ho]; rfl) rfl iX2 (by decide) hw rfl hd k
theorem r_g2_2O (hJ : jR l E own cc nL d n0 cap J) {o : Nat} (ho : o < 8) {S : jS} {x : jX} {P : jO} {ix : Nat} (hw : Cond.fieldLink own ix "NumberLeases$Pool" "graceRenewals" "I" ∈ gw) (hd : decode cc pc = .ok (.getfield ix, 3)) (k : J (setO S o P, x) (pc + 3) L (.int (P 0 2) :: rest)) : J (setO S o P, x) pc L (.ref (ad E o 0) :: rest) :=
  r_g2_2 hJ ho hw hd (by rw [setO_at]; exact k)
theorem r_p2_2 (hJ : jR l E own cc nL d n0 cap J) {o : Nat} (ho : o < 8) {S : jS} {x : jX} {P : jO} {v : Int32} {ix : Nat} (hw : Cond.fieldLink own ix "NumberLeases$Pool" "graceRenewals" "I" ∈ gw) (hd : decode cc pc = .ok (.putfield ix, 3)) (k : J (setO S o (put P 0 2 v), x) (pc + 3) L rest) : J (setO S o P, x) pc L (.int v :: .ref (ad E o 0) :: rest) :=
  r_put hJ (ci := 1) (C := RX2) (T := TX2) (N := 16) (kf := 2) (t := .int) (by omega) (by simp [scal, ho]; rfl) (by simp [scal, ho]; rfl) rfl iX2 tyX2_ok nmX2 (by decide) hw rfl (by decide +kernel) rfl rfl (by simp [poolF, ordF, savF]) (by simp [poolF, ordF, savF, put_app]) hd k
theorem r_g2_3 (hJ : jR l E own cc nL d n0 cap J) {o : Nat} (ho : o < 8) {S : jS} {x : jX} {ix : Nat} (hw : Cond.fieldLink own ix "NumberLeases$Pool" "freed" "I" ∈ gw) (hd : decode cc pc = .ok (.getfield ix, 3)) (k : J (S, x) (pc + 3) L (.int (S o 0 3) :: rest)) : J (S, x) pc L (.ref (ad E o 0) :: rest) :=
  r_get hJ (ci := 1) (C := RX2) (T := TX2) (N := 16) (kf := 3) (by omega) (by simp [scal, ho]; rfl) rfl iX2 (by decide) hw rfl hd k
theorem r_g2_3O (hJ : jR l E own cc nL d n0 cap J) {o : Nat} (ho : o < 8) {S : jS} {x : jX} {P : jO} {ix : Nat} (hw : Cond.fieldLink own ix "NumberLeases$Pool" "freed" "I" ∈ gw) (hd : decode cc pc = .ok (.getfield ix, 3)) (k : J (setO S o P, x) (pc + 3) L (.int (P 0 3) :: rest)) : J (setO S o P, x) pc L (.ref (ad E o 0) :: rest) :=
  r_g2_3 hJ ho hw hd (by rw [setO_at]; exact k)
theorem r_p2_3 (hJ : jR l E own cc nL d n0 cap J) {o : Nat} (ho : o < 8) {S : jS} {x : jX} {P : jO} {v : Int32} {ix : Nat} (hw : Cond.fieldLink own ix "NumberLeases$Pool" "freed" "I" ∈ gw) (hd : decode cc pc = .ok (.putfield ix, 3)) (k : J (setO S o (put P 0 3 v), x) (pc + 3) L rest) : J (setO S o P, x) pc L (.int v :: .ref (ad E o 0) :: rest) :=
  r_put hJ (ci := 1) (C := RX2) (T := TX2) (N := 16) (kf := 3) (t := .int) (by omega) (by simp [scal, ho]; rfl) (by simp [scal, ho]; rfl) rfl iX2 tyX2_ok nmX2 (by decide) hw rfl (by decide +kernel) rfl rfl (by simp [poolF, ordF, savF]) (by simp [poolF, ordF, savF, put_app]) hd k
theorem r_g2_4 (hJ : jR l E own cc nL d n0 cap J) {o : Nat} (ho : o < 8) {ix : Nat} (hw : Cond.fieldLink own ix "NumberLeases$Pool" "settings" "[I" ∈ gw) (hd : decode cc pc = .ok (.getfield ix, 3)) (k : J G (pc + 3) L (.ref (ad E o 1) :: rest)) : J G pc L (.ref (ad E o 0) :: rest) :=
  r_get hJ (ci := 1) (C := RX2) (T := TX2) (N := 16) (kf := 4) (by omega) (by simp [scal, ho]; rfl) rfl iX2 (by decide) hw rfl hd k
theorem r_g2_5 (hJ : jR l E own cc nL d n0 cap J) {o : Nat} (ho : o < 8) {ix : Nat} (hw : Cond.fieldLink own ix "NumberLeases$Pool" "whose" "[I" ∈ gw) (hd : decode cc pc = .ok (.getfield ix, 3)) (k : J G (pc + 3) L (.ref (ad E o 2) :: rest)) : J G pc L (.ref (ad E o 0) :: rest) :=
  r_get hJ (ci := 1) (C := RX2) (T := TX2) (N := 16) (kf := 5) (by omega) (by simp [scal, ho]; rfl) rfl iX2 (by decide) hw rfl hd k
theorem r_g2_6 (hJ : jR l E own cc nL d n0 cap J) {o : Nat} (ho : o < 8) {ix : Nat} (hw : Cond.fieldLink own ix "NumberLeases$Pool" "begin" "[I" ∈ gw) (hd : decode cc pc = .ok (.getfield ix, 3)) (k : J G (pc + 3) L (.ref (ad E o 3) :: rest)) : J G pc L (.ref (ad E o 0) :: rest) :=
  r_get hJ (ci := 1) (C := RX2) (T := TX2) (N := 16) (kf := 6) (by omega) (by simp [scal, ho]; rfl) rfl iX2 (by decide) hw rfl hd k
theorem r_g2_7 (hJ : jR l E own cc nL d n0 cap J) {o : Nat} (ho : o < 8) {ix : Nat} (hw : Cond.fieldLink own ix "NumberLeases$Pool" "end" "[I" ∈ gw) (hd : decode cc pc = .ok (.getfield ix, 3)) (k : J G (pc + 3) L (.ref (ad E o 4) :: rest)) : J G pc L (.ref (ad E o 0) :: rest) :=
  r_get hJ (ci := 1) (C := RX2) (T := TX2) (N := 16) (kf := 7) (by omega) (by simp [scal, ho]; rfl) rfl iX2 (by decide) hw rfl hd k
theorem r_g2_8 (hJ : jR l E own cc nL d n0 cap J) {o : Nat} (ho : o < 8) {ix : Nat} (hw : Cond.fieldLink own ix "NumberLeases$Pool" "last" "[I" ∈ gw) (hd : decode cc pc = .ok (.getfield ix, 3)) (k : J G (pc + 3) L (.ref (ad E o 5) :: rest)) : J G pc L (.ref (ad E o 0) :: rest) :=
  r_get hJ (ci := 1) (C := RX2) (T := TX2) (N := 16) (kf := 8) (by omega) (by simp [scal, ho]; rfl) rfl iX2 (by decide) hw rfl hd k
theorem r_g2_9 (hJ : jR l E own cc nL d n0 cap J) {o : Nat} (ho : o < 8) {ix : Nat} (hw : Cond.fieldLink own ix "NumberLeases$Pool" "given" "[I" ∈ gw) (hd : decode cc pc = .ok (.getfield ix, 3)) (k : J G (pc + 3) L (.ref (ad E o 6) :: rest)) : J G pc L (.ref (ad E o 0) :: rest) :=
  r_get hJ (ci := 1) (C := RX2) (T := TX2) (N := 16) (kf := 9) (by omega) (by simp [scal, ho]; rfl) rfl iX2 (by decide) hw rfl hd k
theorem r_g2_10 (hJ : jR l E own cc nL d n0 cap J) {o : Nat} (ho : o < 8) {ix : Nat} (hw : Cond.fieldLink own ix "NumberLeases$Pool" "waiting" "[I" ∈ gw) (hd : decode cc pc = .ok (.getfield ix, 3)) (k : J G (pc + 3) L (.ref (ad E o 7) :: rest)) : J G pc L (.ref (ad E o 0) :: rest) :=
  r_get hJ (ci := 1) (C := RX2) (T := TX2) (N := 16) (kf := 10) (by omega) (by simp [scal, ho]; rfl) rfl iX2 (by decide) hw rfl hd k
theorem r_g2_11 (hJ : jR l E own cc nL d n0 cap J) {o : Nat} (ho : o < 8) {ix : Nat} (hw : Cond.fieldLink own ix "NumberLeases$Pool" "wishers" "[I" ∈ gw) (hd : decode cc pc = .ok (.getfield ix, 3)) (k : J G (pc + 3) L (.ref (ad E o 8) :: rest)) : J G pc L (.ref (ad E o 0) :: rest) :=
  r_get hJ (ci := 1) (C := RX2) (T := TX2) (N := 16) (kf := 11) (by omega) (by simp [scal, ho]; rfl) rfl iX2 (by decide) hw rfl hd k
theorem r_g2_12 (hJ : jR l E own cc nL d n0 cap J) {o : Nat} (ho : o < 8) {ix : Nat} (hw : Cond.fieldLink own ix "NumberLeases$Pool" "wishTerms" "[I" ∈ gw) (hd : decode cc pc = .ok (.getfield ix, 3)) (k : J G (pc + 3) L (.ref (ad E o 9) :: rest)) : J G pc L (.ref (ad E o 0) :: rest) :=
  r_get hJ (ci := 1) (C := RX2) (T := TX2) (N := 16) (kf := 12) (by omega) (by simp [scal, ho]; rfl) rfl iX2 (by decide) hw rfl hd k
theorem r_g2_13 (hJ : jR l E own cc nL d n0 cap J) {o : Nat} (ho : o < 8) {ix : Nat} (hw : Cond.fieldLink own ix "NumberLeases$Pool" "leases" "[I" ∈ gw) (hd : decode cc pc = .ok (.getfield ix, 3)) (k : J G (pc + 3) L (.ref (ad E o 10) :: rest)) : J G pc L (.ref (ad E o 0) :: rest) :=
  r_get hJ (ci := 1) (C := RX2) (T := TX2) (N := 16) (kf := 13) (by omega) (by simp [scal, ho]; rfl) rfl iX2 (by decide) hw rfl hd k
theorem r_g2_14 (hJ : jR l E own cc nL d n0 cap J) {o : Nat} (ho : o < 8) {ix : Nat} (hw : Cond.fieldLink own ix "NumberLeases$Pool" "lost" "[I" ∈ gw) (hd : decode cc pc = .ok (.getfield ix, 3)) (k : J G (pc + 3) L (.ref (ad E o 11) :: rest)) : J G pc L (.ref (ad E o 0) :: rest) :=
  r_get hJ (ci := 1) (C := RX2) (T := TX2) (N := 16) (kf := 14) (by omega) (by simp [scal, ho]; rfl) rfl iX2 (by decide) hw rfl hd k
theorem r_g2_15 (hJ : jR l E own cc nL d n0 cap J) {o : Nat} (ho : o < 8) {ix : Nat} (hw : Cond.fieldLink own ix "NumberLeases$Pool" "units" "[I" ∈ gw) (hd : decode cc pc = .ok (.getfield ix, 3)) (k : J G (pc + 3) L (.ref (ad E o 12) :: rest)) : J G pc L (.ref (ad E o 0) :: rest) :=
  r_get hJ (ci := 1) (C := RX2) (T := TX2) (N := 16) (kf := 15) (by omega) (by simp [scal, ho]; rfl) rfl iX2 (by decide) hw rfl hd k
theorem r_g3_0 (hJ : jR l E own cc nL d n0 cap J) {ix : Nat} (hw : Cond.fieldLink own ix "NumberLeases$Saves" "kept" "[LNumberLeases$Pool;" ∈ gw) (hd : decode cc pc = .ok (.getfield ix, 3)) (k : J G (pc + 3) L (.ref (ad E 9 1) :: rest)) : J G pc L (.ref (ad E 9 0) :: rest) :=
  r_get hJ (ci := 2) (C := RX3) (T := TX3) (N := 2) (kf := 0) (by decide) (by simp [scal]; rfl) rfl iX3 (by decide) hw rfl hd k
theorem r_g3_1 (hJ : jR l E own cc nL d n0 cap J) {S : jS} {x : jX} {ix : Nat} (hw : Cond.fieldLink own ix "NumberLeases$Saves" "many" "I" ∈ gw) (hd : decode cc pc = .ok (.getfield ix, 3)) (k : J (S, x) (pc + 3) L (.int (S 9 0 0) :: rest)) : J (S, x) pc L (.ref (ad E 9 0) :: rest) :=
  r_get hJ (ci := 2) (C := RX3) (T := TX3) (N := 2) (kf := 1) (by decide) (by simp [scal]; rfl) rfl iX3 (by decide) hw rfl hd k
theorem r_g3_1O (hJ : jR l E own cc nL d n0 cap J) {S : jS} {x : jX} {P : jO} {ix : Nat} (hw : Cond.fieldLink own ix "NumberLeases$Saves" "many" "I" ∈ gw) (hd : decode cc pc = .ok (.getfield ix, 3)) (k : J (setO S 9 P, x) (pc + 3) L (.int (P 0 0) :: rest)) : J (setO S 9 P, x) pc L (.ref (ad E 9 0) :: rest) :=
  r_g3_1 hJ hw hd (by rw [setO_at]; exact k)
theorem r_p3_1 (hJ : jR l E own cc nL d n0 cap J) {S : jS} {x : jX} {P : jO} {v : Int32} {ix : Nat} (hw : Cond.fieldLink own ix "NumberLeases$Saves" "many" "I" ∈ gw) (hd : decode cc pc = .ok (.putfield ix, 3)) (k : J (setO S 9 (put P 0 0 v), x) (pc + 3) L rest) : J (setO S 9 P, x) pc L (.int v :: .ref (ad E 9 0) :: rest) :=
  r_put hJ (ci := 2) (C := RX3) (T := TX3) (N := 2) (kf := 1) (t := .int) (by decide) (by simp [scal]; rfl) (by simp [scal]; rfl) rfl iX3 tyX3_ok nmX3 (by decide) hw rfl (by decide +kernel) rfl rfl (by simp [poolF, ordF, savF]) (by simp [poolF, ordF, savF, put_app]) hd k
theorem r_g4_0 (hJ : jR l E own cc nL d n0 cap J) {ix : Nat} (hw : Cond.fieldLink own ix "NumberLeases" "pool" "LNumberLeases$Pool;" ∈ gw) (hd : decode cc pc = .ok (.getfield ix, 3)) (k : J G (pc + 3) L (.ref (ad E 0 0) :: rest)) : J G pc L (.ref (ad E 11 0) :: rest) :=
  r_get hJ (ci := 3) (C := RX4) (T := TX4) (N := 4) (kf := 0) (by decide) (by simp [scal]; rfl) rfl iX4 (by decide) hw rfl hd k
theorem r_g4_1 (hJ : jR l E own cc nL d n0 cap J) {ix : Nat} (hw : Cond.fieldLink own ix "NumberLeases" "ahead" "LNumberLeases$Pool;" ∈ gw) (hd : decode cc pc = .ok (.getfield ix, 3)) (k : J G (pc + 3) L (.ref (ad E 1 0) :: rest)) : J G pc L (.ref (ad E 11 0) :: rest) :=
  r_get hJ (ci := 3) (C := RX4) (T := TX4) (N := 4) (kf := 1) (by decide) (by simp [scal]; rfl) rfl iX4 (by decide) hw rfl hd k
theorem r_g4_2 (hJ : jR l E own cc nL d n0 cap J) {ix : Nat} (hw : Cond.fieldLink own ix "NumberLeases" "saves" "LNumberLeases$Saves;" ∈ gw) (hd : decode cc pc = .ok (.getfield ix, 3)) (k : J G (pc + 3) L (.ref (ad E 9 0) :: rest)) : J G pc L (.ref (ad E 11 0) :: rest) :=
  r_get hJ (ci := 3) (C := RX4) (T := TX4) (N := 4) (kf := 2) (by decide) (by simp [scal]; rfl) rfl iX4 (by decide) hw rfl hd k
theorem r_g4_3 (hJ : jR l E own cc nL d n0 cap J) {ix : Nat} (hw : Cond.fieldLink own ix "NumberLeases" "orders" "LNumberLeases$Orders;" ∈ gw) (hd : decode cc pc = .ok (.getfield ix, 3)) (k : J G (pc + 3) L (.ref (ad E 8 0) :: rest)) : J G pc L (.ref (ad E 11 0) :: rest) :=
  r_get hJ (ci := 3) (C := RX4) (T := TX4) (N := 4) (kf := 3) (by decide) (by simp [scal]; rfl) rfl iX4 (by decide) hw rfl hd k
end ROWS
