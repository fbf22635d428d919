/-! HOLDERS: sums over holders -/
def sN (f : Nat → Nat) : Nat → Nat
  | 0 => 0
  | k + 1 => sN f k + f k
theorem sN_congr {f g : Nat → Nat} : ∀ {k : Nat}, (∀ i, i < k → f i = g i) → sN f k = sN g k
  | 0, _ => rfl
  | k + 1, h => by rw [sN, sN, sN_congr (fun i hi => h i (by omega)), h k (by omega)]
theorem sN_add (f g : Nat → Nat) : ∀ k, sN (fun i => f i + g i) k = sN f k + sN g k
  | 0 => rfl
  | k + 1 => by
    rw [sN, sN, sN, sN_add f g k]
    omega
theorem sN_zero {f : Nat → Nat} : ∀ (k : Nat), (∀ i, i < k → f i = 0) → sN f k = 0
  | 0, _ => rfl
  | k + 1, h => by rw [sN, sN_zero k (fun i hi => h i (by omega)), h k (by omega)]
theorem sN_swap (g : Nat → Nat → Nat) (Z : Nat) : ∀ H, sN (fun h => sN (fun n => g h n) Z) H = sN (fun n => sN (fun h => g h n) H) Z
  | 0 => by
    rw [sN]
    exact (sN_zero Z (fun _ _ => rfl)).symm
  | H + 1 => by
    rw [sN, sN_swap g Z H, ← sN_add]
    rfl
theorem sN_one {f : Nat → Nat} {a v : Nat} (h : ∀ i, f i = if i = a then v else 0) : ∀ (k : Nat), sN f k = if a < k then v else 0
  | 0 => by rw [if_neg (by omega)]; rfl
  | k + 1 => by
    rw [sN, sN_one h k, h k]
    by_cases q : k = a
    · rw [if_pos q, if_neg (by omega), if_pos (by omega), Nat.zero_add]
    · rw [if_neg q]
      by_cases q2 : a < k
      · rw [if_pos q2, if_pos (by omega), Nat.add_zero]
      · rw [if_neg q2, if_neg (by omega)]
theorem cnt_sN (p : Nat → Bool) : ∀ k, cnt p k = sN (fun n => if p n then 1 else 0) k
  | 0 => rfl
  | k + 1 => by rw [cnt, sN, cnt_sN p k]
theorem sumA_nI {f : Nat → Int32} {a : Nat → Nat} : ∀ (k : Nat), (∀ i, i < k → f i = nI (a i)) → sumA f k = nI (sN a k)
  | 0, _ => rfl
  | k + 1, h => by rw [sumA, sN, sumA_nI k (fun i hi => h i (by omega)), h k (by omega), nI_add]
/-- the sums that the law makes of what holders have -/
def hS (P : jO) (q k : Nat) : Int32 := sumA (fun h => ofH P h q) k
theorem hS_0 (P : jO) (q : Nat) : hS P q 0 = nI 0 := rfl
theorem hS_s (P : jO) (q k : Nat) : hS P q (k + 1) = hS P q k + ofH P k q := rfl
/-- numbers in a stage, counted by holders -/
theorem in_sum {P : jO} {z t C R s : Nat} (hs : s = 1 ∨ s = 2) (hX : XV P z t 64 C R) : sumA (fun h => nI (cnt (inP P (nI h) (nI s)) 64)) 8 = nI (cS P s z) := by
  have hz := hX.2.1.2.1.2.2
  rw [sumA_nI (a := fun h => cnt (inP P (nI h) (nI s)) 64) 8 (fun _ _ => rfl)]
  congr 1
  have e : cS P s 64 = cS P s z := by
    unfold cS
    refine cnt_64 hz (fun n a b => ?_)
    rw [stg_free (XV_tail hX a b)]
    refine decide_eq_false ?_
    rcases hs with h | h <;> subst h <;> decide
  rw [← e]
  unfold cS
  rw [cnt_sN, sN_congr (g := fun h => sN (fun n => if inP P (nI h) (nI s) n then 1 else 0) 64) (fun h _ => cnt_sN _ _), sN_swap]
  refine sN_congr (fun n hn => ?_)
  by_cases hst : stg P n = nI s
  · rw [decide_eq_true hst, if_pos rfl]
    have hf : ¬ P 2 n = -1 := by
      intro q
      rw [stg_free q] at hst
      rcases hs with h | h <;> subst h <;> exact absurd hst (by decide)
    rcases hX.1.2.1 n hn with q | ⟨g, g1, g2⟩
    · exact absurd q hf
    · have e2 : sN (fun h => if inP P (nI h) (nI s) n then 1 else 0) 8 = sN (fun h => if h = g then 1 else 0) 8 := by
        refine sN_congr (fun h hh => ?_)
        unfold inP
        rw [g2, hst]
        by_cases q : h = g
        · subst q
          simp
        · rw [if_neg q, decide_eq_false (fun w => q ((nI_eq (by omega) (by omega)).mp w).symm)]
          simp
      rw [e2, sN_one (a := g) (v := 1) (fun _ => rfl), if_pos g1]
  · rw [decide_eq_false hst]
    simp only [Bool.false_eq_true, if_false]
    refine sN_zero 8 (fun h _ => ?_)
    unfold inP
    rw [decide_eq_false hst]
    simp
theorem hS_held {P : jO} {z t C R : Nat} (hX : XV P z t 64 C R) : hS P 0 8 = ofA P z 2 := in_sum (Or.inl rfl) hX
theorem hS_late {P : jO} {z t C R : Nat} (hX : XV P z t 64 C R) : hS P 1 8 = ofA P z 3 := in_sum (Or.inr rfl) hX
/-! wishes, counted by holders -/
theorem fnd_ex {p : Nat → Bool} : ∀ {k n : Nat}, (fnd p k n).isSome = true ↔ ∃ i, n ≤ i ∧ i < n + k ∧ p i = true
  | 0, n => by
    rw [fnd]
    constructor
    · intro h; cases h
    · rintro ⟨i, a, b, -⟩; omega
  | k + 1, n => by
    rw [fnd]
    by_cases h : p n = true
    · rw [if_pos h]
      exact ⟨fun _ => ⟨n, by omega, by omega, h⟩, fun _ => rfl⟩
    · rw [if_neg h, fnd_ex]
      constructor
      · rintro ⟨i, a, b, c⟩
        exact ⟨i, by omega, by omega, c⟩
      · rintro ⟨i, a, b, c⟩
        by_cases q : i = n
        · rw [q] at c
          exact absurd c h
        · exact ⟨i, by omega, by omega, c⟩
theorem ind_sum {a : Nat → Nat} : ∀ (w : Nat), (∀ k, k < w → a k < 8) → (∀ i k, i < k → k < w → a i ≠ a k) → ∀ (p : Nat → Bool), (∀ h, p h = true ↔ ∃ k, k < w ∧ a k = h) → sN (fun h => if p h then 1 else 0) 8 = w
  | 0, _, _, p, hp => by
    refine sN_zero 8 (fun h _ => ?_)
    rw [if_neg]
    intro q
    obtain ⟨k, hk, -⟩ := (hp h).mp q
    omega
  | w + 1, h8, hd, p, hp => by
    have ih := ind_sum (a := a) w (fun k hk => h8 k (by omega)) (fun i k x y => hd i k x (by omega)) (fun h => p h && !decide (a w = h)) (fun h => by
      rw [Bool.and_eq_true, Bool.not_eq_true', decide_eq_false_iff_not, hp]
      constructor
      · rintro ⟨⟨k, hk, e⟩, hne⟩
        refine ⟨k, ?_, e⟩
        rcases (by omega : k < w ∨ k = w) with q | q
        · exact q
        · rw [q] at e
          exact absurd e hne
      · rintro ⟨k, hk, e⟩
        exact ⟨⟨k, by omega, e⟩, fun q => hd k w hk (by omega) (by rw [e, q])⟩)
    have e : sN (fun h => if p h then 1 else 0) 8 = sN (fun h => (if (p h && !decide (a w = h)) = true then 1 else 0) + (if h = a w then 1 else 0)) 8 := by
      refine sN_congr (fun h _ => ?_)
      by_cases q : h = a w
      · have hpt : p h = true := (hp h).mpr ⟨w, by omega, q.symm⟩
        rw [if_pos q, hpt, decide_eq_true q.symm]
        rfl
      · rw [if_neg q, decide_eq_false (fun x => q x.symm)]
        simp
    rw [e, sN_add, ih, sN_one (a := a w) (v := 1) (fun _ => rfl), if_pos (h8 w (by omega))]
theorem place_sum {P : jO} {n : Nat} {q : Int32} (h : WL P n q) : sN (fun h => if (placeW P (nI h) n).isSome then 1 else 0) 8 = toN (P 7 n) := by
  obtain ⟨w, w1, w2, w3, w4⟩ := h
  have hw : toN (P 7 n) = w := by rw [w2, toN_nI (by omega)]
  rw [hw]
  have ha : ∀ k, k < w → toN (P 8 (n * 3 + k)) < 8 ∧ P 8 (n * 3 + k) = nI (toN (P 8 (n * 3 + k))) := by
    intro k hk
    obtain ⟨h, h1, h2⟩ := (w3 k hk).1
    rw [h2, toN_nI (by omega)]
    exact ⟨h1, rfl⟩
  have key := ind_sum (a := fun k => toN (P 8 (n * 3 + k))) w (fun k hk => (ha k hk).1) (fun i k x y q => w4 i k x y (by rw [(ha i (by omega)).2, (ha k y).2]; exact congrArg nI q)) (fun h => decide (h < 8) && (placeW P (nI h) n).isSome) (fun h => by
    rw [Bool.and_eq_true, decide_eq_true_eq]
    unfold placeW
    rw [hw, fnd_ex]
    constructor
    · rintro ⟨h8, i, a, b, c⟩
      refine ⟨i, by omega, ?_⟩
      have c := of_decide_eq_true c
      rw [c, toN_nI (by omega)]
    · rintro ⟨k, hk, e⟩
      have e : toN (P 8 (n * 3 + k)) = h := e
      refine ⟨by rw [← e]; exact (ha k hk).1, k, Nat.zero_le _, by omega, decide_eq_true ?_⟩
      rw [(ha k hk).2, e])
  rw [← key]
  refine sN_congr (fun h hh => ?_)
  rw [decide_eq_true hh, Bool.true_and]
theorem hS_wait {P : jO} {z t C R : Nat} (hX : XV P z t 64 C R) : hS P 2 8 = ofA P z 4 := by
  show sumA (fun h => nI (cnt (fun n => (placeW P (nI h) n).isSome) 64)) 8 = sumA (P 7) 64
  rw [sumA_nI (a := fun h => cnt (fun n => (placeW P (nI h) n).isSome) 64) 8 (fun _ _ => rfl), sumA_nI (f := P 7) (a := fun n => toN (P 7 n)) 64 (fun n hn => (PI_w hX.1 hn).2)]
  congr 1
  rw [sN_congr (g := fun h => sN (fun n => if (placeW P (nI h) n).isSome then 1 else 0) 64) (fun h _ => cnt_sN _ _), sN_swap]
  exact sN_congr (fun n hn => place_sum (hX.2.2.1 n hn).1)
theorem hS_leases (P : jO) (z : Nat) : hS P 5 8 = ofA P z 5 := rfl
theorem hS_lost (P : jO) (z : Nat) : hS P 6 8 = ofA P z 9 := rfl
/-! one holder -/
theorem cnt_pos {p : Nat → Bool} {i : Nat} (hp : p i = true) : ∀ {k : Nat}, i < k → 0 < cnt p k
  | 0, h => by omega
  | k + 1, h => by
    rw [cnt]
    rcases (by omega : i < k ∨ i = k) with q | q
    · have := cnt_pos hp q
      omega
    · rw [← q, hp]
      simp
theorem cnt_zero {p : Nat → Bool} : ∀ {k : Nat}, (∀ i, i < k → p i = false) → cnt p k = 0
  | 0, _ => rfl
  | k + 1, h => by
    rw [cnt, cnt_zero (fun i hi => h i (by omega)), h k (by omega)]
    rfl
/-- a holder's least number: none, just if it has none -/
theorem hold_3 {P : jO} {z t C R h : Nat} (hh : h < 8) (hX : XV P z t 64 C R) :
    (ofH P h 3 = -1 ∧ ofH P h 0 + ofH P h 1 = nI 0) ∨ (∃ n, n < z ∧ ofH P h 3 = nI n ∧ P 2 n = nI h ∧ ¬ ofH P h 0 + ofH P h 1 = nI 0) := by
  have hz := hX.2.1.2.1.2.2
  show (oI (fnd (fun n => decide (P 2 n = nI h)) 64 0) = -1 ∧ nI (cnt (inP P (nI h) (nI 1)) 64) + nI (cnt (inP P (nI h) (nI 2)) 64) = nI 0) ∨ (∃ n, n < z ∧ oI (fnd (fun n => decide (P 2 n = nI h)) 64 0) = nI n ∧ P 2 n = nI h ∧ ¬ nI (cnt (inP P (nI h) (nI 1)) 64) + nI (cnt (inP P (nI h) (nI 2)) 64) = nI 0)
  cases e : fnd (fun n => decide (P 2 n = nI h)) 64 0 with
  | none =>
    refine Or.inl ⟨rfl, ?_⟩
    have hn := fnd_none e
    rw [cnt_zero (fun i hi => by unfold inP; rw [hn i (Nat.zero_le _) (by omega)]; rfl), cnt_zero (fun i hi => by unfold inP; rw [hn i (Nat.zero_le _) (by omega)]; rfl), nI_add]
  | some i =>
    obtain ⟨a, b, c⟩ := fnd_lt e
    have c : P 2 i = nI h := of_decide_eq_true c
    have hf : ¬ P 2 i = -1 := by rw [c]; exact nI_m1 (by omega)
    refine Or.inr ⟨i, NL_lt (hX.2.2.1 i (by omega)) hf, rfl, c, ?_⟩
    rw [nI_add]
    have l1 := cnt_le (inP P (nI h) (nI 1)) 64
    have l2 := cnt_le (inP P (nI h) (nI 2)) 64
    have hpos : 0 < cnt (inP P (nI h) (nI 1)) 64 + cnt (inP P (nI h) (nI 2)) 64 := by
      rcases stg_012 P i with q | q | q
      · exfalso
        unfold stg at q
        rw [if_neg hf] at q
        split at q <;> exact absurd q (by decide)
      · have := cnt_pos (p := inP P (nI h) (nI 1)) (i := i) (by unfold inP; rw [c, q]; simp) (k := 64) (by omega)
        omega
      · have := cnt_pos (p := inP P (nI h) (nI 2)) (i := i) (by unfold inP; rw [c, q]; simp) (k := 64) (by omega)
        omega
    exact fun q => absurd ((nI_eq (by omega) (by omega)).mp q) (by omega)
theorem leastE_spec {P : jO} {h : Int32} : ∀ (k n : Nat) (v : Int32), (leastE P h k n v = v ∧ (v = -1 → ∀ i, n ≤ i → i < n + k → inP P h (nI 1) i = false)) ∨ ∃ i, n ≤ i ∧ i < n + k ∧ inP P h (nI 1) i = true ∧ leastE P h k n v = P 4 i
  | 0, n, v => Or.inl ⟨rfl, fun _ i a b => by omega⟩
  | k + 1, n, v => by
    rw [leastE]
    by_cases hc : P 2 n = h ∧ stg P n = nI 1 ∧ (v = -1 ∨ P 4 n < v)
    · rw [if_pos hc]
      have hi : inP P h (nI 1) n = true := by unfold inP; rw [decide_eq_true hc.1, decide_eq_true hc.2.1]; rfl
      rcases leastE_spec (P := P) (h := h) k (n + 1) (P 4 n) with ⟨a, -⟩ | ⟨i, a, b, c, d⟩
      · exact Or.inr ⟨n, by omega, by omega, hi, a⟩
      · exact Or.inr ⟨i, by omega, by omega, c, d⟩
    · rw [if_neg hc]
      rcases leastE_spec (P := P) (h := h) k (n + 1) v with ⟨a, b⟩ | ⟨i, a, b, c, d⟩
      · refine Or.inl ⟨a, fun hv i x y => ?_⟩
        by_cases q : i = n
        · subst q
          unfold inP
          rw [Bool.and_eq_false_iff, decide_eq_false_iff_not, decide_eq_false_iff_not]
          rcases Decidable.em (P 2 i = h) with r | r
          · exact Or.inr fun s => hc ⟨r, s, Or.inl hv⟩
          · exact Or.inl r
        · exact b hv i (by omega) (by omega)
      · exact Or.inr ⟨i, by omega, by omega, c, d⟩
/-- the least end of what a holder holds: none, just if it holds none; else later than the time -/
theorem hold_4 {P : jO} {z t C R h : Nat} (ht : t ≤ 20000) (hX : XV P z t 64 C R) : (ofH P h 4 = -1 ∧ ofH P h 0 = nI 0) ∨ (¬ ofH P h 4 = -1 ∧ ¬ ofH P h 0 = nI 0 ∧ P 0 0 < ofH P h 4) := by
  show (leastE P (nI h) 64 0 (-1) = -1 ∧ nI (cnt (inP P (nI h) (nI 1)) 64) = nI 0) ∨ (¬ leastE P (nI h) 64 0 (-1) = -1 ∧ ¬ nI (cnt (inP P (nI h) (nI 1)) 64) = nI 0 ∧ P 0 0 < leastE P (nI h) 64 0 (-1))
  rcases leastE_spec (P := P) (h := nI h) 64 0 (-1) with ⟨a, b⟩ | ⟨i, a, b, c, d⟩
  · exact Or.inl ⟨a, by rw [cnt_zero (fun i hi => b rfl i (Nat.zero_le _) (by omega))]⟩
  · right
    have l1 := cnt_le (inP P (nI h) (nI 1)) 64
    have hpos := cnt_pos c (k := 64) (by omega)
    have hs : stg P i = nI 1 := by
      unfold inP at c
      rw [Bool.and_eq_true] at c
      exact of_decide_eq_true c.2
    have hf : ¬ P 2 i = -1 := by
      intro q
      rw [stg_free q] at hs
      exact absurd hs (by decide)
    have hlt : P 0 0 < P 4 i := by
      unfold stg at hs
      rw [if_neg hf] at hs
      split at hs
      · assumption
      · exact absurd hs (by decide)
    have hN := hX.2.2.1 i (by omega)
    rw [if_pos (by omega)] at hN
    rcases hN.2 with q | ⟨-, -, ⟨b', e, l, y1, y2, y3, y4, y5, y6, y7, y8⟩, -⟩
    · exact absurd q.1 hf
    · refine ⟨by rw [d, y2]; exact nI_m1 (by omega), fun q => absurd ((nI_eq (by omega) (by omega)).mp q) (by omega), by rw [d]; exact hlt⟩
