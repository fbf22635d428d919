/-! SPANS OF FREE NUMBERS -/
theorem cnt_flat {p : Nat → Bool} {a : Nat} : ∀ {b : Nat}, a ≤ b → (∀ i, a ≤ i → i < b → p i = false) → cnt p b = cnt p a
  | 0, h, _ => by rw [show a = 0 by omega]
  | b + 1, h, hp => by
    rcases (by omega : a = b + 1 ∨ a ≤ b) with q | q
    · rw [q]
    · rw [cnt, cnt_flat q (fun i x y => hp i x (by omega)), hp b q (by omega)]
      rfl
theorem cnt_full {p : Nat → Bool} {a : Nat} : ∀ (j : Nat), (∀ i, a ≤ i → i < a + j → p i = true) → cnt p (a + j) = cnt p a + j
  | 0, _ => rfl
  | j + 1, hp => by
    rw [show a + (j + 1) = (a + j) + 1 from rfl, cnt, cnt_full j (fun i x y => hp i x (by omega)), hp (a + j) (by omega) (by omega)]
    simp
    omega
theorem cnt_mono {p : Nat → Bool} {a : Nat} : ∀ {b : Nat}, a ≤ b → cnt p a ≤ cnt p b
  | 0, h => by rw [show a = 0 by omega]; exact Nat.le_refl _
  | b + 1, h => by
    rcases (by omega : a = b + 1 ∨ a ≤ b) with q | q
    · rw [q]; exact Nat.le_refl _
    · have := cnt_mono (p := p) q
      rw [cnt]
      omega
theorem cnt_s {p : Nat → Bool} {f : Nat} (h : p f = true) : cnt p (f + 1) = cnt p f + 1 := by
  rw [cnt, h]
  rfl
theorem cnt_ex {p : Nat → Bool} {q : Nat} : ∀ {z : Nat}, q < cnt p z → ∃ f, f < z ∧ p f = true ∧ cnt p f = q
  | 0, h => by
    rw [cnt] at h
    omega
  | z + 1, h => by
    rcases (by omega : q < cnt p z ∨ cnt p z ≤ q) with a | a
    · obtain ⟨f, h1, h2⟩ := cnt_ex a
      exact ⟨f, by omega, h2⟩
    · rw [cnt] at h
      by_cases hz : p z = true
      · rw [if_pos hz] at h
        exact ⟨z, by omega, hz, by omega⟩
      · rw [if_neg hz] at h
        omega
theorem span_sp {P : jO} {q : Nat} (hq : q < 2 ^ 30) : ∀ (k n c : Nat), n + k ≤ 64 → cnt (stS P) n = c →
    (∃ f, spanAt P (nI q) k n c = some f ∧ n ≤ f ∧ f < n + k ∧ stS P f = true ∧ cnt (stS P) f = q) ∨ (spanAt P (nI q) k n c = none ∧ ∀ f, n ≤ f → f < n + k → stS P f = true → cnt (stS P) f ≠ q)
  | 0, n, c, _, _ => Or.inr ⟨rfl, fun f a b => by omega⟩
  | k + 1, n, c, hk, hc => by
    have hcl := cnt_le (stS P) n
    rw [spanAt]
    by_cases hs : stS P n = true
    · rw [if_pos hs]
      by_cases he : nI c = nI q
      · rw [if_pos he]
        exact Or.inl ⟨n, rfl, by omega, by omega, hs, by rw [hc]; exact (nI_eq (by omega) (by omega)).mp he⟩
      · rw [if_neg he]
        rcases span_sp (P := P) hq k (n + 1) (c + 1) (by omega) (by rw [cnt_s hs, hc]) with ⟨f, a, b, d, e⟩ | ⟨a, b⟩
        · exact Or.inl ⟨f, a, by omega, by omega, e⟩
        · refine Or.inr ⟨a, fun f x y w => ?_⟩
          rcases (by omega : f = n ∨ n + 1 ≤ f) with r | r
          · rw [r, hc]
            exact fun v => he (by rw [v])
          · exact b f r (by omega) w
    · rw [if_neg hs]
      have e1 : cnt (stS P) (n + 1) = c := by
        rw [cnt, if_neg hs, hc]
        rfl
      rcases span_sp (P := P) hq k (n + 1) c (by omega) e1 with ⟨f, a, b, d, e⟩ | ⟨a, b⟩
      · exact Or.inl ⟨f, a, by omega, by omega, e⟩
      · refine Or.inr ⟨a, fun f x y w => ?_⟩
        rcases (by omega : f = n ∨ n + 1 ≤ f) with r | r
        · rw [r] at w
          exact absurd w hs
        · exact b f r (by omega) w
theorem stS_iff {P : jO} {n : Nat} : stS P n = true ↔ P 2 n = -1 ∧ (n = 0 ∨ ¬ P 2 (n - 1) = -1) := by
  unfold stS
  rw [Bool.and_eq_true, Bool.or_eq_true, decide_eq_true_eq, decide_eq_true_eq, Bool.not_eq_true', decide_eq_false_iff_not]
/-- where no span begins, behind a number that isn't free, no number is free -/
theorem no_free {P : jO} {e f : Nat} (he : e = 0 ∨ ¬ P 2 e = -1) (hef : e ≤ f) (hc : cnt (stS P) e = cnt (stS P) f) : ∀ (j : Nat), e + j < f → ¬ P 2 (e + j) = -1
  | 0, hj => by
    rcases he with h | h
    · intro q
      have hs : stS P (e + 0) = true := stS_iff.mpr ⟨q, Or.inl (by omega)⟩
      have a := cnt_s hs
      have b := cnt_mono (p := stS P) (a := e + 0 + 1) (b := f) (by omega)
      simp only [Nat.add_zero] at a b
      omega
    · exact h
  | j + 1, hj => by
    intro q
    have ih := no_free he hef hc j (by omega)
    have hs : stS P (e + (j + 1)) = true := stS_iff.mpr ⟨q, Or.inr ih⟩
    have a := cnt_s hs
    have b := cnt_mono (p := stS P) (a := e + (j + 1) + 1) (b := f) (by omega)
    have d := cnt_mono (p := stS P) (a := e) (b := e + (j + 1)) (by omega)
    omega
theorem row_end {p : Nat → Bool} : ∀ (k n : Nat), row p k n = k ∨ p (n + row p k n) = false
  | 0, n => Or.inl rfl
  | k + 1, n => by
    rw [row]
    by_cases h : p n = true
    · rw [if_pos h]
      rcases row_end (p := p) k (n + 1) with q | q
      · exact Or.inl (by omega)
      · exact Or.inr (by rw [show n + (row p k (n + 1) + 1) = n + 1 + row p k (n + 1) by omega]; exact q)
    · rw [if_neg h]
      exact Or.inr (Bool.eq_false_iff.mpr h)
theorem row_in {p : Nat → Bool} : ∀ (j k n : Nat), j ≤ row p k n → row p (k - j) (n + j) = row p k n - j
  | 0, k, n, _ => rfl
  | j + 1, 0, n, h => by
    rw [row] at h
    omega
  | j + 1, k + 1, n, h => by
    rw [row] at h ⊢
    by_cases hp : p n = true
    · rw [if_pos hp] at h ⊢
      rw [show k + 1 - (j + 1) = k - j by omega, show n + (j + 1) = n + 1 + j by omega, row_in j k (n + 1) (by omega)]
      omega
    · rw [if_neg hp] at h
      omega
theorem row_0 {p : Nat → Bool} {k n : Nat} (h : p n = false) : row p k n = 0 := by
  cases k with
  | zero => rfl
  | succ k => rw [row, if_neg (by rw [h]; decide)]
/-- up to e the spans have been looked at, k of them, lo the longest -/
def SP (P : jO) (z k e lo : Nat) : Prop := e ≤ z ∧ cnt (stS P) e = k ∧ (e = z ∨ ¬ P 2 e = -1 ∨ (e = 0 ∧ k = 0)) ∧ (∀ i, i < e → rowP P z i ≤ lo) ∧ (lo = 0 ∨ ∃ i, i < e ∧ rowP P z i = lo)
theorem SP_0 (P : jO) (z : Nat) : SP P z 0 0 0 := ⟨Nat.zero_le _, rfl, Or.inr (Or.inr ⟨rfl, rfl⟩), fun i hi => absurd hi (Nat.not_lt_zero _), Or.inl rfl⟩
theorem SP_s {P : jO} {z k e lo : Nat} (hz : z ≤ 64) (h : SP P z k e lo) (hk : k < cnt (stS P) z) :
    ∃ f s, ofSp P z (nI k) (nI 0) = nI f ∧ ofSp P z (nI k) (nI 1) = nI s ∧ (e < f ∨ (e = 0 ∧ k = 0)) ∧ 0 < s ∧ f + s ≤ z ∧ P 2 f = -1 ∧ P 2 (f + s - 1) = -1 ∧ (f + s = z ∨ (f + s < z ∧ ¬ P 2 (f + s) = -1)) ∧ cnt (frP P) (f + s) = cnt (frP P) e + s ∧ SP P z (k + 1) (f + s) (max lo s) := by
  obtain ⟨h1, h2, h3, h4, h5⟩ := h
  have hcl := cnt_le (stS P) z
  obtain ⟨f, g1, g2, g3⟩ := cnt_ex hk
  have hfs : spanAt P (nI k) z 0 0 = some f := by
    rcases span_sp (P := P) (q := k) (by omega) z 0 0 (by omega) rfl with ⟨f', a, b, c, d, e'⟩ | ⟨a, b⟩
    · rw [a]
      congr 1
      rcases Nat.lt_trichotomy f f' with q | q | q
      · have := cnt_mono (p := stS P) (a := f + 1) (b := f') (by omega)
        rw [cnt_s g2] at this
        omega
      · exact q.symm
      · have := cnt_mono (p := stS P) (a := f' + 1) (b := f) (by omega)
        rw [cnt_s d] at this
        omega
    · exact absurd g3 (b f (Nat.zero_le _) (by omega) g2)
  obtain ⟨f1, f2⟩ := stS_iff.mp g2
  have hef : e ≤ f := by
    rcases Nat.lt_or_ge f e with q | q
    · have := cnt_mono (p := stS P) (a := f + 1) (b := e) (by omega)
      rw [cnt_s g2] at this
      omega
    · exact q
  have hez : e < z := by omega
  have h3' : e = 0 ∨ ¬ P 2 e = -1 := by
    rcases h3 with q | q | q
    · omega
    · exact Or.inr q
    · exact Or.inl q.1
  have nf := no_free h3' hef (by rw [h2, g3])
  have nf' : ∀ i, e ≤ i → i < f → ¬ P 2 i = -1 := fun i a b => by
    have := nf (i - e) (by omega)
    rwa [show e + (i - e) = i by omega] at this
  have hs1 := row_le (frP P) (z - f) f
  have hall : ∀ i, f ≤ i → i < f + row (frP P) (z - f) f → frP P i = true := row_all1 (Nat.le_refl _)
  have hs0 : 0 < row (frP P) (z - f) f := by
    rw [show z - f = (z - f - 1) + 1 by omega, row, if_pos (frP_t f1)]
    omega
  have hend := row_end (p := frP P) (z - f) f
  have hin := fun j => row_in (p := frP P) j (z - f) f
  refine ⟨f, row (frP P) (z - f) f, ?_, ?_, ?_, hs0, by omega, f1, of_decide_eq_true (hall _ (by omega) (by omega)), ?_, ?_, ?_⟩
  · unfold ofSp
    rw [hfs]
    exact if_pos rfl
  · unfold ofSp
    rw [hfs]
    exact if_neg (by decide)
  · rcases (by omega : e < f ∨ e = f) with q | q
    · exact Or.inl q
    · rcases h3 with r | r | r
      · omega
      · rw [q] at r
        exact absurd f1 r
      · exact Or.inr r
  · rcases hend with q | q
    · left
      omega
    · rcases (by omega : f + row (frP P) (z - f) f = z ∨ f + row (frP P) (z - f) f < z) with r | r
      · exact Or.inl r
      · exact Or.inr ⟨r, of_decide_eq_false q⟩
  · rw [cnt_full _ hall, cnt_flat hef (fun i a b => frP_f (nf' i a b))]
  · refine ⟨by omega, ?_, ?_, fun i hi => ?_, ?_⟩
    · have e1 : cnt (stS P) (f + row (frP P) (z - f) f) = cnt (stS P) (f + 1) := cnt_flat (by omega) (fun i a b => by
        rw [← Bool.not_eq_true, stS_iff]
        rintro ⟨-, q | q⟩
        · omega
        · exact q (of_decide_eq_true (hall (i - 1) (by omega) (by omega))))
      rw [e1, cnt_s g2, g3]
    · rcases hend with q | q
      · left
        omega
      · exact Or.inr (Or.inl (of_decide_eq_false q))
    · rcases (by omega : i < e ∨ (e ≤ i ∧ i < f) ∨ f ≤ i) with a | a | a
      · have := h4 i a
        omega
      · unfold rowP
        rw [row_0 (frP_f (nf' i a.1 a.2))]
        exact Nat.zero_le _
      · have := hin (i - f) (by omega)
        unfold rowP
        rw [show z - f - (i - f) = z - i by omega, show f + (i - f) = i by omega] at this
        omega
    · right
      rcases (by omega : lo ≤ row (frP P) (z - f) f ∨ row (frP P) (z - f) f < lo) with a | a
      · refine ⟨f, by omega, ?_⟩
        show row (frP P) (z - f) f = _
        omega
      · rcases h5 with b | ⟨i, b, c⟩
        · omega
        · exact ⟨i, by omega, by rw [c]; omega⟩
theorem longN_sp {P : jO} {z : Nat} : ∀ (k n v : Nat), n + k = z → v ≤ longN P z k n v ∧ (∀ i, n ≤ i → i < z → rowP P z i ≤ longN P z k n v) ∧ (longN P z k n v = v ∨ ∃ i, n ≤ i ∧ i < z ∧ rowP P z i = longN P z k n v)
  | 0, n, v, h => ⟨Nat.le_refl _, fun i a b => by omega, Or.inl rfl⟩
  | k + 1, n, v, h => by
    rw [longN]
    obtain ⟨a, b, c⟩ := longN_sp (P := P) (z := z) k (n + 1) (if v < rowP P z n then rowP P z n else v) (by omega)
    have d : v ≤ (if v < rowP P z n then rowP P z n else v) ∧ rowP P z n ≤ (if v < rowP P z n then rowP P z n else v) ∧ ((if v < rowP P z n then rowP P z n else v) = v ∨ (if v < rowP P z n then rowP P z n else v) = rowP P z n) := by
      split <;> omega
    generalize (if v < rowP P z n then rowP P z n else v) = v' at a b c d ⊢
    refine ⟨by omega, fun i x y => ?_, ?_⟩
    · rcases (by omega : i = n ∨ n + 1 ≤ i) with q | q
      · rw [q]
        omega
      · exact b i q y
    · rcases c with c | ⟨i, c1, c2, c3⟩
      · rcases d.2.2 with q | q
        · exact Or.inl (by omega)
        · exact Or.inr ⟨n, by omega, by omega, by omega⟩
      · exact Or.inr ⟨i, by omega, c2, c3⟩
/-- all spans have been looked at -/
theorem SP_end {P : jO} {z e lo : Nat} (hz : z ≤ 64) (h : SP P z (cnt (stS P) z) e lo) : cnt (frP P) e = cnt (frP P) z ∧ lo = longN P z z 0 0 ∧ ofSp P z (nI (cnt (stS P) z)) (nI 0) = -1 := by
  obtain ⟨h1, h2, h3, h4, h5⟩ := h
  have hcl := cnt_le (stS P) z
  have nf : ∀ i, e ≤ i → i < z → ¬ P 2 i = -1 := by
    intro i a b
    have h3' : e = 0 ∨ ¬ P 2 e = -1 := by
      rcases h3 with q | q | q
      · omega
      · exact Or.inr q
      · exact Or.inl q.1
    have := no_free h3' h1 h2 (i - e) (by omega)
    rwa [show e + (i - e) = i by omega] at this
  obtain ⟨l1, l2, l3⟩ := longN_sp (P := P) (z := z) z 0 0 (by omega)
  refine ⟨(cnt_flat h1 (fun i a b => frP_f (nf i a b))).symm, ?_, ?_⟩
  · have hle : ∀ i, i < z → rowP P z i ≤ lo := by
      intro i hi
      rcases (by omega : i < e ∨ e ≤ i) with q | q
      · exact h4 i q
      · unfold rowP
        rw [row_0 (frP_f (nf i q hi))]
        exact Nat.zero_le _
    have a : longN P z z 0 0 ≤ lo := by
      rcases l3 with q | ⟨i, x, y, w⟩
      · omega
      · rw [← w]
        exact hle i y
    have b : lo ≤ longN P z z 0 0 := by
      rcases h5 with q | ⟨i, x, y⟩
      · omega
      · rw [← y]
        exact l2 i (Nat.zero_le _) (by omega)
    omega
  · unfold ofSp
    rcases span_sp (P := P) (q := cnt (stS P) z) (by omega) z 0 0 (by omega) rfl with ⟨f, a, b, c, d, e'⟩ | ⟨a, b⟩
    · exfalso
      have := cnt_mono (p := stS P) (a := f + 1) (b := z) (by omega)
      rw [cnt_s d] at this
      omega
    · rw [a]
