/-! WHAT WOULD BE: leaps go on in time -/
theorem next_all {P : jO} {t : Nat} (hl : Lat P t) : ∀ (k n v : Nat), n + k ≤ 64 → v < 2 ^ 30 →
    ∃ w, nextN P k n (nI v) = nI w ∧ w ≤ v ∧ (∀ i, n ≤ i → i < n + k → ¬ P 2 i = -1 → ∃ l, P 5 i = nI l ∧ w ≤ l ∧ l < 2 ^ 30) ∧ (w = v ∨ ∃ i, n ≤ i ∧ i < n + k ∧ ¬ P 2 i = -1 ∧ P 5 i = nI w)
  | 0, n, v, _, _ => ⟨v, rfl, Nat.le_refl _, fun i a b => by omega, Or.inl rfl⟩
  | k + 1, n, v, hk, hv => by
    rw [nextN]
    by_cases hf : P 2 n = -1
    · rw [if_neg (fun q => q.1 hf)]
      obtain ⟨w, e, a, b, c⟩ := next_all hl k (n + 1) v (by omega) hv
      refine ⟨w, e, a, fun i h1 h2 h3 => ?_, ?_⟩
      · by_cases hin : i = n
        · rw [hin] at h3
          exact absurd hf h3
        · exact b i (by omega) (by omega) h3
      · rcases c with c | ⟨i, c1, c2, c3⟩
        · exact Or.inl c
        · exact Or.inr ⟨i, by omega, by omega, c3⟩
    · obtain ⟨l, l1, l2, l3⟩ := hl n (by omega) hf
      by_cases hc : l < v
      · rw [if_pos ⟨hf, by rw [l1]; exact nI_lt hc (by omega)⟩, l1]
        obtain ⟨w, e, a, b, c⟩ := next_all hl k (n + 1) l (by omega) (by omega)
        refine ⟨w, e, by omega, fun i h1 h2 h3 => ?_, ?_⟩
        · by_cases hin : i = n
          · rw [hin]
            exact ⟨l, l1, a, l3⟩
          · exact b i (by omega) (by omega) h3
        · rcases c with c | ⟨i, c1, c2, c3⟩
          · exact Or.inr ⟨n, by omega, by omega, hf, by rw [l1, c]⟩
          · exact Or.inr ⟨i, by omega, by omega, c3⟩
      · rw [if_neg (fun q => by rw [l1] at q; exact hc ((nI_ltI (by omega) (by omega)).mp q.2))]
        obtain ⟨w, e, a, b, c⟩ := next_all hl k (n + 1) v (by omega) hv
        refine ⟨w, e, a, fun i h1 h2 h3 => ?_, ?_⟩
        · by_cases hin : i = n
          · rw [hin]
            exact ⟨l, l1, by omega, l3⟩
          · exact b i (by omega) (by omega) h3
        · rcases c with c | ⟨i, c1, c2, c3⟩
          · exact Or.inl c
          · exact Or.inr ⟨i, by omega, by omega, c3⟩
theorem leap_ok {P : jO} {z t C R U : Nat} (htU : t ≤ U) (hU : U < 20000) (hC : C + 64 < 2 ^ 30) (hX : XV P z t 64 C R) (hu : ¬ nI U < leapV P (nI U)) : ∃ w, t < w ∧ w ≤ U ∧ leapP P (nI U) 0 0 = nI w ∧ XV (leapP P (nI U)) z w 64 (C + 64) R := by
  have hl := XV_lat (by omega) hX
  obtain ⟨w, e, a, b, c⟩ := next_all hl 64 0 (U + 1) (by omega) (by omega)
  have ev : leapV P (nI U) = nI w := by unfold leapV; rw [nI_add]; exact e
  rw [ev] at hu
  have hwU : w ≤ U := by
    rcases Nat.lt_or_ge U w with x | x
    · exact absurd (nI_lt x (by omega)) hu
    · exact x
  have htw : t < w := by
    rcases c with c | ⟨i, c1, c2, c3, c4⟩
    · omega
    · obtain ⟨l, l1, l2, l3⟩ := hl i (by omega) c3
      rw [c4] at l1
      have := (nI_eq (by omega) (by omega)).mp l1
      omega
  have e1 : leapP P (nI U) = dueN 64 0 (put P 0 0 (nI w)) := by unfold leapP; rw [ev, if_neg hu]
  have hX2 := due_ok (by omega) 64 0 C _ rfl hC (XV_time (t' := w) (by omega) (by omega) (fun n hn hf => b n (by omega) (by omega) hf) hX)
  rw [← e1] at hX2
  exact ⟨w, htw, hwU, hX2.2.1.1, hX2⟩
theorem freeL_ne {z R U t0 : Nat} {m : Int32} (hU : U < 20000) : ∀ (k t C : Nat) (P : jO), C + 64 * k < 2 ^ 30 → t0 ≤ t → t ≤ U → XV P z t 64 C R → ¬ (freeL z m (nI U) (nI t0) k P).1 = 0
  | 0, t, C, P, _, _, _, _ => by rw [freeL]; exact (by decide : ¬ (-1 : Int32) = 0)
  | k + 1, t, C, P, hC, h0, h1, hX => by
    rw [freeL]
    by_cases hu : nI U < leapV P (nI U)
    · rw [if_pos hu]
      exact (by decide : ¬ (-1 : Int32) = 0)
    · rw [if_neg hu]
      obtain ⟨w, a, b, c, d⟩ := leap_ok h1 hU (by omega) hX hu
      by_cases hm : nI (freesP (leapP P (nI U)) z) < m
      · rw [if_pos hm]
        exact freeL_ne hU k w (C + 64) _ (by omega) (by omega) b d
      · rw [if_neg hm, c, pk_sub (by omega)]
        exact nI_ne0 (by omega) (by omega)
/-! NUMBERS, as the law looks at them -/
theorem stg_free {P : jO} {n : Nat} (h : P 2 n = -1) : stg P n = 0 := by unfold stg; rw [if_pos h]
/-- what is so of a number that somebody has -/
theorem num_held {P : jO} {z t C n : Nat} (hn : n < 64) (hC : C < 2 ^ 30) (ht : t ≤ 20000) (h0 : P 0 0 = nI t) (hB : B6 P C) (h : NL P z t 1 n) (hf : ¬ P 2 n = -1) :
    ∃ h b e l g w : Nat, h < 8 ∧ P 2 n = nI h ∧ P 3 n = nI b ∧ P 4 n = nI e ∧ P 5 n = nI l ∧ P 6 n = nI g ∧ P 7 n = nI w ∧ b < e ∧ e ≤ l ∧ b ≤ t ∧ t < l ∧ l < 2 ^ 30 ∧ 0 < g ∧ g < 2 ^ 30 ∧ w ≤ 3 ∧ (0 < w → ∃ h', h' < 8 ∧ P 8 (n * 3) = nI h' ∧ h' ≠ h) ∧ stg P n = (if t < e then 1 else 2) := by
  obtain ⟨⟨w, w1, w2, w3, w4⟩, h2⟩ := h
  rcases h2 with a | ⟨x1, ⟨g, g1, g2⟩, ⟨b, e, l, y1, y2, y3, y4, y5, y6, y7, y8⟩, x4⟩
  · exact absurd a.1 hf
  · obtain ⟨x, c1, c2⟩ := hB n hn
    refine ⟨g, b, e, l, x, w, g1, g2, y1, y2, y3, c2, w2, y5, y6, y4, by omega, by omega, ?_, by omega, w1, fun h0 => ?_, ?_⟩
    · rcases Nat.eq_zero_or_pos x with q | q
      · rw [c2, q] at x4
        exact absurd rfl x4
      · exact q
    · obtain ⟨⟨h', a1, a2⟩, a3, -⟩ := w3 0 h0
      rw [Nat.add_zero] at a2 a3
      exact ⟨h', a1, a2, fun q => a3 (by rw [a2, g2, q])⟩
    · unfold stg
      rw [if_neg hf, h0, y2]
      by_cases q : t < e
      · rw [if_pos (nI_lt q (by omega)), if_pos q]
      · rw [if_neg (nI_nlt (by omega) (by omega)), if_neg q]
theorem stg_012 (P : jO) (n : Nat) : stg P n = nI 0 ∨ stg P n = nI 1 ∨ stg P n = nI 2 := by
  unfold stg
  split
  · exact Or.inl rfl
  · split
    · exact Or.inr (Or.inl rfl)
    · exact Or.inr (Or.inr rfl)
/-- numbers by stage -/
def cS (P : jO) (s k : Nat) : Nat := cnt (fun n => decide (stg P n = nI s)) k
theorem cS_3 (P : jO) : ∀ k, cS P 0 k + cS P 1 k + cS P 2 k = k
  | 0 => rfl
  | k + 1 => by
    have h := cS_3 P k
    unfold cS at *
    rw [cnt, cnt, cnt]
    rcases stg_012 P k with e | e | e <;> rw [e]
    · rw [decide_eq_true (rfl : nI 0 = nI 0), decide_eq_false (by decide : ¬ nI 0 = nI 1), decide_eq_false (by decide : ¬ nI 0 = nI 2)]
      simp
      omega
    · rw [decide_eq_false (by decide : ¬ nI 1 = nI 0), decide_eq_true (rfl : nI 1 = nI 1), decide_eq_false (by decide : ¬ nI 1 = nI 2)]
      simp
      omega
    · rw [decide_eq_false (by decide : ¬ nI 2 = nI 0), decide_eq_false (by decide : ¬ nI 2 = nI 1), decide_eq_true (rfl : nI 2 = nI 2)]
      simp
      omega
theorem stg_fr (P : jO) (n : Nat) : decide (stg P n = nI 0) = frP P n := by
  unfold stg frP
  by_cases h : P 2 n = -1
  · rw [if_pos h, decide_eq_true h]
    rfl
  · rw [if_neg h, decide_eq_false h]
    split <;> rfl
theorem cS_0 (P : jO) (k : Nat) : cS P 0 k = cnt (frP P) k := cnt_congr (fun n _ => stg_fr P n)
theorem cnt_not (p : Nat → Bool) : ∀ k, cnt p k + cnt (fun n => !p n) k = k
  | 0 => rfl
  | k + 1 => by
    have := cnt_not p k
    rw [cnt, cnt]
    cases p k <;> simp <;> omega
theorem XV_tail {P : jO} {z t C R n : Nat} (hX : XV P z t 64 C R) (h : z ≤ n) (hn : n < 64) : P 2 n = -1 := by
  rcases Decidable.em (P 2 n = -1) with q | q
  · exact q
  · exact absurd (NL_lt (hX.2.2.1 n hn) q) (by omega)
/-- leases are what became free and what is not free -/
theorem ofA_5 {P : jO} {z t C R : Nat} (hX : XV P z t 64 C R) : ofA P z 5 = ofA P z 8 + ofA P z 2 + ofA P z 3 := by
  show sumA (P 10) 8 = P 0 3 + nI (cS P 1 z) + nI (cS P 2 z)
  rw [hX.2.2.2.2.1, Int32.add_assoc, nI_add]
  have hz := hX.2.1.2.1.2.2
  have e := cnt_64 (p := fun n => !frP P n) hz (fun n a b => by rw [frP_t (XV_tail hX a b)]; rfl)
  have a := cnt_not (frP P) z
  have b := cS_3 P z
  rw [cS_0] at b
  rw [e, show cnt (fun n => !frP P n) z = cS P 1 z + cS P 2 z by omega]
theorem ofA_7 {P : jO} {z t C R : Nat} (hRb : R < 2 ^ 30) (hX : XV P z t 64 C R) : ofA P z 7 ≤ ofA P z 6 := by
  obtain ⟨a, b, h1, h2, h3, h4⟩ := hX.2.2.2.2.2
  show P 0 2 ≤ P 0 1
  rw [h3, h4]
  exact nI_le h1 (by omega)
theorem sum_tail {f : Nat → Int32} {z : Nat} : ∀ (k : Nat), (∀ n, z ≤ n → n < z + k → f n = nI 0) → sumA f (z + k) = sumA f z
  | 0, _ => rfl
  | k + 1, h => by
    rw [show z + (k + 1) = (z + k) + 1 from rfl, sumA, sum_tail k (fun n a b => h n a (by omega)), h (z + k) (by omega) (by omega), nI0, Int32.add_zero]
theorem NL_w0 {P : jO} {z t d n : Nat} (h : NL P z t d n) (hf : P 2 n = -1) : P 7 n = nI 0 := by
  rcases h.2 with a | a
  · exact a.2
  · obtain ⟨g, g1, g2⟩ := a.2.1
    rw [hf] at g2
    exact absurd g2.symm (nI_m1 (by omega))
theorem ofA_4 {P : jO} {z t C R : Nat} (hX : XV P z t 64 C R) : ofA P z 4 = sumA (P 7) z := by
  have hz := hX.2.1.2.1.2.2
  have e := sum_tail (f := P 7) (z := z) (64 - z) (fun n a b => NL_w0 (hX.2.2.1 n (by omega)) (XV_tail hX a (by omega)))
  rw [show z + (64 - z) = 64 by omega] at e
  exact e
