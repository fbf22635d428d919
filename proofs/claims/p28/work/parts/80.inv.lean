/-! WHAT HOLDS OF EVERY POOL BETWEEN THE CALLS: numbers, their leases and wishes, what is counted -/
/-- the wishes for n: at most three, each of a holder that isn't q, no holder twice, terms from 1 to 999 -/
def WL (P : jO) (n : Nat) (q : Int32) : Prop := ∃ w : Nat, w ≤ 3 ∧ P 7 n = nI w ∧ (∀ k, k < w → (∃ h, h < 8 ∧ P 8 (n * 3 + k) = nI h) ∧ P 8 (n * 3 + k) ≠ q ∧ ∃ u, 1 ≤ u ∧ u ≤ 999 ∧ P 9 (n * 3 + k) = nI u) ∧ ∀ i k, i < k → k < w → P 8 (n * 3 + i) ≠ P 8 (n * 3 + k)
/-- a number that somebody has; d: how far its last moment is from the time t at least -/
def HL (P : jO) (z t d n : Nat) : Prop := n < z ∧ (∃ h, h < 8 ∧ P 2 n = nI h) ∧ (∃ b e l, P 3 n = nI b ∧ P 4 n = nI e ∧ P 5 n = nI l ∧ b ≤ t ∧ b < e ∧ e ≤ l ∧ t + d ≤ l ∧ l ≤ t + 2000) ∧ ¬ P 6 n = nI 0
def NL (P : jO) (z t d n : Nat) : Prop := WL P n (P 2 n) ∧ ((P 2 n = -1 ∧ P 7 n = nI 0) ∨ HL P z t d n)
def VH (P : jO) (z t : Nat) : Prop := P 0 0 = nI t ∧ (P 1 3 = nI z ∧ 4 ≤ z ∧ z ≤ 64) ∧ ∀ q, q < 3 → ∃ g, g ≤ 64 ∧ P 1 q = nI g
/-- how often a number was given -/
def B6 (P : jO) (C : Nat) : Prop := ∀ n, n < 64 → ∃ x, x ≤ C ∧ P 6 n = nI x
/-- leases are what became free and what is not free -/
def LG (P : jO) : Prop := sumA (P 10) 8 = P 0 3 + nI (cnt (fun n => !frP P n) 64)
def RN (P : jO) (R : Nat) : Prop := ∃ a b, b ≤ a ∧ a ≤ R ∧ P 0 1 = nI a ∧ P 0 2 = nI b
/-- numbers below m have been looked at -/
def XV (P : jO) (z t m C R : Nat) : Prop := PI P ∧ VH P z t ∧ (∀ n, n < 64 → NL P z t (if n < m then 1 else 0) n) ∧ B6 P C ∧ LG P ∧ RN P R
/-- nothing but of the number n -/
def OFF (n : Nat) (P P' : jO) : Prop := P' 0 0 = P 0 0 ∧ P' 0 1 = P 0 1 ∧ P' 0 2 = P 0 2 ∧ P' 1 = P 1 ∧ (∀ j i, 2 ≤ j → j < 8 → i ≠ n → P' j i = P j i) ∧ ∀ j i, 8 ≤ j → j < 10 → i / 3 ≠ n → P' j i = P j i
theorem OFF.rf (n : Nat) (P : jO) : OFF n P P := ⟨rfl, rfl, rfl, rfl, fun _ _ _ _ _ => rfl, fun _ _ _ _ _ => rfl⟩
theorem OFF.tr {n : Nat} {P P' P'' : jO} (h : OFF n P P') (h' : OFF n P' P'') : OFF n P P'' := by
  obtain ⟨a, a1, a2, b, c, d⟩ := h
  obtain ⟨a', a1', a2', b', c', d'⟩ := h'
  exact ⟨a'.trans a, a1'.trans a1, a2'.trans a2, b'.trans b, fun j i h1 h2 hi => (c' j i h1 h2 hi).trans (c j i h1 h2 hi), fun j i h1 h2 hi => (d' j i h1 h2 hi).trans (d j i h1 h2 hi)⟩
theorem OFF_put {n j i : Nat} {P : jO} {v : Int32} (h0 : j = 0 → i = 3) (h1 : j ≠ 1) (h2 : 2 ≤ j → j < 8 → i = n) (h9 : 8 ≤ j → j < 10 → i / 3 = n) : OFF n P (put P j i v) := by
  refine ⟨?_, ?_, ?_, by rw [put_ne (Ne.symm h1)], fun j' q a b hq => ?_, fun j' q a b hq => ?_⟩
  all_goals rw [put_app, if_neg]
  all_goals rintro ⟨c, e⟩
  · have := h0 c.symm; omega
  · have := h0 c.symm; omega
  · have := h0 c.symm; omega
  · exact hq (e.trans (h2 (by omega) (by omega)))
  · exact hq (by rw [e]; exact h9 (by omega) (by omega))
theorem OFF_lease (P : jO) (h n : Nat) (u : Int32) : OFF n P (leaseP P h n u) := by
  unfold leaseP
  refine OFF.tr ?_ (OFF_put (by omega) (by omega) (by omega) (by omega))
  refine OFF.tr ?_ (OFF_put (by omega) (by omega) (by omega) (by omega))
  refine OFF.tr ?_ (OFF_put (by omega) (by omega) (by omega) (by omega))
  refine OFF.tr ?_ (OFF_put (by omega) (by omega) (by omega) (by omega))
  refine OFF.tr ?_ (OFF_put (by omega) (by omega) (by omega) (by omega))
  exact OFF_put (by omega) (by omega) (by omega) (by omega)
theorem drop_7 (P : jO) (n k i : Nat) : dropP P n k 7 i = if i = n then P 7 n - nI 1 else P 7 i := by
  unfold dropP
  rw [put_at, shiftP_ne _ _ _ _ _ (by decide) (by decide)]
theorem drop_ne {P : jO} {n k j : Nat} (a : j ≠ 7) (b : j ≠ 8) (c : j ≠ 9) : dropP P n k j = P j := by
  unfold dropP
  rw [put_ne a, shiftP_ne _ _ _ _ _ b c]
theorem drop_9 (P : jO) (n k q : Nat) : dropP P n k 9 q = if n * 3 + k ≤ q ∧ q < n * 3 + k + (toN (P 7 n) - 1 - k) then P 9 (q + 1) else P 9 q := by
  unfold dropP
  rw [put_ne (by decide), shiftP_9]
theorem drop_8 (P : jO) (n k q : Nat) : dropP P n k 8 q = if n * 3 + k ≤ q ∧ q < n * 3 + k + (toN (P 7 n) - 1 - k) then P 8 (q + 1) else P 8 q := by
  unfold dropP
  rw [put_ne (by decide), shiftP_8]
theorem OFF_drop {P : jO} {n k : Nat} (h3 : toN (P 7 n) ≤ 3) : OFF n P (dropP P n k) := by
  refine ⟨by rw [drop_ne (by decide) (by decide) (by decide)], by rw [drop_ne (by decide) (by decide) (by decide)], by rw [drop_ne (by decide) (by decide) (by decide)], drop_ne (by decide) (by decide) (by decide), fun j i a b hi => ?_, fun j i a b hi => ?_⟩
  · by_cases h7 : j = 7
    · subst h7
      rw [drop_7, if_neg hi]
    · rw [drop_ne h7 (by omega) (by omega)]
  · rcases (by omega : j = 8 ∨ j = 9) with h | h
    · subst h
      rw [drop_8, if_neg (by omega)]
    · subst h
      rw [drop_9, if_neg (by omega)]
theorem VH_off {n z t : Nat} {P P' : jO} (h : OFF n P P') (hV : VH P z t) : VH P' z t := by
  obtain ⟨a, -, -, b, -⟩ := h
  unfold VH
  rw [a, b]
  exact hV
theorem WL_of {n : Nat} {q : Int32} {P P' : jO} (h7 : P' 7 n = P 7 n) (h89 : ∀ j i, 8 ≤ j → j < 10 → i / 3 = n → P' j i = P j i) (h : WL P n q) : WL P' n q := by
  obtain ⟨w, h1, h2, h3, h4⟩ := h
  refine ⟨w, h1, by rw [h7]; exact h2, fun k hk => ?_, fun i k hi hk => ?_⟩
  · rw [h89 8 _ (by omega) (by omega) (by omega), h89 9 _ (by omega) (by omega) (by omega)]
    exact h3 k hk
  · rw [h89 8 _ (by omega) (by omega) (by omega), h89 8 _ (by omega) (by omega) (by omega)]
    exact h4 i k hi hk
theorem HL_of {z t d n : Nat} {P P' : jO} (h : ∀ j, 2 ≤ j → j < 7 → P' j n = P j n) (hV : HL P z t d n) : HL P' z t d n := by
  unfold HL
  rw [h 2 (by omega) (by omega), h 3 (by omega) (by omega), h 4 (by omega) (by omega), h 5 (by omega) (by omega), h 6 (by omega) (by omega)]
  exact hV
theorem NL_of {z t d n : Nat} {P P' : jO} (h : ∀ j, 2 ≤ j → j < 8 → P' j n = P j n) (h89 : ∀ j i, 8 ≤ j → j < 10 → i / 3 = n → P' j i = P j i) (hV : NL P z t d n) : NL P' z t d n := by
  obtain ⟨a, b⟩ := hV
  refine ⟨?_, ?_⟩
  · rw [h 2 (by omega) (by omega)]
    exact WL_of (h 7 (by omega) (by omega)) h89 a
  · rcases b with ⟨b1, b2⟩ | b
    · exact Or.inl ⟨by rw [h 2 (by omega) (by omega)]; exact b1, by rw [h 7 (by omega) (by omega)]; exact b2⟩
    · exact Or.inr (HL_of (fun j x y => h j x (by omega)) b)
theorem NL_off {n z t d i : Nat} {P P' : jO} (h : OFF n P P') (hi : i ≠ n) (hV : NL P z t d i) : NL P' z t d i := by
  obtain ⟨-, -, -, -, c, d⟩ := h
  exact NL_of (fun j x y => c j i x y hi) (fun j q x y hq => d j q x y (by omega)) hV
theorem NL_mono {P : jO} {z t d n : Nat} (hd : d ≤ 1) (h : NL P z t 1 n) : NL P z t d n := by
  obtain ⟨a, b⟩ := h
  refine ⟨a, b.imp id fun c => ?_⟩
  obtain ⟨c1, c2, ⟨b, e, l, x1, x2, x3, x4, x5, x6, x7, x8⟩, c4⟩ := c
  exact ⟨c1, c2, ⟨b, e, l, x1, x2, x3, x4, x5, x6, by omega, x8⟩, c4⟩
theorem RN_of {R : Nat} {P P' : jO} (h1 : P' 0 1 = P 0 1) (h2 : P' 0 2 = P 0 2) (h : RN P R) : RN P' R := by
  unfold RN
  rw [h1, h2]
  exact h
theorem B6_of {C : Nat} {P P' : jO} (h : ∀ n, n < 64 → P' 6 n = P 6 n) (hB : B6 P C) : B6 P' C := fun n hn => by
  rw [h n hn]
  exact hB n hn
theorem B6_mono {C C' : Nat} {P : jO} (h : C ≤ C') (hB : B6 P C) : B6 P C' := fun n hn => by
  obtain ⟨x, a, b⟩ := hB n hn
  exact ⟨x, by omega, b⟩
theorem RN_mono {R R' : Nat} {P : jO} (h : R ≤ R') (hR : RN P R) : RN P R' := by
  obtain ⟨a, b, h1, h2, h3⟩ := hR
  exact ⟨a, b, h1, by omega, h3⟩
/-! sums and counts of a changed row -/
theorem sumA_congr {f g : Nat → Int32} : ∀ {k : Nat}, (∀ i, i < k → f i = g i) → sumA f k = sumA g k
  | 0, _ => rfl
  | k + 1, h => by rw [sumA, sumA, sumA_congr (fun i hi => h i (by omega)), h k (by omega)]
theorem sumA_upd {f g : Nat → Int32} {h : Nat} {v : Int32} (hg : ∀ i, g i = if i = h then f i + v else f i) : ∀ (k : Nat), sumA g k = sumA f k + (if h < k then v else 0)
  | 0 => by rw [if_neg (by omega)]; exact (Int32.add_zero _).symm
  | k + 1 => by
    rw [sumA, sumA, sumA_upd hg k, hg k]
    by_cases h1 : k = h
    · rw [if_pos h1, if_neg (by omega), if_pos (by omega)]
      grind
    · rw [if_neg h1]
      by_cases h2 : h < k
      · rw [if_pos h2, if_pos (by omega)]
        grind
      · rw [if_neg h2, if_neg (by omega)]
        grind
theorem cnt_congr {p q : Nat → Bool} : ∀ {z : Nat}, (∀ n, n < z → p n = q n) → cnt p z = cnt q z
  | 0, _ => rfl
  | z + 1, h => by rw [cnt, cnt, cnt_congr (fun n hn => h n (by omega)), h z (by omega)]
theorem cnt_upd {p q : Nat → Bool} {n : Nat} (hne : ∀ i, i ≠ n → q i = p i) (hp : p n = false) (hq : q n = true) : ∀ (z : Nat), cnt q z = cnt p z + (if n < z then 1 else 0)
  | 0 => by rw [if_neg (by omega)]; rfl
  | z + 1 => by
    rw [cnt, cnt, cnt_upd hne hp hq z]
    by_cases h1 : z = n
    · subst h1
      simp [hp, hq]
    · rw [hne z h1]
      by_cases h2 : n < z
      · simp [h2, show n < z + 1 by omega]
        omega
      · simp [h2, show ¬ n < z + 1 by omega]
theorem cnt_tail {p : Nat → Bool} {z : Nat} : ∀ (k : Nat), (∀ n, z ≤ n → n < z + k → p n = false) → cnt p (z + k) = cnt p z
  | 0, _ => rfl
  | k + 1, h => by
    rw [show z + (k + 1) = (z + k) + 1 from rfl, cnt, cnt_tail k (fun n h1 h2 => h n h1 (by omega)), h (z + k) (by omega) (by omega)]
    rfl
theorem cnt_64 {p : Nat → Bool} {z : Nat} (hz : z ≤ 64) (h : ∀ n, z ≤ n → n < 64 → p n = false) : cnt p 64 = cnt p z := by
  have e := cnt_tail (p := p) (64 - z) (fun n h1 h2 => h n h1 (by omega))
  rwa [show z + (64 - z) = 64 by omega] at e
theorem LG_of {P P' : jO} (h10 : P' 10 = P 10) (h3 : P' 0 3 = P 0 3) (h2 : ∀ n, n < 64 → P' 2 n = P 2 n) (h : LG P) : LG P' := by
  unfold LG at *
  rw [h10, h3, h]
  congr 2
  exact cnt_congr (fun n hn => by unfold frP; rw [h2 n hn])
theorem frP_f {P : jO} {n : Nat} (h : ¬ P 2 n = -1) : frP P n = false := decide_eq_false h
theorem frP_t {P : jO} {n : Nat} (h : P 2 n = -1) : frP P n = true := decide_eq_true h
theorem LG_lease {P : jO} {h n : Nat} {u : Int32} (hh : h < 8) (hn : n < 64) (hf : P 2 n = -1) (hL : LG P) : LG (leaseP P h n u) := by
  unfold LG at *
  have e10 : ∀ i, leaseP P h n u 10 i = if i = h then P 10 i + nI 1 else P 10 i := by
    intro i
    rw [leaseP_app, if_neg (by omega), if_neg (by omega), if_neg (by omega), if_neg (by omega), if_neg (by omega)]
    by_cases q : i = h
    · rw [if_pos ⟨rfl, q⟩, if_pos q, q]
    · rw [if_neg (fun w => q w.2), if_neg q]
  have e03 : leaseP P h n u 0 3 = P 0 3 := by
    rw [leaseP_app]
    simp
  have e2 : ∀ i, leaseP P h n u 2 i = if i = n then nI h else P 2 i := by
    intro i
    rw [leaseP_app]
    simp
  have ec := cnt_upd (p := fun i => !frP P i) (q := fun i => !frP (leaseP P h n u) i) (n := n) (fun i hi => by
    show (!frP (leaseP P h n u) i) = !frP P i
    unfold frP
    rw [e2, if_neg hi]) (by show (!frP P n) = false; rw [frP_t hf]; rfl) (by
    show (!frP (leaseP P h n u) n) = true
    rw [frP_f (by rw [e2, if_pos rfl]; exact nI_m1 (by omega))]
    rfl) 64
  rw [sumA_upd e10 8, if_pos hh, hL, e03, ec, if_pos hn, ← nI_add, Int32.add_assoc]
theorem LG_free {P : jO} {n : Nat} (hn : n < 64) (hf : ¬ P 2 n = -1) (hL : LG P) : LG (put (put P 2 n (-1)) 0 3 (put P 2 n (-1) 0 3 + nI 1)) := by
  unfold LG at *
  have e10 : (put (put P 2 n (-1)) 0 3 (put P 2 n (-1) 0 3 + nI 1)) 10 = P 10 := by rw [put_ne (by decide), put_ne (by decide)]
  have e03 : (put (put P 2 n (-1)) 0 3 (put P 2 n (-1) 0 3 + nI 1)) 0 3 = P 0 3 + nI 1 := by rw [put_at, if_pos rfl, put_ne (by decide)]
  have e2 : ∀ i, (put (put P 2 n (-1)) 0 3 (put P 2 n (-1) 0 3 + nI 1)) 2 i = if i = n then -1 else P 2 i := by
    intro i
    rw [put_ne (by decide), put_at]
  have ec := cnt_upd (p := fun i => !frP (put (put P 2 n (-1)) 0 3 (put P 2 n (-1) 0 3 + nI 1)) i) (q := fun i => !frP P i) (n := n) (fun i hi => by
    show (!frP P i) = !frP (put (put P 2 n (-1)) 0 3 (put P 2 n (-1) 0 3 + nI 1)) i
    unfold frP
    rw [e2, if_neg hi]) (by
    show (!frP (put (put P 2 n (-1)) 0 3 (put P 2 n (-1) 0 3 + nI 1)) n) = false
    rw [frP_t (by rw [e2, if_pos rfl])]
    rfl) (by show (!frP P n) = true; rw [frP_f hf]; rfl) 64
  rw [e10, hL, e03, ec, if_pos hn, ← nI_add]
  grind
