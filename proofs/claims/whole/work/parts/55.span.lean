/-! SPANS OF FREE NUMBERS, HOLDERS, COUNTS, ON BOTH SIDES -/
theorem long_all {P : jO} {r : Nat → Int32} {z : Nat} (hz : z ≤ 64) (s : Int32) (hC : CP P r) : ∀ (k i lo run : Nat) (n : Int32), i + k = z → lo ≤ 64 → run ≤ i →
    mSpN r z s (nI 1) (k + 1) i n (nI lo) (nI run) = nI (longN P z k i (max lo (run + row (frP P) k i)))
  | 0, i, lo, run, n, hk, hlo, hr => by
    rw [mSpN, if_neg (fun q => absurd q.1 (by omega)), if_neg (fun q => absurd q.2.2 (by decide)), mSpN, row, longN]
    show (if nI lo < nI run then nI run else nI lo) = _
    by_cases h : lo < run
    · rw [if_pos (nI_lt h (by omega)), show max lo (run + 0) = run by omega]
    · rw [if_neg (nI_nlt (by omega) (by omega)), show max lo (run + 0) = lo by omega]
  | k + 1, i, lo, run, n, hk, hlo, hr => by
    have hrw : rowP P z i = row (frP P) (k + 1) i := by unfold rowP; rw [show z - i = k + 1 by omega]
    rw [mSpN, free_eq (by omega) hC, longN, hrw, row]
    by_cases hf : frP P i = true
    · rw [if_pos ⟨by omega, hf⟩, if_pos hf, nI_add, long_all hz s hC k (i + 1) lo (run + 1) n (by omega) hlo (by omega)]
      congr 2
      split <;> omega
    · rw [if_neg (fun q => hf q.2), if_neg hf, if_neg (fun q => absurd q.2.2 (by decide))]
      have e : (if nI lo < nI run then nI run else nI lo) = nI (max lo run) := by
        by_cases h : lo < run
        · rw [if_pos (nI_lt h (by omega)), show max lo run = run by omega]
        · rw [if_neg (nI_nlt (by omega) (by omega)), show max lo run = lo by omega]
      rw [e, long_all hz s hC k (i + 1) (max lo run) 0 _ (by omega) (by omega) (by omega), if_neg (by omega)]
      congr 1
      cases k with
      | zero =>
        rw [row, longN, longN]
        omega
      | succ k =>
        have hrw2 : rowP P z (i + 1) = row (frP P) (k + 1) (i + 1) := by unfold rowP; rw [show z - (i + 1) = k + 1 by omega]
        rw [longN, longN, hrw2]
        congr 1
        split <;> split <;> omega
theorem long_eq {P : jO} {r : Nat → Int32} {z : Nat} (hz : z ≤ 64) (hz0 : 0 < z) (hC : CP P r) : mSpans r z (nI 0) (nI 1) = nI (longN P z z 0 0) := by
  unfold mSpans
  rw [long_all hz (nI 0) hC z 0 0 0 (nI 0) (by omega) (by omega) (by omega)]
  congr 1
  obtain ⟨k, rfl⟩ : ∃ k, z = k + 1 := ⟨z - 1, by omega⟩
  have hrw : rowP P (k + 1) 0 = row (frP P) (k + 1) 0 := rfl
  rw [longN, longN, hrw]
  congr 1
  split <;> split <;> omega
/-- how many of k places from n on -/
def cnF (p : Nat → Bool) : Nat → Nat → Nat
  | 0, _ => 0
  | k + 1, n => (if p n then 1 else 0) + cnF p k (n + 1)
theorem cnF_cnt (p : Nat → Bool) : ∀ (k n : Nat), cnt p n + cnF p k n = cnt p (n + k)
  | 0, n => rfl
  | k + 1, n => by
    have := cnF_cnt p k (n + 1)
    rw [cnF, show n + (k + 1) = n + 1 + k by omega, ← this, cnt]
    omega
def endd (P : jO) (i run : Nat) : Prop := (run = 0 ∧ (i = 0 ∨ frP P (i - 1) = false)) ∨ (0 < run ∧ run ≤ i ∧ frP P (i - 1) = true)
theorem stS_f (P : jO) (n : Nat) : stS P n = (frP P n && (decide (n = 0) || !frP P (n - 1))) := rfl
theorem end_free {P : jO} {i run : Nat} (hf : frP P i = true) (h : endd P i run) : endd P (i + 1) (run + 1) :=
  Or.inr ⟨by omega, by rcases h with h | h <;> omega, by rw [Nat.add_sub_cancel]; exact hf⟩
theorem end_not {P : jO} {i : Nat} (hf : ¬ frP P i = true) : endd P (i + 1) 0 :=
  Or.inl ⟨rfl, Or.inr (by rw [Nat.add_sub_cancel]; exact Bool.eq_false_iff.mpr hf)⟩
theorem stS_0 {P : jO} {i : Nat} (h : endd P i 0) : stS P i = frP P i := by
  rw [stS_f]
  rcases h with ⟨-, h | h⟩ | h
  · rw [decide_eq_true h, Bool.true_or, Bool.and_true]
  · rw [h]; simp
  · omega
theorem stS_1 {P : jO} {i run : Nat} (h0 : 0 < run) (h : endd P i run) : stS P i = false := by
  rw [stS_f]
  rcases h with h | ⟨a, b, c⟩
  · omega
  · rw [c, decide_eq_false (by omega)]; simp
theorem stS_n {P : jO} {i : Nat} (hf : ¬ frP P i = true) : stS P i = false := by
  rw [stS_f, Bool.eq_false_iff.mpr hf, Bool.false_and]
theorem pos_0 {run : Nat} (h : run ≤ 64) : (if (0 : Int32) < nI run then nI 1 else nI 0) = nI (if 0 < run then 1 else 0) := by
  by_cases q : 0 < run
  · rw [if_pos ((nI_0lt (by omega)).mpr q), if_pos q]
  · rw [if_neg (fun w => q ((nI_0lt (by omega)).mp w)), if_neg q]
theorem many_all {P : jO} {r : Nat → Int32} {z : Nat} (hz : z ≤ 64) (s : Int32) (hC : CP P r) : ∀ (k i run n : Nat) (lo : Int32), i + k = z → run ≤ i → endd P i run →
    mSpN r z s (nI 0) (k + 1) i (nI n) lo (nI run) = nI (n + (if 0 < run then 1 else 0) + cnF (stS P) k i)
  | 0, i, run, n, lo, hk, hr, he => by
    rw [mSpN, if_neg (fun q => absurd q.1 (by omega)), if_neg (fun q => absurd q.2.2 (by decide)), mSpN, pos_0 (by omega), nI_add]
    rfl
  | k + 1, i, run, n, lo, hk, hr, he => by
    rw [mSpN, free_eq (by omega) hC, cnF]
    by_cases hf : frP P i = true
    · rw [if_pos ⟨by omega, hf⟩, nI_add, many_all hz s hC k (i + 1) (run + 1) n lo (by omega) (by omega) (end_free hf he)]
      congr 1
      by_cases h0 : 0 < run
      · rw [stS_1 h0 he, if_pos (by omega), if_pos h0]
        simp
      · obtain rfl : run = 0 := by omega
        rw [stS_0 he, hf]
        simp
        omega
    · rw [if_neg (fun q => hf q.2), if_neg (fun q => absurd q.2.2 (by decide)), pos_0 (by omega), nI_add, many_all hz s hC k (i + 1) 0 _ _ (by omega) (by omega) (end_not hf), stS_n hf]
      simp
theorem many_eq {P : jO} {r : Nat → Int32} {z : Nat} (hz : z ≤ 64) (hC : CP P r) : mSpans r z (nI 0) (nI 0) = nI (cnt (stS P) z) := by
  unfold mSpans
  rw [many_all hz (nI 0) hC z 0 0 0 (nI 0) (by omega) (by omega) (Or.inl ⟨rfl, Or.inl rfl⟩)]
  have := cnF_cnt (stS P) z 0
  rw [cnt, Nat.zero_add, Nat.zero_add] at this
  rw [← this]
  simp
def spF (P : jO) (z : Nat) (q : Int32) : Option Nat → Int32
  | none => -1
  | some i => if q = nI 2 then nI i else nI (rowP P z i)
theorem at_all {P : jO} {r : Nat → Int32} {z : Nat} (hz : z ≤ 64) {q : Int32} (hq : q = nI 2 ∨ q = nI 3) (s : Int32) (hC : CP P r) : ∀ (k i run c : Nat) (lo : Int32), i + k = z → run ≤ i → endd P i run →
    mSpN r z s q (k + 1) i (nI c) lo (nI run) = if 0 < run then (if nI c = s then (if q = nI 2 then nI (i - run) else nI (run + row (frP P) k i)) else spF P z q (spanAt P s k i (c + 1))) else spF P z q (spanAt P s k i c)
  | 0, i, run, c, lo, hk, hr, he => by
    have q1 : nI 1 < q := by rcases hq with h | h <;> rw [h] <;> decide
    have q0 : ¬ q = 0 ∧ ¬ q = nI 1 := by rcases hq with h | h <;> rw [h] <;> decide
    rw [mSpN, if_neg (fun q => absurd q.1 (by omega))]
    by_cases h0 : 0 < run
    · rw [if_pos h0]
      by_cases hs : nI c = s
      · rw [if_pos hs, if_pos ⟨(nI_0lt (by omega)).mpr h0, hs, q1⟩, pk_sub hr, row, Nat.add_zero]
      · rw [if_neg hs, if_neg (fun w => hs w.2.1), mSpN]
        unfold mSpV
        rw [if_neg q0.1, if_neg q0.2]
        rfl
    · rw [if_neg h0, if_neg (fun w => h0 ((nI_0lt (by omega)).mp w.1)), mSpN]
      unfold mSpV
      rw [if_neg q0.1, if_neg q0.2]
      rfl
  | k + 1, i, run, c, lo, hk, hr, he => by
    have q1 : nI 1 < q := by rcases hq with h | h <;> rw [h] <;> decide
    have hrw : rowP P z i = row (frP P) (k + 1) i := by unfold rowP; rw [show z - i = k + 1 by omega]
    rw [mSpN, free_eq (by omega) hC]
    by_cases hf : frP P i = true
    · rw [if_pos ⟨by omega, hf⟩, nI_add, at_all hz hq s hC k (i + 1) (run + 1) c lo (by omega) (by omega) (end_free hf he), if_pos (by omega), spanAt, spanAt, row, if_pos hf]
      by_cases h0 : 0 < run
      · rw [if_pos h0, stS_1 h0 he, show i + 1 - (run + 1) = i - run by omega, show run + 1 + row (frP P) k (i + 1) = run + (row (frP P) k (i + 1) + 1) by omega]
        simp
      · obtain rfl : run = 0 := by omega
        rw [if_neg h0, stS_0 he, hf]
        by_cases hs : nI c = s
        · rw [if_pos hs, if_pos rfl, if_pos hs]
          unfold spF
          simp only
          rw [hrw, row, if_pos hf, show i + 1 - (0 + 1) = i by omega, show 0 + 1 + row (frP P) k (i + 1) = row (frP P) k (i + 1) + 1 by omega]
        · rw [if_neg hs, if_pos rfl, if_neg hs]
    · rw [if_neg (fun q => hf q.2), spanAt, spanAt, stS_n hf, row, if_neg hf]
      by_cases h0 : 0 < run
      · rw [if_pos h0]
        by_cases hs : nI c = s
        · rw [if_pos hs, if_pos ⟨(nI_0lt (by omega)).mpr h0, hs, q1⟩, pk_sub hr, Nat.add_zero]
        · rw [if_neg hs, if_neg (fun w => hs w.2.1), pos_0 (by omega), nI_add, at_all hz hq s hC k (i + 1) 0 _ _ (by omega) (by omega) (end_not hf), if_neg (by omega), if_pos h0]
          simp
      · obtain rfl : run = 0 := by omega
        rw [if_neg h0, if_neg (fun w => h0 ((nI_0lt (by omega)).mp w.1)), pos_0 (by omega), nI_add, at_all hz hq s hC k (i + 1) 0 _ _ (by omega) (by omega) (end_not hf), if_neg (by omega)]
        simp
theorem ofSp_eq {P : jO} {r : Nat → Int32} {z : Nat} (hz : z ≤ 64) (hC : CP P r) (s : Int32) {w : Nat} (hw : w ≤ 1) : mSpans r z s (nI (w + 2)) = ofSp P z s (nI w) := by
  unfold mSpans
  have hq : nI (w + 2) = nI 2 ∨ nI (w + 2) = nI 3 := by
    rcases (by omega : w = 0 ∨ w = 1) with h | h <;> subst h
    · exact Or.inl rfl
    · exact Or.inr rfl
  rw [at_all hz hq s hC z 0 0 0 (nI 0) (by omega) (by omega) (Or.inl ⟨rfl, Or.inl rfl⟩), if_neg (by omega)]
  unfold ofSp spF
  cases spanAt P s z 0 0 with
  | none => rfl
  | some f =>
    simp only
    rcases (by omega : w = 0 ∨ w = 1) with h | h <;> subst h
    · rw [if_pos (show nI (0 + 2) = nI 2 from rfl), if_pos (show nI 0 = 0 from rfl)]
    · rw [if_neg (show ¬ nI (1 + 2) = nI 2 by decide), if_neg (show ¬ nI 1 = 0 by decide)]
/-! holders -/
theorem dwn_cnt {f : Nat → Int32 → Int32} {p : Nat → Bool} {z : Nat} (hf : ∀ n v, n < z → f n v = v + nI (if p n = true then 1 else 0)) : ∀ (k c : Nat), k ≤ z → dwn f k (nI c) = nI (c + cnt p k)
  | 0, _, _ => rfl
  | k + 1, c, hk => by
    rw [dwn, hf k _ (by omega), nI_add, dwn_cnt hf k _ (by omega), cnt]
    congr 1
    omega
theorem if_nI (c : Prop) [Decidable c] (a b : Nat) : (if c then nI a else nI b) = nI (if c then a else b) := by split <;> rfl
