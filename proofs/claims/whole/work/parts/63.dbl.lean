/-! DOUBLES: the class's own bits are the JDK's -/
abbrev vD (a : UInt64) : FP.Core.Datum := FP.Core.val64 a
theorem b64p : 2 ^ FP.Core.b64.p = 9007199254740992 := by decide +kernel
theorem b64q : FP.Core.b64.qmin = -1074 := by decide +kernel
theorem b64Q : FP.Core.b64.qmax = 971 := by decide +kernel
theorem b64t : FP.Core.b64.tails = 4503599627370496 := by decide +kernel
theorem vD_two : vD 4611686018427387904 = .fin false 4503599627370496 (-51) := by decide +kernel
theorem vD_one : vD FP.dconst1 = .fin false 4503599627370496 (-52) := by decide +kernel
theorem vD_p52 : vD 4841369599423283200 = .fin false 4503599627370496 0 := by decide +kernel
theorem vD_zero : vD FP.dconst0 = .fin false 0 (-1074) := by decide +kernel
/-- a positive number that is not subnormal: c * 2^q -/
def NX (x : UInt64) (c : Nat) (q : Int) : Prop := vD x = .fin false c q ∧ 4503599627370496 ≤ c ∧ c < 9007199254740992 ∧ -1074 ≤ q ∧ q ≤ 971
theorem fit64 {c : Nat} {q : Int} (h1 : 4503599627370496 ≤ c) (h2 : c < 9007199254740992) (h3 : -1074 ≤ q) (h4 : q ≤ 971) (s : Bool) : FP.Core.fits FP.Core.b64 (.fin s c q) := by
  show c < 2 ^ FP.Core.b64.p ∧ FP.Core.b64.qmin ≤ q ∧ q ≤ FP.Core.b64.qmax ∧ (q = FP.Core.b64.qmin ∨ FP.Core.b64.tails ≤ c)
  rw [b64p, b64q, b64Q, b64t]
  exact ⟨h2, h3, h4, Or.inr h1⟩
theorem NX_dbl {x : UInt64} {c : Nat} {q : Int} (h : NX x c q) (hq : q < 971) : NX (FP.dmul x 4611686018427387904) c (q + 1) := by
  obtain ⟨h0, h1, h2, h3, h4⟩ := h
  refine ⟨?_, h1, h2, by omega, by omega⟩
  have e : vD (FP.dmul x 4611686018427387904) = FP.Core.round FP.Core.b64 (FP.Core.exactProduct (vD x) (vD 4611686018427387904)) := FP.Core.val64_dmul _ _
  rw [e, h0, vD_two]
  refine FP.Core.roundRatio_exact (c := c) (q := q + 1) FP.Core.good_b64 (by decide) (fit64 h1 h2 (by omega) (by omega) _) ?_
  rw [show (q + -51 - (q + 1)).toNat = 0 by omega, show (q + 1 - (q + -51)).toNat = 52 by omega]
  omega
theorem NX_half {x : UInt64} {c : Nat} {q : Int} (h : NX x c q) (hq : -1074 < q) : NX (FP.ddiv x 4611686018427387904) c (q - 1) := by
  obtain ⟨h0, h1, h2, h3, h4⟩ := h
  refine ⟨?_, h1, h2, by omega, by omega⟩
  have e : vD (FP.ddiv x 4611686018427387904) = FP.Core.quotient FP.Core.b64 (vD x) (vD 4611686018427387904) := FP.Core.val64_ddiv _ _
  rw [e, h0, vD_two]
  show (if (4503599627370496 : Nat) = 0 then (if c = 0 then FP.Core.Datum.nan else .inf (false != false)) else FP.Core.roundRatio FP.Core.b64 (false != false) c 4503599627370496 (q - -51)) = _
  rw [if_neg (by decide)]
  refine FP.Core.roundRatio_exact (c := c) (q := q - 1) FP.Core.good_b64 (by decide) (fit64 h1 h2 (by omega) (by omega) _) ?_
  rw [show (q - -51 - (q - 1)).toNat = 52 by omega, show (q - 1 - (q - -51)).toNat = 0 by omega]
  omega
theorem nn_of {r : UInt64} (h : vD r ≠ .nan) : nn64 r = true := by
  unfold nn64
  have := (FP.Core.ne_nan r).mp h
  rw [decide_eq_true_eq, UInt64.le_iff_toNat_le, UInt64.toNat_and]
  rw [show (9223372036854775807 : UInt64).toNat = 2 ^ 63 - 1 by decide, Nat.and_two_pow_sub_one_eq_mod]
  exact this
theorem NX_nn {x : UInt64} {c : Nat} {q : Int} (h : NX x c q) : nn64 x = true := nn_of (by rw [h.1]; exact FP.Core.Datum.noConfusion)
/-- compared with a power of two -/
theorem NX_cmp {x y : UInt64} {c : Nat} {q b : Int} (h : NX x c q) (hy : vD y = .fin false 4503599627370496 b) : FP.dcmp x y = some (compare ((c * 2 ^ (q - min q b).toNat : Nat) : Int) ((4503599627370496 * 2 ^ (b - min q b).toNat : Nat) : Int)) := by
  show FP.Core.order (vD x) (vD y) = _
  rw [h.1, hy]
  rfl
theorem cmp_lt {x y : UInt64} {c : Nat} {q b : Int} (h : NX x c q) (hy : vD y = .fin false 4503599627370496 b) (hq : q < b) : FP.dcmp x y = some .lt := by
  rw [NX_cmp h hy, show (q - min q b).toNat = 0 by omega]
  obtain ⟨k, hk⟩ : ∃ k, (b - min q b).toNat = k + 1 := ⟨(b - min q b).toNat - 1, by omega⟩
  rw [hk, Nat.pow_succ]
  have hp := Nat.two_pow_pos k
  have h2 := h.2.2.1
  have : c * 2 ^ 0 < 4503599627370496 * (2 ^ k * 2) := by
    generalize 2 ^ k = m at hp
    omega
  exact congrArg some (Int.compare_eq_lt.mpr (Int.ofNat_lt.mpr this))
theorem cmp_ge {x y : UInt64} {c : Nat} {q b : Int} (h : NX x c q) (hy : vD y = .fin false 4503599627370496 b) (hq : b ≤ q) : FP.dcmp x y = some .gt ∨ FP.dcmp x y = some .eq := by
  rw [NX_cmp h hy, show (b - min q b).toNat = 0 by omega]
  have hp := Nat.two_pow_pos (q - min q b).toNat
  have h1 := h.2.1
  have : 4503599627370496 * 2 ^ 0 ≤ c * 2 ^ (q - min q b).toNat := by
    calc 4503599627370496 * 2 ^ 0 = 4503599627370496 * 1 := by rfl
      _ ≤ c * 2 ^ (q - min q b).toNat := Nat.mul_le_mul h1 hp
  rcases Nat.lt_or_ge (4503599627370496 * 2 ^ 0) (c * 2 ^ (q - min q b).toNat) with a | a
  · left
    exact congrArg some (Int.compare_eq_gt.mpr (Int.ofNat_lt.mpr a))
  · right
    exact congrArg some (Int.compare_eq_eq.mpr (congrArg Nat.cast (Nat.le_antisymm a this)))
theorem dU_iff {x : UInt64} {c : Nat} {q : Int} (h : NX x c q) : dU x = decide (q < -52) := by
  unfold dU
  by_cases hq : q < -52
  · rw [cmp_lt h vD_one hq, decide_eq_true hq]
    decide
  · rw [decide_eq_false hq]
    rcases cmp_ge h vD_one (by omega) with e | e <;> rw [e] <;> decide
theorem dD_iff {x : UInt64} {c : Nat} {q : Int} (h : NX x c q) : dD x = decide (q < -51) := by
  unfold dD
  by_cases hq : q < -51
  · rw [cmp_lt h vD_two hq, decide_eq_true hq]
    decide
  · rw [decide_eq_false hq]
    rcases cmp_ge h vD_two (by omega) with e | e <;> rw [e] <;> decide
theorem dP_t {x : UInt64} {c : Nat} {q : Int} (h : NX x c q) : dP x = true := by
  unfold dP
  have e : FP.dcmp x FP.dconst0 = some .gt := by
    show FP.Core.order (vD x) (vD FP.dconst0) = _
    rw [h.1, vD_zero]
    show some (compare ((c * 2 ^ (q - min q (-1074)).toNat : Nat) : Int) ((0 * 2 ^ (-1074 - min q (-1074)).toNat : Nat) : Int)) = _
    have hp := Nat.two_pow_pos (q - min q (-1074)).toNat
    have h1 := h.2.1
    have : 0 * 2 ^ (-1074 - min q (-1074)).toNat < c * 2 ^ (q - min q (-1074)).toNat := by
      rw [Nat.zero_mul]
      exact Nat.mul_pos (by omega) hp
    exact congrArg some (Int.compare_eq_gt.mpr (Int.ofNat_lt.mpr this))
  rw [e]
  decide
theorem i64_s (i : Int) : Int64.ofInt i - 1 = Int64.ofInt (i - 1) := by
  rw [Int64.ofInt_sub]
  rfl
theorem i64_a (i : Int) : Int64.ofInt i + 1 = Int64.ofInt (i + 1) := by
  rw [Int64.ofInt_add]
  rfl
theorem up_all {c : Nat} : ∀ (k : Nat) (x : UInt64) (q i : Int), NX x c q → q ≤ -52 → -52 - q ≤ k → ∃ y, dlU k x (Int64.ofInt i) = (y, Int64.ofInt (i - (-52 - q))) ∧ NX y c (-52) ∧ dlUk k x = true
  | 0, x, q, i, h, h1, h2 => by
    obtain rfl : q = -52 := by omega
    exact ⟨x, by rw [dlU, show i - (-52 - -52) = i by omega], h, rfl⟩
  | k + 1, x, q, i, h, h1, h2 => by
    rw [dlU, dlUk, dU_iff h]
    by_cases hq : q < -52
    · rw [decide_eq_true hq, if_pos rfl, if_pos rfl]
      have hd := NX_dbl h (by omega)
      obtain ⟨y, a, b, d⟩ := up_all k _ (q + 1) (i - 1) hd (by omega) (by omega)
      refine ⟨y, ?_, b, by rw [NX_nn hd, d]; rfl⟩
      rw [i64_s, a]
      congr 2
      omega
    · obtain rfl : q = -52 := by omega
      rw [decide_eq_false hq, if_neg (by decide), if_neg (by decide)]
      exact ⟨x, by rw [show i - (-52 - -52) = i by omega], h, rfl⟩
theorem up_none {x : UInt64} {c : Nat} {q : Int} {e : Int64} (h : NX x c q) (hq : -52 ≤ q) (k : Nat) : dlU k x e = (x, e) ∧ dlUk k x = true := by
  cases k with
  | zero => exact ⟨rfl, rfl⟩
  | succ k =>
    rw [dlU, dlUk, dU_iff h, decide_eq_false (by omega), if_neg (by decide), if_neg (by decide)]
    exact ⟨rfl, rfl⟩
theorem dn_all {c : Nat} : ∀ (k : Nat) (x : UInt64) (q i : Int), NX x c q → -52 ≤ q → q + 52 ≤ k → ∃ y, dlD k x (Int64.ofInt i) = (y, Int64.ofInt (i + (q + 52))) ∧ NX y c (-52) ∧ dlDk k x = true
  | 0, x, q, i, h, h1, h2 => by
    obtain rfl : q = -52 := by omega
    exact ⟨x, by rw [dlD, show i + (-52 + 52) = i by omega], h, rfl⟩
  | k + 1, x, q, i, h, h1, h2 => by
    rw [dlD, dlDk, dD_iff h]
    by_cases hq : q < -51
    · obtain rfl : q = -52 := by omega
      rw [decide_eq_true hq, if_pos rfl, if_pos rfl]
      exact ⟨x, by rw [show i + (-52 + 52) = i by omega], h, rfl⟩
    · rw [decide_eq_false hq, if_neg (by decide), if_neg (by decide)]
      have hd := NX_half h (by omega)
      obtain ⟨y, a, b, d⟩ := dn_all k _ (q - 1) (i + 1) hd (by omega) (by omega)
      refine ⟨y, ?_, b, by rw [NX_nn hd, d]; rfl⟩
      rw [i64_a, a]
      congr 2
      omega
theorem dlV_all {x : UInt64} {c : Nat} {q : Int} (h : NX x c q) : ∃ y, dlV x = (y, Int64.ofInt (1023 + (q + 52))) ∧ NX y c (-52) ∧ dlUk 1023 x = true ∧ dlDk 1023 (dlU 1023 x 1023).1 = true := by
  unfold dlV
  have e0 : (1023 : Int64) = Int64.ofInt 1023 := rfl
  rw [e0]
  by_cases hq : q < -52
  · obtain ⟨y, a, b, d⟩ := up_all 1023 x q 1023 h (by omega) (by have := h.2.2.2.1; omega)
    rw [a]
    obtain ⟨y2, a2, b2, d2⟩ := dn_all 1023 y (-52) (1023 - (-52 - q)) b (by omega) (by omega)
    refine ⟨y2, ?_, b2, d, d2⟩
    rw [a2]
    congr 2
    omega
  · obtain ⟨a, d⟩ := up_none (e := Int64.ofInt 1023) h (by omega) 1023
    rw [a]
    obtain ⟨y2, a2, b2, d2⟩ := dn_all 1023 x q 1023 h (by omega) (by have := h.2.2.2.2; omega)
    exact ⟨y2, a2, b2, d, d2⟩
