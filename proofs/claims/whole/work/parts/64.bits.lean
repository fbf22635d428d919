/-! DOUBLES, second part: the class's own bits -/
-- pasted from the kit (laws/BITS.to-paste): wb_tb .. wb_shl
theorem wb_tb (n : Nat) : (lN n).toBitVec = BitVec.ofNat 64 n := rfl
theorem wb_inj {a b : Int64} (h : a.toBitVec = b.toBitVec) : a = b := Int64.toBitVec_inj.mp h
theorem wb_c : ∀ k, k < 64 → ((nI k).toInt64 &&& 63) = lN k := by decide +kernel
theorem wb_sm : ∀ k, k < 64 → (BitVec.ofNat 64 k).smod 64 = BitVec.ofNat 64 k := by decide +kernel
theorem wb_shl (n : Nat) {k : Nat} (hk : k < 64) : lN n <<< ((nI k).toInt64 &&& 63) = lN (n * 2 ^ k) := by
  rw [wb_c k hk]
  apply wb_inj
  rw [Int64.toBitVec_shiftLeft, wb_tb, wb_tb, wb_tb, wb_sm k hk]
  apply BitVec.eq_of_toNat_eq
  rw [BitVec.shiftLeft_eq', BitVec.toNat_shiftLeft, BitVec.toNat_ofNat, BitVec.toNat_ofNat, BitVec.toNat_ofNat, Nat.mod_eq_of_lt (show k < 2 ^ 64 by omega), Nat.shiftLeft_eq, Nat.mul_mod, Nat.mod_mod, ← Nat.mul_mod]
theorem frac_all {y : UInt64} {c : Nat} (h : NX y c (-52)) : ∃ m, c = 4503599627370496 + m ∧ m < 4503599627370496 ∧ vD (FP.dsub y FP.dconst1) ≠ .nan ∧
    FP.Core.DInt (m : Int) (FP.dmul (FP.dsub y FP.dconst1) 4841369599423283200) := by
  obtain ⟨h0, h1, h2, h3, h4⟩ := h
  refine ⟨c - 4503599627370496, by omega, by omega, ?_⟩
  obtain ⟨m, hm⟩ : ∃ m, c = 4503599627370496 + m := ⟨c - 4503599627370496, by omega⟩
  rw [show c - 4503599627370496 = m by omega]
  have e : vD (FP.dsub y FP.dconst1) = FP.Core.round FP.Core.b64 (FP.Core.exactSum (vD y) (FP.Core.negate (vD FP.dconst1))) := FP.Core.val64_dsub _ _
  have eu : FP.Core.sumUnits false c (-52) true 4503599627370496 (-52) (min (-52) (-52)) = (m : Int) := by
    show ((c * 2 ^ ((-52 : Int) - min (-52) (-52)).toNat : Nat) : Int) + -((4503599627370496 * 2 ^ ((-52 : Int) - min (-52) (-52)).toNat : Nat) : Int) = m
    rw [show ((-52 : Int) - min (-52) (-52)).toNat = 0 by decide]
    omega
  have e2 : FP.Core.exactSum (vD y) (FP.Core.negate (vD FP.dconst1)) = .fin false m (-52) := by
    rw [h0, vD_one]
    show FP.Core.Datum.fin (FP.Core.sumSign false true (FP.Core.sumUnits false c (-52) true 4503599627370496 (-52) (min (-52) (-52)))) (FP.Core.sumUnits false c (-52) true 4503599627370496 (-52) (min (-52) (-52))).natAbs (min (-52) (-52)) = _
    rw [eu]
    have es : FP.Core.sumSign false true (m : Int) = false := by
      unfold FP.Core.sumSign
      split
      · rfl
      · exact decide_eq_false (by omega)
    rw [es]
    rfl
  obtain ⟨c', q', r1, r2⟩ := FP.Core.round_exact FP.Core.good_b64 false (c := m) (q := -52) (by rw [b64p]; omega) (by rw [b64q]; decide) (by rw [b64Q]; decide)
  rw [e2, r1] at e
  have hfit : FP.Core.fits FP.Core.b64 (.fin false c' q') := by rw [← r1]; exact FP.Core.round_fits FP.Core.good_b64 _
  obtain ⟨f1, f2, f3, f4⟩ := hfit
  rw [b64q] at f2
  refine ⟨by rw [e]; exact FP.Core.Datum.noConfusion, ?_⟩
  unfold FP.Core.DInt
  have em : FP.Core.val64 (FP.dmul (FP.dsub y FP.dconst1) 4841369599423283200) = FP.Core.round FP.Core.b64 (FP.Core.exactProduct (vD (FP.dsub y FP.dconst1)) (vD 4841369599423283200)) := FP.Core.val64_dmul _ _
  rw [em, e, vD_p52]
  refine FP.Core.whole_round FP.Core.good_b64 FP.Core.wide_b64 (by rw [b64p]; omega) ?_
  show FP.Core.signed (false != false) (c' * 4503599627370496 * 2 ^ (q' + 0).toNat) = (m : Int) * ((2 ^ (-(q' + 0)).toNat : Nat) : Int)
  unfold FP.Core.inUnits at r2
  rw [b64q] at r2
  have r2 : c' * 2 ^ (q' - -1074).toNat = m * 2 ^ 1022 := r2
  have key : c' * 4503599627370496 * 2 ^ (q' + 0).toNat = m * 2 ^ (-(q' + 0)).toNat := by
    refine Nat.eq_of_mul_eq_mul_right (Nat.two_pow_pos 1022) ?_
    rw [show (4503599627370496 : Nat) = 2 ^ 52 by decide]
    by_cases hq : 0 ≤ q'
    · rw [show (-(q' + 0)).toNat = 0 by omega, Nat.pow_zero, Nat.mul_one, ← r2, show (q' - -1074).toNat = 52 + (q' + 0).toNat + 1022 by omega, Nat.pow_add, Nat.pow_add, ← Nat.mul_assoc, ← Nat.mul_assoc]
    · rw [show (q' + 0).toNat = 0 by omega, Nat.pow_zero, Nat.mul_one, Nat.mul_right_comm m, ← r2, Nat.mul_assoc, Nat.mul_assoc, ← Nat.pow_add, ← Nat.pow_add, show (q' - -1074).toNat + (-(q' + 0)).toNat = 52 + 1022 by omega]
  show ((c' * 4503599627370496 * 2 ^ (q' + 0).toNat : Nat) : Int) = _
  rw [key, Int.natCast_mul]
theorem lN_I {n : Nat} : Int64.ofInt (n : Int) = lN n := Int64.ofInt_eq_ofNat
theorem ofD_all {x : UInt64} {c : Nat} {q : Int} (h : NX x c q) : okD x = true ∧ ofD x = x.toInt64 := by
  obtain ⟨y, a, b, u1, u2⟩ := dlV_all h
  obtain ⟨m, m1, m2, m3, m4⟩ := frac_all b
  have hP := dP_t h
  have e1 : (dlV x).1 = y := by rw [a]
  have e2 : (dlV x).2 = Int64.ofInt (1023 + (q + 52)) := by rw [a]
  have n1 : nn64 (FP.dsub y FP.dconst1) = true := nn_of m3
  have n2 : nn64 (FP.dmul (FP.dsub y FP.dconst1) 4841369599423283200) = true := nn_of (FP.Core.DInt_ne_nan m4)
  constructor
  · unfold okD
    rw [hP, u1, u2, e1, n1, n2]
    rfl
  · unfold ofD
    rw [if_pos hP, e1, e2]
    have e3 : FP.d2l (FP.dmul (FP.dsub y FP.dconst1) 4841369599423283200) = lN m :=
      FP.Core.d2l_int (a := lN m) (by rw [pk_lT (by omega)]; exact m4)
    obtain ⟨h0, h1, h2, h3, h4⟩ := h
    obtain ⟨E, hE⟩ : ∃ E : Nat, (E : Int) = 1023 + (q + 52) := ⟨(1023 + (q + 52)).toNat, by omega⟩
    rw [e3, ← hE, lN_I, wb_shl E (by decide), lN_add]
    -- the bits
    have hx : FP.Core.of64 (vD x) = x := FP.Core.of64_val64 (fun q => FP.Core.Datum.noConfusion (h0.symm.trans q))
    rw [h0] at hx
    have hn : FP.Core.encode FP.Core.b64 (.fin false c q) = E * 2 ^ 52 + m := by
      show (if c < FP.Core.b64.tails then FP.Core.assemble FP.Core.b64 false 0 c else FP.Core.assemble FP.Core.b64 false ((q - FP.Core.b64.qmin).toNat + 1) (c - FP.Core.b64.tails)) = _
      rw [b64t, if_neg (by omega), b64q]
      unfold FP.Core.assemble
      rw [b64t, show (false.toNat * FP.Core.b64.exps + ((q - -1074).toNat + 1)) = E by rw [show false.toNat = 0 from rfl]; omega]
      omega
    have hx2 : x = UInt64.ofNat (E * 2 ^ 52 + m) := by
      rw [← hn]
      exact hx.symm
    rw [hx2]
    rfl
/-! the mean -/
theorem i2d_nat {a : Nat} (h0 : 0 < a) (ha : a < 2 ^ 31) : ∃ c q, vD (FP.i2d (nI a)) = .fin false c q ∧ 0 < c ∧ a * 2 ^ (0 - q).toNat = c * 1 * 2 ^ (q - 0).toNat := by
  have e : vD (FP.i2d (nI a)) = FP.Core.round FP.Core.b64 (FP.Core.ofInt (nI a).toInt) := FP.Core.val64_i2d _
  have eo : FP.Core.ofInt (nI a).toInt = .fin false a 0 := by
    rw [nI_toInt ha]
    unfold FP.Core.ofInt
    rw [decide_eq_false (by omega)]
    rfl
  obtain ⟨c, q, f, hv⟩ := FP.Core.natFit FP.Core.good_b64 FP.Core.wide_b64 false (n := a) (by rw [b64p]; omega)
  refine ⟨c, q, ?_, ?_, hv⟩
  · rw [e, eo]
    exact FP.Core.roundRatio_exact FP.Core.good_b64 (by decide) f hv
  · rcases Nat.eq_zero_or_pos c with z | z
    · subst z
      have hp := Nat.two_pow_pos (0 - q).toNat
      have := Nat.mul_pos h0 hp
      omega
    · exact z
theorem mea_0 {a : Nat} (h0 : 0 < a) (ha : a < 2 ^ 31) : meaQ (nI 0) (nI a) = 0 := by
  obtain ⟨c, q, e, c0, -⟩ := i2d_nat h0 ha
  have ev : vD (meaQ (nI 0) (nI a)) = FP.Core.quotient FP.Core.b64 (vD (FP.i2d (nI 0))) (vD (FP.i2d (nI a))) := FP.Core.val64_ddiv _ _
  have e0 : vD (FP.i2d (nI 0)) = .fin false 0 (-1074) := by decide +kernel
  rw [e0, e] at ev
  have e2 : FP.Core.quotient FP.Core.b64 (.fin false 0 (-1074)) (.fin false c q) = vD 0 := by
    show (if c = 0 then (if (0 : Nat) = 0 then FP.Core.Datum.nan else .inf (false != false)) else FP.Core.roundRatio FP.Core.b64 (false != false) 0 c (-1074 - q)) = _
    rw [if_neg (by omega)]
    unfold FP.Core.roundRatio
    rw [if_pos rfl]
    decide +kernel
  rw [e2] at ev
  exact FP.Core.val64_inj (fun q => by rw [show vD (meaQ (nI 0) (nI a)) = .nan from q] at ev; exact absurd ev (by decide +kernel)) ev
theorem log_lt {a : Nat} (h0 : 0 < a) (ha : a < 2 ^ 31) : a.log2 < 31 := by
  have l1 : 2 ^ a.log2 ≤ a := Nat.log2_self_le (by omega)
  exact (Nat.pow_lt_pow_iff_right (by decide : 1 < 2)).mp (Nat.lt_of_le_of_lt l1 ha)
theorem mea_NX {u a : Nat} (hu : 0 < u) (hu2 : u < 2 ^ 31) (h0 : 0 < a) (ha : a < 2 ^ 31) : ∃ c q, NX (meaQ (nI u) (nI a)) c q := by
  obtain ⟨c1, q1, e1, p1, v1⟩ := i2d_nat hu hu2
  obtain ⟨c2, q2, e2, p2, v2⟩ := i2d_nat h0 ha
  have ev : vD (meaQ (nI u) (nI a)) = FP.Core.quotient FP.Core.b64 (vD (FP.i2d (nI u))) (vD (FP.i2d (nI a))) := FP.Core.val64_ddiv _ _
  rw [e1, e2] at ev
  have e3 : FP.Core.quotient FP.Core.b64 (.fin false c1 q1) (.fin false c2 q2) = FP.Core.roundRatio FP.Core.b64 false u a 0 := by
    show (if c2 = 0 then (if c1 = 0 then FP.Core.Datum.nan else .inf (false != false)) else FP.Core.roundRatio FP.Core.b64 (false != false) c1 c2 (q1 - q2)) = _
    rw [if_neg (by omega)]
    refine FP.Core.roundRatio_congr p2 h0 ?_
    rw [Nat.mul_one] at v1 v2
    -- c1 * a * 2^(q1-q2) = u * c2 * 2^(q2-q1)
    refine Nat.eq_of_mul_eq_mul_right (Nat.two_pow_pos ((0 - q1).toNat + (0 - q2).toNat + (q2 - 0).toNat)) ?_
    have h1 : c1 * a * 2 ^ (q1 - q2 - 0).toNat * 2 ^ ((0 - q1).toNat + (0 - q2).toNat + (q2 - 0).toNat) = c1 * (a * 2 ^ (0 - q2).toNat) * 2 ^ ((q1 - q2 - 0).toNat + (0 - q1).toNat + (q2 - 0).toNat) := by
      simp only [Nat.pow_add]
      ac_rfl
    have h2 : u * c2 * 2 ^ (0 - (q1 - q2)).toNat * 2 ^ ((0 - q1).toNat + (0 - q2).toNat + (q2 - 0).toNat) = c2 * (u * 2 ^ (0 - q1).toNat) * 2 ^ ((0 - (q1 - q2)).toNat + (0 - q2).toNat + (q2 - 0).toNat) := by
      simp only [Nat.pow_add]
      ac_rfl
    rw [h1, h2, v1, v2]
    have h3 : c1 * (c2 * 2 ^ (q2 - 0).toNat) * 2 ^ ((q1 - q2 - 0).toNat + (0 - q1).toNat + (q2 - 0).toNat) = c1 * c2 * 2 ^ ((q2 - 0).toNat + ((q1 - q2 - 0).toNat + (0 - q1).toNat + (q2 - 0).toNat)) := by
      simp only [Nat.pow_add]
      ac_rfl
    have h4 : c2 * (c1 * 2 ^ (q1 - 0).toNat) * 2 ^ ((0 - (q1 - q2)).toNat + (0 - q2).toNat + (q2 - 0).toNat) = c1 * c2 * 2 ^ ((q1 - 0).toNat + ((0 - (q1 - q2)).toNat + (0 - q2).toNat + (q2 - 0).toNat)) := by
      simp only [Nat.pow_add]
      ac_rfl
    rw [h3, h4]
    congr 2
    omega
  rw [e3] at ev
  have hf := FP.Core.roundRatio_fits FP.Core.good_b64 false u h0 0
  have hl1 := log_lt hu hu2
  have hl2 := log_lt h0 ha
  have hld : -31 ≤ FP.Core.leading u a ∧ FP.Core.leading u a ≤ 31 := by
    unfold FP.Core.leading
    dsimp only
    split <;> omega
  have hq : FP.Core.quantum FP.Core.b64 u a 0 = FP.Core.leading u a - 52 := by
    unfold FP.Core.quantum
    rw [b64q]
    show max (-1074) (FP.Core.leading u a + 0 - (53 - 1)) = _
    omega
  have hr : FP.Core.roundRatio FP.Core.b64 false u a 0 = FP.Core.roundAt FP.Core.b64 false u a 0 (FP.Core.leading u a - 52) := by
    unfold FP.Core.roundRatio
    rw [if_neg (by omega), hq]
  have hs : ∃ c q, FP.Core.roundRatio FP.Core.b64 false u a 0 = .fin false c q ∧ -90 ≤ q ∧ q ≤ 90 := by
    rw [hr]
    unfold FP.Core.roundAt FP.Core.settle FP.Core.bound
    rw [b64Q]
    split
    · rw [if_pos (by omega)]
      exact ⟨_, _, rfl, by omega, by omega⟩
    · rw [if_pos (by omega)]
      exact ⟨_, _, rfl, by omega, by omega⟩
  obtain ⟨c, q, e4, q3, q4⟩ := hs
  rw [e4] at hf ev
  obtain ⟨f1, f2, f3, f4⟩ := hf
  rw [b64p] at f1
  rw [b64q, b64t] at f4
  exact ⟨c, q, ev, by omega, f1, by omega, by omega⟩
/-- what digest and meanHeld need of the mean -/
theorem mea_all {u a : Nat} (hu : u < 2 ^ 31) (h0 : 0 < a) (ha : a < 2 ^ 31) : nn64 (meaQ (nI u) (nI a)) = true ∧ okD (meaQ (nI u) (nI a)) = true ∧ ofD (meaQ (nI u) (nI a)) = (meaQ (nI u) (nI a)).toInt64 ∧ FP.dcmp (meaQ (nI u) (nI a)) (meaQ (nI u) (nI a)) = some .eq := by
  rcases Nat.eq_zero_or_pos u with z | z
  · subst z
    rw [mea_0 h0 ha]
    decide +kernel
  · obtain ⟨c, q, h⟩ := mea_NX z hu h0 ha
    obtain ⟨b1, b2⟩ := ofD_all h
    exact ⟨NX_nn h, b1, b2, FP.Core.dcmp_self (fun q => FP.Core.Datum.noConfusion (h.1.symm.trans q))⟩
theorem mea_z : okD FP.dconst0 = true ∧ ofD FP.dconst0 = FP.dconst0.toInt64 ∧ FP.dcmp FP.dconst0 FP.dconst0 = some .eq := by decide +kernel
