/-! ROWS OF FLOATS AND DOUBLES -/
section ROWSF
variable {l : Launch} {E : jE} {own : String} {cc : ByteArray} {nL d n0 cap : Nat} {J : jT} {pc : Nat} {L : List (Option Value)} {rest : List Value} {G : jG}
theorem r_fconst0 (hJ : jR l E own cc nL d n0 cap J)  (hd : decode cc pc = .ok (.fconst 0, 1)) (k : J G (pc + 1) L (.float FP.fconst0 :: rest)) : J G pc L rest := by
  obtain ⟨p, e, R, s, m, args, below, meth, c, Q, cb, sb, rfl, ⟨hx, hb, hml, hown, hts⟩, hfr, hlo, hce, hsl, hB⟩ := hJ
  intro h1 h2 H locs ls hP hS hl
  exact lv_fconst0 hx hb hd (k h1 h2 H locs ls hP hS hl)
theorem r_fconst1 (hJ : jR l E own cc nL d n0 cap J)  (hd : decode cc pc = .ok (.fconst 1, 1)) (k : J G (pc + 1) L (.float FP.fconst1 :: rest)) : J G pc L rest := by
  obtain ⟨p, e, R, s, m, args, below, meth, c, Q, cb, sb, rfl, ⟨hx, hb, hml, hown, hts⟩, hfr, hlo, hce, hsl, hB⟩ := hJ
  intro h1 h2 H locs ls hP hS hl
  exact lv_fconst1 hx hb hd (k h1 h2 H locs ls hP hS hl)
theorem r_fconst2 (hJ : jR l E own cc nL d n0 cap J)  (hd : decode cc pc = .ok (.fconst 2, 1)) (k : J G (pc + 1) L (.float FP.fconst2 :: rest)) : J G pc L rest := by
  obtain ⟨p, e, R, s, m, args, below, meth, c, Q, cb, sb, rfl, ⟨hx, hb, hml, hown, hts⟩, hfr, hlo, hce, hsl, hB⟩ := hJ
  intro h1 h2 H locs ls hP hS hl
  exact lv_fconst2 hx hb hd (k h1 h2 H locs ls hP hS hl)
theorem r_dconst0 (hJ : jR l E own cc nL d n0 cap J)  (hd : decode cc pc = .ok (.dconst 0, 1)) (k : J G (pc + 1) L (.double FP.dconst0 :: rest)) : J G pc L rest := by
  obtain ⟨p, e, R, s, m, args, below, meth, c, Q, cb, sb, rfl, ⟨hx, hb, hml, hown, hts⟩, hfr, hlo, hce, hsl, hB⟩ := hJ
  intro h1 h2 H locs ls hP hS hl
  exact lv_dconst0 hx hb hd (k h1 h2 H locs ls hP hS hl)
theorem r_dconst1 (hJ : jR l E own cc nL d n0 cap J)  (hd : decode cc pc = .ok (.dconst 1, 1)) (k : J G (pc + 1) L (.double FP.dconst1 :: rest)) : J G pc L rest := by
  obtain ⟨p, e, R, s, m, args, below, meth, c, Q, cb, sb, rfl, ⟨hx, hb, hml, hown, hts⟩, hfr, hlo, hce, hsl, hB⟩ := hJ
  intro h1 h2 H locs ls hP hS hl
  exact lv_dconst1 hx hb hd (k h1 h2 H locs ls hP hS hl)
theorem r_fsub (hJ : jR l E own cc nL d n0 cap J) {x y : UInt32} (hne : vf_n32 (FP.fsub x y)) (hd : decode cc pc = .ok (.fsub, 1)) (k : J G (pc + 1) L (.float (FP.fsub x y) :: rest)) : J G pc L (.float y :: .float x :: rest) := by
  obtain ⟨p, e, R, s, m, args, below, meth, c, Q, cb, sb, rfl, ⟨hx, hb, hml, hown, hts⟩, hfr, hlo, hce, hsl, hB⟩ := hJ
  intro h1 h2 H locs ls hP hS hl
  exact lv_fsub hx hb hd hne (k h1 h2 H locs ls hP hS hl)
theorem r_fmul (hJ : jR l E own cc nL d n0 cap J) {x y : UInt32} (hne : vf_n32 (FP.fmul x y)) (hd : decode cc pc = .ok (.fmul, 1)) (k : J G (pc + 1) L (.float (FP.fmul x y) :: rest)) : J G pc L (.float y :: .float x :: rest) := by
  obtain ⟨p, e, R, s, m, args, below, meth, c, Q, cb, sb, rfl, ⟨hx, hb, hml, hown, hts⟩, hfr, hlo, hce, hsl, hB⟩ := hJ
  intro h1 h2 H locs ls hP hS hl
  exact lv_fmul hx hb hd hne (k h1 h2 H locs ls hP hS hl)
theorem r_fdiv (hJ : jR l E own cc nL d n0 cap J) {x y : UInt32} (hne : vf_n32 (FP.fdiv x y)) (hd : decode cc pc = .ok (.fdiv, 1)) (k : J G (pc + 1) L (.float (FP.fdiv x y) :: rest)) : J G pc L (.float y :: .float x :: rest) := by
  obtain ⟨p, e, R, s, m, args, below, meth, c, Q, cb, sb, rfl, ⟨hx, hb, hml, hown, hts⟩, hfr, hlo, hce, hsl, hB⟩ := hJ
  intro h1 h2 H locs ls hP hS hl
  exact lv_fdiv hx hb hd hne (k h1 h2 H locs ls hP hS hl)
theorem r_fcmp (hJ : jR l E own cc nL d n0 cap J) {x y : UInt32} {op : CmpOp} (hd : decode cc pc = .ok (.fcmp op, 1)) (k : J G (pc + 1) L (.int (Op.cmpValue (FP.fcmp x y) op) :: rest)) : J G pc L (.float y :: .float x :: rest) := by
  obtain ⟨p, e, R, s, m, args, below, meth, c, Q, cb, sb, rfl, ⟨hx, hb, hml, hown, hts⟩, hfr, hlo, hce, hsl, hB⟩ := hJ
  intro h1 h2 H locs ls hP hS hl
  exact lv_fcmp hx hb hd (k h1 h2 H locs ls hP hS hl)
theorem r_i2f (hJ : jR l E own cc nL d n0 cap J) {x : Int32} (hd : decode cc pc = .ok (.i2f, 1)) (k : J G (pc + 1) L (.float (FP.i2f x) :: rest)) : J G pc L (.int x :: rest) := by
  obtain ⟨p, e, R, s, m, args, below, meth, c, Q, cb, sb, rfl, ⟨hx, hb, hml, hown, hts⟩, hfr, hlo, hce, hsl, hB⟩ := hJ
  intro h1 h2 H locs ls hP hS hl
  exact lv_i2f hx hb hd (k h1 h2 H locs ls hP hS hl)
theorem r_dsub (hJ : jR l E own cc nL d n0 cap J) {x y : UInt64} (hne : vf_n64 (FP.dsub x y)) (hd : decode cc pc = .ok (.dsub, 1)) (k : J G (pc + 1) L (.double (FP.dsub x y) :: rest)) : J G pc L (.double y :: .double x :: rest) := by
  obtain ⟨p, e, R, s, m, args, below, meth, c, Q, cb, sb, rfl, ⟨hx, hb, hml, hown, hts⟩, hfr, hlo, hce, hsl, hB⟩ := hJ
  intro h1 h2 H locs ls hP hS hl
  exact lv_dsub hx hb hd hne (k h1 h2 H locs ls hP hS hl)
theorem r_dmul (hJ : jR l E own cc nL d n0 cap J) {x y : UInt64} (hne : vf_n64 (FP.dmul x y)) (hd : decode cc pc = .ok (.dmul, 1)) (k : J G (pc + 1) L (.double (FP.dmul x y) :: rest)) : J G pc L (.double y :: .double x :: rest) := by
  obtain ⟨p, e, R, s, m, args, below, meth, c, Q, cb, sb, rfl, ⟨hx, hb, hml, hown, hts⟩, hfr, hlo, hce, hsl, hB⟩ := hJ
  intro h1 h2 H locs ls hP hS hl
  exact lv_dmul hx hb hd hne (k h1 h2 H locs ls hP hS hl)
theorem r_ddiv (hJ : jR l E own cc nL d n0 cap J) {x y : UInt64} (hne : vf_n64 (FP.ddiv x y)) (hd : decode cc pc = .ok (.ddiv, 1)) (k : J G (pc + 1) L (.double (FP.ddiv x y) :: rest)) : J G pc L (.double y :: .double x :: rest) := by
  obtain ⟨p, e, R, s, m, args, below, meth, c, Q, cb, sb, rfl, ⟨hx, hb, hml, hown, hts⟩, hfr, hlo, hce, hsl, hB⟩ := hJ
  intro h1 h2 H locs ls hP hS hl
  exact lv_ddiv hx hb hd hne (k h1 h2 H locs ls hP hS hl)
theorem r_dcmp (hJ : jR l E own cc nL d n0 cap J) {x y : UInt64} {op : CmpOp} (hd : decode cc pc = .ok (.dcmp op, 1)) (k : J G (pc + 1) L (.int (Op.cmpValue (FP.dcmp x y) op) :: rest)) : J G pc L (.double y :: .double x :: rest) := by
  obtain ⟨p, e, R, s, m, args, below, meth, c, Q, cb, sb, rfl, ⟨hx, hb, hml, hown, hts⟩, hfr, hlo, hce, hsl, hB⟩ := hJ
  intro h1 h2 H locs ls hP hS hl
  exact lv_dcmp hx hb hd (k h1 h2 H locs ls hP hS hl)
theorem r_i2d (hJ : jR l E own cc nL d n0 cap J) {x : Int32} (hd : decode cc pc = .ok (.i2d, 1)) (k : J G (pc + 1) L (.double (FP.i2d x) :: rest)) : J G pc L (.int x :: rest) := by
  obtain ⟨p, e, R, s, m, args, below, meth, c, Q, cb, sb, rfl, ⟨hx, hb, hml, hown, hts⟩, hfr, hlo, hce, hsl, hB⟩ := hJ
  intro h1 h2 H locs ls hP hS hl
  exact lv_i2d hx hb hd (k h1 h2 H locs ls hP hS hl)
theorem r_f2i (hJ : jR l E own cc nL d n0 cap J) {x : UInt32} (hd : decode cc pc = .ok (.f2i, 1)) (k : J G (pc + 1) L (.int (FP.f2i x) :: rest)) : J G pc L (.float x :: rest) := by
  obtain ⟨p, e, R, s, m, args, below, meth, c, Q, cb, sb, rfl, ⟨hx, hb, hml, hown, hts⟩, hfr, hlo, hce, hsl, hB⟩ := hJ
  intro h1 h2 H locs ls hP hS hl
  exact lv_f2i hx hb hd (k h1 h2 H locs ls hP hS hl)
theorem r_d2l (hJ : jR l E own cc nL d n0 cap J) {x : UInt64} (hd : decode cc pc = .ok (.d2l, 1)) (k : J G (pc + 1) L (.long (FP.d2l x) :: rest)) : J G pc L (.double x :: rest) := by
  obtain ⟨p, e, R, s, m, args, below, meth, c, Q, cb, sb, rfl, ⟨hx, hb, hml, hown, hts⟩, hfr, hlo, hce, hsl, hB⟩ := hJ
  intro h1 h2 H locs ls hP hS hl
  exact lv_d2l hx hb hd (k h1 h2 H locs ls hP hS hl)
theorem r_lshl (hJ : jR l E own cc nL d n0 cap J) {x v : Int64} {y : Int32} (hv : x <<< (y.toInt64 &&& 63) = v) (hd : decode cc pc = .ok (.lshl, 1)) (k : J G (pc + 1) L (.long v :: rest)) : J G pc L (.int y :: .long x :: rest) := by
  obtain ⟨p, e, R, s, m, args, below, meth, c, Q, cb, sb, rfl, ⟨hx, hb, hml, hown, hts⟩, hfr, hlo, hce, hsl, hB⟩ := hJ
  intro h1 h2 H locs ls hP hS hl
  exact lv_lshl hx hb hd hv (k h1 h2 H locs ls hP hS hl)
theorem r_ldcf (hJ : jR l E own cc nL d n0 cap J) {ix : Nat} {v : UInt32} (hw : Cond.constantFloat own ix v ∈ gw) (hd : decode cc pc = .ok (.ldc ix, 2)) (k : J G (pc + 2) L (.float v :: rest)) : J G pc L rest := by
  obtain ⟨p, e, R, s, m, args, below, meth, c, Q, cb, sb, rfl, ⟨hx, hb, hml, hown, hts⟩, hfr, hlo, hce, hsl, hB⟩ := hJ
  intro h1 h2 H locs ls hP hS hl
  exact lv_ldcf hx hb hown (hts _ hw) hd (k h1 h2 H locs ls hP hS hl)
theorem r_ldc2d (hJ : jR l E own cc nL d n0 cap J) {ix : Nat} {v : UInt64} (hw : Cond.constantDouble own ix v ∈ gw) (hd : decode cc pc = .ok (.ldc2_w ix, 3)) (k : J G (pc + 3) L (.double v :: rest)) : J G pc L rest := by
  obtain ⟨p, e, R, s, m, args, below, meth, c, Q, cb, sb, rfl, ⟨hx, hb, hml, hown, hts⟩, hfr, hlo, hce, hsl, hB⟩ := hJ
  intro h1 h2 H locs ls hP hS hl
  exact lv_ldc2d hx hb hown (hts _ hw) hd (k h1 h2 H locs ls hP hS hl)
theorem r_ldc2 (hJ : jR l E own cc nL d n0 cap J) {ix : Nat} {v : Int64} (hw : Cond.constantLong own ix v ∈ gw) (hd : decode cc pc = .ok (.ldc2_w ix, 3)) (k : J G (pc + 3) L (.long v :: rest)) : J G pc L rest := by
  obtain ⟨p, e, R, s, m, args, below, meth, c, Q, cb, sb, rfl, ⟨hx, hb, hml, hown, hts⟩, hfr, hlo, hce, hsl, hB⟩ := hJ
  intro h1 h2 H locs ls hP hS hl
  exact lv_ldc2 hx hb hown (hts _ hw) hd (k h1 h2 H locs ls hP hS hl)
theorem r_rawF (hJ : jR l E own cc nL d n0 cap J) {ix : Nat} {b : UInt32} (w1 : Cond.methodLink own ix ⟨"java/lang/Float", "floatToRawIntBits", "(F)I"⟩ ∈ gw) (w2 : Cond.native ⟨"java/lang/Float", "floatToRawIntBits", "(F)I"⟩ ∈ gw) (w3 : Cond.static ⟨"java/lang/Float", "floatToRawIntBits", "(F)I"⟩ ∈ gw) (w4 : Cond.initialized "java/lang/Float" ∈ gw) (hd : decode cc pc = .ok (.invokestatic ix, 3)) (hdd : 1 ≤ d) (hst : (rest.map fun v => v.category).sum ≤ 8) (k : J G (pc + 3) L (.int b.toInt32 :: rest)) : J G pc L (.float b :: rest) := by
  obtain ⟨p, e, R, s, m, args, below, meth, c, Q, cb, sb, rfl, ⟨hx, hb, hml, hown, hts⟩, hfr, hlo, hce, hsl, hB⟩ := hJ
  intro h1 h2 H locs ls hP hS hl
  exact vn_f2i hx hb (by rw [hml]; exact hl.1.symm) hown (hts _ w1) (hts _ w2) (hts _ w3) (hts _ w4) (by omega) (by omega) hd (k h1 h2 H locs ls hP hS hl)
theorem r_rawD (hJ : jR l E own cc nL d n0 cap J) {ix : Nat} {b : UInt64} (w1 : Cond.methodLink own ix ⟨"java/lang/Double", "doubleToRawLongBits", "(D)J"⟩ ∈ gw) (w2 : Cond.native ⟨"java/lang/Double", "doubleToRawLongBits", "(D)J"⟩ ∈ gw) (w3 : Cond.static ⟨"java/lang/Double", "doubleToRawLongBits", "(D)J"⟩ ∈ gw) (w4 : Cond.initialized "java/lang/Double" ∈ gw) (hd : decode cc pc = .ok (.invokestatic ix, 3)) (hdd : 1 ≤ d) (hst : (rest.map fun v => v.category).sum ≤ 8) (k : J G (pc + 3) L (.long b.toInt64 :: rest)) : J G pc L (.double b :: rest) := by
  obtain ⟨p, e, R, s, m, args, below, meth, c, Q, cb, sb, rfl, ⟨hx, hb, hml, hown, hts⟩, hfr, hlo, hce, hsl, hB⟩ := hJ
  intro h1 h2 H locs ls hP hS hl
  exact vn_d2l hx hb (by rw [hml]; exact hl.1.symm) hown (hts _ w1) (hts _ w2) (hts _ w3) (hts _ w4) (by omega) (by omega) hd (k h1 h2 H locs ls hP hS hl)
def wSO (own : String) (ix : Nat) (y : MethodName) (cc : ByteArray) (nL : Nat) (ret : Option FieldType) (n : Nat) : Prop :=
  Cond.methodLink own ix y ∈ gw ∧ Cond.static y ∈ gw ∧ Cond.initialized y.cls ∈ gw ∧ Cond.code y cc nL ret ∈ gw ∧ (y.cls ≠ "java/lang/invoke/MethodHandle" ∧ y.cls ≠ "java/lang/invoke/VarHandle" ∧ (parseMethodDescriptor y.desc).map (fun d => d.parameters.length) = some n)
theorem gI_SO {own : String} {ix nL n : Nat} {y : MethodName} {cc : ByteArray} {ret : Option FieldType} (w : wSO own ix y cc nL ret n) : GoodIn gw (va_wsS own ix y (.code y cc nL ret :: gw)) := by
  obtain ⟨h1, h2, h3, h4, -⟩ := w
  refine gI fun z hz => ?_
  simp only [va_wsS, List.cons_append, List.nil_append, List.mem_cons] at hz
  rcases hz with rfl | rfl | rfl | rfl | hz
  · exact h1
  · exact h2
  · exact h3
  · exact h4
  · exact hz
theorem r_callSO (hJ : jR l E own cc nL d n0 cap J) {ix nL' n d' : Nat} {y : MethodName} {cc' : ByteArray} {ret : Option FieldType} {As : List Value} {G G' : jG} {r : Option Value} (w : wSO own ix y cc' nL' ret n) (ct : Ct l E y cc' nL' ret d' As G r G')
    (hd : decode cc pc = .ok (.invokestatic ix, 3)) (hdd : d' < d ∧ nL' ≤ 13) (hn : As.length = n) (hst : (rest.map fun v => v.category).sum ≤ 8) (hcap : G.2.2.2 ≤ n0 + cap → G'.2.2.2 ≤ n0 + cap) (k : J G' (pc + 3) L (r.toList ++ rest)) : J G pc L (As.reverse ++ rest) := by
  obtain ⟨p, e, R, s, m, args, below, meth, c, Q, cb, sb, rfl, hfix, hfr, hlo, hce, hsl, hB⟩ := hJ
  obtain ⟨kx, hkx, hM⟩ := ct
  intro h1 h2 H locs ls hP hS hl
  have hcp := hcap h2
  have hr := va_runS (e := e) (below := below) (meth := meth) (rest := rest) (g := F0 m pc ls (As.reverse ++ rest)) (cells := cb + (G.2.2.2 - n0)) (slots := sb + 6 * (G.2.2.2 - n0)) (locs := locs) (As := As) (H := H) hfix hM
    (va_cwS n hfix.2.2.2.2 (gI_SO w) rfl rfl rfl w.2.2.2.2 ⟨by show d' + 1 ≤ R.frames; omega, by show 8 + (nL' + 11) + 32 * d' ≤ R.locals; omega⟩)
    ⟨jPc_blind E _ G, fun U hU hW => ⟨rfl, by rw [hU]; exact hP, hB.go hS hW hU⟩⟩ rfl hn hl.1 rfl (lv_room hst) hd ⟨by omega, by omega⟩
  exact jAfter hB h1 hkx hcp hS hl hr k
theorem r_S1o (hJ : jR l E own cc nL d n0 cap J) {ix nL' d' : Nat} {y : MethodName} {cc' : ByteArray} {ret : Option FieldType} {S : jS} {x : jX} {v v1 : Value} (w : wSO own ix y cc' nL' ret 1) (ct : Ct l E y cc' nL' ret d' [v1] (S, x) (some v) (S, x)) (hd : decode cc pc = .ok (.invokestatic ix, 3)) (hdd : d' < d ∧ nL' ≤ 13) (hst : (rest.map fun v => v.category).sum ≤ 8) (k : J (S, x) (pc + 3) L (v :: rest)) : J (S, x) pc L (v1 :: rest) :=
  r_callSO hJ (As := [v1]) w ct hd hdd rfl hst (fun h => h) k
end ROWSF
theorem koF : wSO RX4 239 yX0_ofFloat cX0_ofFloat 4 (some .int) 1 := ⟨m283, m284, m77, m285, by decide +kernel⟩
theorem koD : wSO RX4 185 yX0_ofDouble cX0_ofDouble 7 (some .long) 1 := ⟨m452, m453, m77, m454, by decide +kernel⟩
theorem kjF : wSO RX5 195 yJxf58ca_floatToIntBits_5c35a cJxf58ca_floatToIntBits_5c35a 1 (some .int) 1 := ⟨m1079, m1080, m78, m1081, by decide +kernel⟩
theorem kjD : wSO RX5 216 yJxe99ae_doubleToLongBits_ccdee cJxe99ae_doubleToLongBits_ccdee 2 (some .long) 1 := ⟨m1106, m1107, m79, m1108, by decide +kernel⟩
theorem knF : wSO RJxf58ca 59 yJxf58ca_isNaN_12338 cJxf58ca_isNaN_12338 1 (some .boolean) 1 := ⟨m1082, m1083, m78, m1084, by decide +kernel⟩
theorem knD : wSO RJxe99ae 122 yJxe99ae_isNaN_b9ae7 cJxe99ae_isNaN_b9ae7 2 (some .boolean) 1 := ⟨m1109, m1110, m79, m1111, by decide +kernel⟩