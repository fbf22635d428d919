/-! THE LAW: its rows -/
def jRX (l : Launch) (E : jE) (own : String) (cc : ByteArray) (nL d n0 cap b Ls : Nat) (xs : Nat → Int32) (J : jT) : Prop :=
  ∃ (p : Program) (e : Env) (R : Room) (s : State) (m : MethodId) (args : Array Value) (below : List Frame) (meth : Method) (c : Code) (Q : State → Prop) (cb sb : Nat), J = jW p l e R s m args below meth c Q E nL n0 cap cb sb ∧
    CallFix p m c cc nL s args gw own ∧ d ≤ R.frames ∧ 32 * d ≤ R.locals ∧ cb + cap ≤ R.cells ∧ sb + 6 * cap ≤ R.slots ∧ jB E s s.heap ∧ va_X b Ls xs s s.heap ∧ b < s.heap.size ∧ b < E.1
theorem jRX.r {l : Launch} {E : jE} {own : String} {cc : ByteArray} {nL d n0 cap b Ls : Nat} {xs : Nat → Int32} {J : jT} (h : jRX l E own cc nL d n0 cap b Ls xs J) : jR l E own cc nL d n0 cap J := by
  obtain ⟨p, e, R, s, m, args, below, meth, c, Q, cb, sb, h1, h2, h3, h4, h5, h6, h7, -⟩ := h
  exact ⟨p, e, R, s, m, args, below, meth, c, Q, cb, sb, h1, h2, h3, h4, h5, h6, h7⟩
section LAWROWS
variable {l : Launch} {E : jE} {own : String} {cc : ByteArray} {nL d n0 cap b Ls : Nat} {xs : Nat → Int32} {J : jT} {G : jG} {pc : Nat} {L : List (Option Value)} {rest : List Value}
theorem r_sld (hJ : jRX l E own cc nL d n0 cap b Ls xs J) {n : Nat} (hn : n < Ls) (hL : Ls ≤ 5000) (hd : decode cc pc = .ok (.iaload, 1)) (k : J G (pc + 1) L (.int (xs n) :: rest)) : J G pc L (.int (nI n) :: .ref b :: rest) := by
  obtain ⟨p, e, R, s, m, args, below, meth, c, Q, cb, sb, rfl, ⟨hx, hb, hml, hown, hts⟩, hfr, hlo, hce, hsl, hB, hX, hbl, hbE⟩ := hJ
  intro h1 h2 H locs ls hP hS hl
  refine va_sld hx hb hX hbl (fun q => absurd q (Nat.not_le.mpr hbE)) hS (vp_in_nI hn (by omega)) hd ?_
  rw [nI_clamp (by omega)]
  exact k h1 h2 H locs ls hP hS hl
theorem r_slen (hJ : jRX l E own cc nL d n0 cap b Ls xs J) (hd : decode cc pc = .ok (.arraylength, 1)) (k : J G (pc + 1) L (.int (nI Ls) :: rest)) : J G pc L (.ref b :: rest) := by
  obtain ⟨p, e, R, s, m, args, below, meth, c, Q, cb, sb, rfl, ⟨hx, hb, hml, hown, hts⟩, hfr, hlo, hce, hsl, hB, hX, hbl, hbE⟩ := hJ
  intro h1 h2 H locs ls hP hS hl
  exact va_slen hx hb hX hbl (fun q => absurd q (Nat.not_le.mpr hbE)) hS hd (k h1 h2 H locs ls hP hS hl)
theorem r_lcmp (hJ : jR l E own cc nL d n0 cap J) {x y : Int64} (hd : decode cc pc = .ok (.lcmp, 1)) (k : J G (pc + 1) L (.int (lg_cmp x y) :: rest)) : J G pc L (.long y :: .long x :: rest) := by
  obtain ⟨p, e, R, s, m, args, below, meth, c, Q, cb, sb, rfl, ⟨hx, hb, hml, hown, hts⟩, hfr, hlo, hce, hsl, hB⟩ := hJ
  intro h1 h2 H locs ls hP hS hl
  exact W.lcmp hx hb hd (k h1 h2 H locs ls hP hS hl)
theorem lg_cmp_self (x : Int64) : lg_cmp x x = 0 := by
  unfold lg_cmp
  rw [if_neg (fun h => Int64.lt_irrefl h), if_pos rfl]
theorem r_H2 (hJ : jR l E own cc nL d n0 cap J) {ix nL' d' : Nat} {y : MethodName} {cc' : ByteArray} {ret : Option FieldType} {hh : List (Nat × Nat × Nat × Nat)} {G' : jG} {x1 x2 v : Value} (w : wSH own ix y cc' nL' ret hh 2) (ct : CtH l E y cc' nL' ret hh d' [x1, x2] G (some v) G') (hd : decode cc pc = .ok (.invokestatic ix, 3)) (hdd : d' < d ∧ nL' ≤ 13) (hst : (rest.map fun v => v.category).sum ≤ 8) (hcap : G.2.2.2 ≤ n0 + cap → G'.2.2.2 ≤ n0 + cap) (k : J G' (pc + 3) L (v :: rest)) : J G pc L (x2 :: x1 :: rest) :=
  r_callSH hJ (As := [x1, x2]) w ct hd hdd rfl hst hcap k
theorem r_H3 (hJ : jR l E own cc nL d n0 cap J) {ix nL' d' : Nat} {y : MethodName} {cc' : ByteArray} {ret : Option FieldType} {hh : List (Nat × Nat × Nat × Nat)} {G' : jG} {x1 x2 x3 v : Value} (w : wSH own ix y cc' nL' ret hh 3) (ct : CtH l E y cc' nL' ret hh d' [x1, x2, x3] G (some v) G') (hd : decode cc pc = .ok (.invokestatic ix, 3)) (hdd : d' < d ∧ nL' ≤ 13) (hst : (rest.map fun v => v.category).sum ≤ 8) (hcap : G.2.2.2 ≤ n0 + cap → G'.2.2.2 ≤ n0 + cap) (k : J G' (pc + 3) L (v :: rest)) : J G pc L (x3 :: x2 :: x1 :: rest) :=
  r_callSH hJ (As := [x1, x2, x3]) w ct hd hdd rfl hst hcap k
theorem r_H4 (hJ : jR l E own cc nL d n0 cap J) {ix nL' d' : Nat} {y : MethodName} {cc' : ByteArray} {ret : Option FieldType} {hh : List (Nat × Nat × Nat × Nat)} {G' : jG} {x1 x2 x3 x4 v : Value} (w : wSH own ix y cc' nL' ret hh 4) (ct : CtH l E y cc' nL' ret hh d' [x1, x2, x3, x4] G (some v) G') (hd : decode cc pc = .ok (.invokestatic ix, 3)) (hdd : d' < d ∧ nL' ≤ 13) (hst : (rest.map fun v => v.category).sum ≤ 8) (hcap : G.2.2.2 ≤ n0 + cap → G'.2.2.2 ≤ n0 + cap) (k : J G' (pc + 3) L (v :: rest)) : J G pc L (x4 :: x3 :: x2 :: x1 :: rest) :=
  r_callSH hJ (As := [x1, x2, x3, x4]) w ct hd hdd rfl hst hcap k
theorem r_H5 (hJ : jR l E own cc nL d n0 cap J) {ix nL' d' : Nat} {y : MethodName} {cc' : ByteArray} {ret : Option FieldType} {hh : List (Nat × Nat × Nat × Nat)} {G' : jG} {x1 x2 x3 x4 x5 v : Value} (w : wSH own ix y cc' nL' ret hh 5) (ct : CtH l E y cc' nL' ret hh d' [x1, x2, x3, x4, x5] G (some v) G') (hd : decode cc pc = .ok (.invokestatic ix, 3)) (hdd : d' < d ∧ nL' ≤ 13) (hst : (rest.map fun v => v.category).sum ≤ 8) (hcap : G.2.2.2 ≤ n0 + cap → G'.2.2.2 ≤ n0 + cap) (k : J G' (pc + 3) L (v :: rest)) : J G pc L (x5 :: x4 :: x3 :: x2 :: x1 :: rest) :=
  r_callSH hJ (As := [x1, x2, x3, x4, x5]) w ct hd hdd rfl hst hcap k
end LAWROWS
