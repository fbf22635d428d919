/-! CALLS AND ENDS -/
def rcv (E : jE) (a : Nat) (C : String) : Prop := ∃ (o ci N : Nat) (T : u_T), a = ad E o 0 ∧ o < 13 ∧ 0 < wid o ∧ vwCl[ci]? = some (C, T, N) ∧ ∀ (k : jX) (P : jO), ∃ fs : List Value, scal E k o P 0 = .inr (ci, fs)
theorem rcv2 (E : jE) {o : Nat} (ho : o < 8) : rcv E (ad E o 0) RX2 := ⟨o, 1, 16, TX2, rfl, by omega, by simp [wid, ho], rfl, fun k P => ⟨poolF E o P, by simp [scal, ho]⟩⟩
theorem rcv1 (E : jE) : rcv E (ad E 8 0) RX1 := ⟨8, 0, 8, TX1, rfl, by omega, by decide, rfl, fun k P => ⟨ordF E P, by simp [scal]⟩⟩
theorem rcv3 (E : jE) : rcv E (ad E 9 0) RX3 := ⟨9, 2, 2, TX3, rfl, by omega, by decide, rfl, fun k P => ⟨savF E P, by simp [scal]⟩⟩
theorem rcv4 (E : jE) : rcv E (ad E 11 0) RX4 := ⟨11, 3, 4, TX4, rfl, by omega, by decide, rfl, fun k P => ⟨nulF E, by simp [scal]⟩⟩
def wV (own : String) (ix : Nat) (C : String) (y : MethodName) (cc : ByteArray) (nL : Nat) (ret : Option FieldType) (n : Nat) : Prop :=
  Cond.methodLink own ix y ∈ gw ∧ Cond.instanceMethod y ∈ gw ∧ Cond.selects C y y ∈ gw ∧ Cond.initialized C ∈ gw ∧ Cond.code y cc nL ret ∈ gw ∧ (y.cls = C ∧ y.cls ≠ "java/lang/invoke/MethodHandle" ∧ y.cls ≠ "java/lang/invoke/VarHandle" ∧ (parseMethodDescriptor y.desc).map (fun d => d.parameters.length) = some n)
def wS (own : String) (ix : Nat) (y : MethodName) (cc : ByteArray) (nL : Nat) (ret : Option FieldType) (n : Nat) : Prop :=
  Cond.methodLink own ix y ∈ gw ∧ Cond.static y ∈ gw ∧ Cond.initialized own ∈ gw ∧ Cond.code y cc nL ret ∈ gw ∧ (y.cls = own ∧ y.cls ≠ "java/lang/invoke/MethodHandle" ∧ y.cls ≠ "java/lang/invoke/VarHandle" ∧ (parseMethodDescriptor y.desc).map (fun d => d.parameters.length) = some n)
theorem gI {ws : List Cond} (h : ∀ w ∈ ws, w ∈ gw) : GoodIn gw ws := fun w hw => ⟨h w hw, good_of_word (gw_good w (h w hw))⟩
theorem gI_V {own C : String} {ix nL n : Nat} {y : MethodName} {cc : ByteArray} {ret : Option FieldType} (w : wV own ix C y cc nL ret n) : GoodIn gw (wsV own ix C y (.code y cc nL ret :: gw)) := by
  obtain ⟨h1, h2, h3, h4, h5, -⟩ := w
  refine gI fun z hz => ?_
  simp only [wsV, List.cons_append, List.nil_append, List.mem_cons] at hz
  rcases hz with rfl | rfl | rfl | rfl | rfl | hz
  · exact h1
  · exact h2
  · exact h3
  · exact h4
  · exact h5
  · exact hz
theorem gI_S {own : String} {ix nL n : Nat} {y : MethodName} {cc : ByteArray} {ret : Option FieldType} (w : wS own ix y cc nL ret n) : GoodIn gw (wsS own ix y (.code y cc nL ret :: gw)) := by
  obtain ⟨h1, h2, h3, h4, -⟩ := w
  refine gI fun z hz => ?_
  simp only [wsS, List.cons_append, List.nil_append, List.mem_cons] at hz
  rcases hz with rfl | rfl | rfl | rfl | hz
  · exact h1
  · exact h2
  · exact h3
  · exact h4
  · exact hz
section CALLS
variable {l : Launch} {E : jE} {own : String} {cc : ByteArray} {nL d n0 cap : Nat} {J : jT} {pc : Nat} {L : List (Option Value)} {rest : List Value}
theorem jAfter {p : Program} {e : Env} {R : Room} {s : State} {m : MethodId} {args : Array Value} {below : List Frame} {meth : Method} {c : Code} {Q : State → Prop} {cb sb kx : Nat} {G G' : jG} {r : Option Value} {av : Array Value} {H : Heap} {locs : List Loc} {ls : Array Slot} {st0 : List Value}
    (hB : jB E s s.heap) (h1 : n0 ≤ G.2.2.2) (hkx : G'.2.2.2 = G.2.2.2 + kx) (hcap : G'.2.2.2 ≤ n0 + cap) (hS : va_S (jA E) s.heap H locs) (hl : lh nL ls L)
    (hr : va_Run p l e R s m args below meth c H locs (cb + (G.2.2.2 - n0)) (sb + 6 * (G.2.2.2 - n0)) kx (6 * kx) (F0 m pc ls st0) rest (jQc E r G' av) (jA E))
    (k : jW p l e R s m args below meth c Q E nL n0 cap cb sb G' (pc + 3) L (r.toList ++ rest)) :
    W p l e R s m args below meth c H locs (cb + (G.2.2.2 - n0)) (sb + 6 * (G.2.2.2 - n0)) Q (F0 m pc ls st0) := by
  intro T hT X
  obtain ⟨v, st₀, t, T', Ls, e0, X', hL, e1, e2, ⟨⟨hv, hw⟩, hz, hkk⟩, st⟩ := hr T hT X
  cases hv
  rw [e0] at hz hkk
  have e3 : cb + (G'.2.2.2 - n0) = cb + (G.2.2.2 - n0) + kx := by omega
  have e4 : sb + 6 * (G'.2.2.2 - n0) = sb + 6 * (G.2.2.2 - n0) + 6 * kx := by omega
  have k2 := k (by omega) hcap T'.heap (locs ++ Ls) ls (by rw [e1]; exact hw)
    ⟨Nat.le_trans hS.1 (by rw [e1]; exact hz), fun q g1 g2 => by rw [e1, hkk q (Nat.lt_of_lt_of_le g1 hS.1) g2]; exact hS.2.1 q g1 g2, fun q hq => by
      rcases List.mem_append.mp hq with h | h
      · exact hS.2.2 q h
      · exact hL q h⟩ hl
  rw [e3, e4] at k2
  obtain ⟨t2, a1, b1⟩ := k2 T' rfl X'
  exact ⟨t2, st t2 a1, b1⟩
theorem r_callV (hJ : jR l E own cc nL d n0 cap J) {ix nL' n d' a : Nat} {C : String} {y : MethodName} {cc' : ByteArray} {ret : Option FieldType} {As : List Value} {G G' : jG} {r : Option Value} (w : wV own ix C y cc' nL' ret n) (hrc : rcv E a C) (ct : Ct l E y cc' nL' ret d' (.ref a :: As) G r G')
    (hd : decode cc pc = .ok (.invokevirtual ix, 3)) (hdd : d' < d ∧ nL' ≤ 13) (hn : As.length = n) (hst : (rest.map fun v => v.category).sum ≤ 8) (hcap : G.2.2.2 ≤ n0 + cap → G'.2.2.2 ≤ n0 + cap) (k : J G' (pc + 3) L (r.toList ++ rest)) : J G pc L (As.reverse ++ .ref a :: rest) := by
  obtain ⟨p, e, R, s, m, args, below, meth, c, Q, cb, sb, rfl, hfix, hfr, hlo, hce, hsl, hB⟩ := hJ
  obtain ⟨kx, hkx, hM⟩ := ct
  intro h1 h2 H locs ls hP hS hl
  obtain ⟨o, ci, N, T, rfl, ho, hwd, hcl, hsc⟩ := hrc
  obtain ⟨fs, hfs⟩ := hsc G.2 (G.1 o)
  have hcp := hcap h2
  have hr := va_runV (e := e) (below := below) (meth := meth) (rest := rest) (g := F0 m pc ls (As.reverse ++ .ref (ad E o 0) :: rest)) (cells := cb + (G.2.2.2 - n0)) (slots := sb + 6 * (G.2.2.2 - n0)) (locs := locs) (As := As) (H := H) hfix hM
    (cwV (C := C) n hfix.2.2.2.2 (gI_V w) rfl rfl rfl w.2.2.2.2.2 ⟨by show d' + 1 ≤ R.frames; omega, by show 8 + (nL' + 11) + 32 * d' ≤ R.locals; omega⟩)
    ⟨jPc_blind E _ G, va_recv (q := (C, T, N)) (q0 := bas o + 0) (fs := fs) hB.1 hP hcl (by obtain ⟨S, x⟩ := G; rw [wld_get E S x ho hwd, cel_0]; exact congrArg (fun z => some (ad E o 0, z)) hfs), fun U hU hW => ⟨rfl, by rw [hU]; exact hP, hB.go hS hW hU⟩⟩ rfl hn hl.1 rfl (lv_room hst) hd ⟨by omega, by omega⟩
  exact jAfter hB h1 hkx hcp hS hl hr k
theorem r_callS (hJ : jR l E own cc nL d n0 cap J) {ix nL' n d' : Nat} {y : MethodName} {cc' : ByteArray} {ret : Option FieldType} {As : List Value} {G G' : jG} {r : Option Value} (w : wS own ix y cc' nL' ret n) (ct : Ct l E y cc' nL' ret d' As G r G')
    (hd : decode cc pc = .ok (.invokestatic ix, 3)) (hdd : d' < d ∧ nL' ≤ 13) (hn : As.length = n) (hst : (rest.map fun v => v.category).sum ≤ 8) (hcap : G.2.2.2 ≤ n0 + cap → G'.2.2.2 ≤ n0 + cap) (k : J G' (pc + 3) L (r.toList ++ rest)) : J G pc L (As.reverse ++ rest) := by
  obtain ⟨p, e, R, s, m, args, below, meth, c, Q, cb, sb, rfl, hfix, hfr, hlo, hce, hsl, hB⟩ := hJ
  obtain ⟨kx, hkx, hM⟩ := ct
  intro h1 h2 H locs ls hP hS hl
  have hcp := hcap h2
  have hr := va_runS (e := e) (below := below) (meth := meth) (rest := rest) (g := F0 m pc ls (As.reverse ++ rest)) (cells := cb + (G.2.2.2 - n0)) (slots := sb + 6 * (G.2.2.2 - n0)) (locs := locs) (As := As) (H := H) hfix hM
    (cwS n hfix.2.2.2.2 (gI_S w) rfl rfl rfl w.2.2.2.2 ⟨by show d' + 1 ≤ R.frames; omega, by show 8 + (nL' + 11) + 32 * d' ≤ R.locals; omega⟩)
    ⟨jPc_blind E _ G, fun U hU hW => ⟨rfl, by rw [hU]; exact hP, hB.go hS hW hU⟩⟩ rfl hn hl.1 rfl (lv_room hst) hd ⟨by omega, by omega⟩
  exact jAfter hB h1 hkx hcp hS hl hr k
end CALLS
/-- what J says at the method's returns: r and G' are what was promised -/
def jF (l : Launch) (E : jE) (cc : ByteArray) (nL : Nat) (ret : Option FieldType) (J : jT) (r : Option Value) (G : jG) : Prop :=
  (∀ (pc : Nat) (L : List (Option Value)) (v : Int32), ret = some .int → r = some (.int v) → decode cc pc = .ok (.ireturn, 1) → J G pc L [.int v]) ∧
  (∀ (pc : Nat) (L : List (Option Value)) (v : Int32), ret = some .boolean → narrow .boolean (.int v) = .int v → r = some (.int v) → decode cc pc = .ok (.ireturn, 1) → J G pc L [.int v]) ∧
  (∀ (pc : Nat) (L : List (Option Value)) (v : Int64), ret = some .long → r = some (.long v) → decode cc pc = .ok (.lreturn, 1) → J G pc L [.long v]) ∧
  (∀ (pc : Nat) (L : List (Option Value)) (v : UInt64), ret = some .double → r = some (.double v) → decode cc pc = .ok (.dreturn, 1) → J G pc L [.double v]) ∧
  (∀ (pc : Nat) (L : List (Option Value)), ret = none → r = none → decode cc pc = .ok (.return_, 1) → J G pc L [])
def lin (nL : Nat) (av : List Value) : List (Option Value) := (lg_sl av ++ List.replicate (nL - (lg_sl av).length) Slot.unset).map fun s => match s with
  | .val v => some v
  | _ => none
theorem lh_in {nL : Nat} {av : List Value} (h : (lg_sl av).length ≤ nL) : lh nL ((lg_sl av ++ List.replicate (nL - (lg_sl av).length) Slot.unset).toArray) (lin nL av) := by
  obtain ⟨h1, h2, -⟩ := lv_entry av h
  refine ⟨h1, by simp [lin]; omega, h2, fun i v hi => ?_⟩
  simp only [lin, List.getElem?_map, Option.map_eq_some_iff] at hi
  obtain ⟨sl, e1, e2⟩ := hi
  rw [List.getElem?_toArray, e1]
  cases sl <;> simp at e2
  rw [e2]
theorem Ct.of {l : Launch} {E : jE} {y : MethodName} {cc : ByteArray} {nL d : Nat} {ret : Option FieldType} {av : List Value} {G G' : jG} {r : Option Value} {L0 : List (Option Value)} (hy : plainName y.cls = true) (hn : G.2.2.2 ≤ G'.2.2.2) (hlen : (lg_sl av).length ≤ nL) (hL0 : lin nL av = L0)
    (body : ∀ J : jT, jR l E y.cls cc nL d G.2.2.2 (G'.2.2.2 - G.2.2.2) J → jF l E cc nL ret J r G' → J G 0 L0 []) : Ct l E y cc nL ret d av G r G' := by
  refine ⟨G'.2.2.2 - G.2.2.2, by omega, Met.ofW (cc := cc) (maxL := nL) (ret := ret) hy rfl ?_⟩
  intro p e s m args below meth c s₁ B hml hv
  obtain ⟨rfl, hP, hB⟩ := hv
  have hx := B.exec
  have hb := B.bytes
  have hr := B.returns
  have hts0 := atoms_spec (ws := Cond.code y cc nL ret :: gw) B.pre
  have hts : ∀ w ∈ gw, w.before av.toArray s = true := fun w hw => hts0 w (List.mem_cons_of_mem _ hw)
  have hown : s.vm.findClass y.cls = some m.cls := findClass_of_methodNamed B.named
  have hlocks := B.notSynchronized
  rw [lg_entry_eq]
  have hS : va_S (jA E) s.heap s.heap [] := va_S.rf
  have K := body (jW p l e (rmd d (G'.2.2.2 - G.2.2.2)) s m av.toArray below meth c (MQ below (jQc E r G') av.toArray s (G'.2.2.2 - G.2.2.2) (6 * (G'.2.2.2 - G.2.2.2)) (jA E)) E nL G.2.2.2 (G'.2.2.2 - G.2.2.2) 0 0)
    ⟨p, e, rmd d (G'.2.2.2 - G.2.2.2), s, m, av.toArray, below, meth, c, _, 0, 0, rfl, ⟨hx, hb, hml, hown, hts⟩, Nat.le_refl _, Nat.le_refl _, by show 0 + (G'.2.2.2 - G.2.2.2) ≤ G'.2.2.2 - G.2.2.2; omega, by show 0 + 6 * (G'.2.2.2 - G.2.2.2) ≤ 6 * (G'.2.2.2 - G.2.2.2); omega, hB⟩
    (by
      refine ⟨fun pc L v hret hrr hdg h1 h2 H locs ls hP hS hl => ?_, fun pc L v hret hnv hrr hdg h1 h2 H locs ls hP hS hl => ?_, fun pc L v hret hrr hdg h1 h2 H locs ls hP hS hl => ?_, fun pc L v hret hrr hdg h1 h2 H locs ls hP hS hl => ?_, fun pc L hret hrr hdg h1 h2 H locs ls hP hS hl => ?_⟩
      all_goals subst hrr; rw [Nat.zero_add, Nat.zero_add]
      · exact W.iret (v := v) hx hb (by rw [hr, hret]) (fun t ht hW => ⟨⟨rfl, by rw [ht]; exact hP⟩, hS.F ht⟩) hS.2.2 hdg
      · exact W.zret (v := v) hx hb (by rw [hr, hret]) hnv (fun t ht hW => ⟨⟨rfl, by rw [ht]; exact hP⟩, hS.F ht⟩) hS.2.2 hdg
      · exact W.lret (v := v) hx hb (by rw [hr, hret]) (fun t ht hW => ⟨⟨rfl, by rw [ht]; exact hP⟩, hS.F ht⟩) hS.2.2 hdg
      · exact W.dret (v := v) hx hb (by rw [hr, hret]) (fun t ht hW => ⟨⟨rfl, by rw [ht]; exact hP⟩, hS.F ht⟩) hS.2.2 hdg
      · exact W.vret hx hb (by rw [hr, hret]) (fun t ht hW => ⟨⟨rfl, by rw [ht]; exact hP⟩, hS.F ht⟩) hS.2.2 hdg)
    (Nat.le_refl _) (by omega) s.heap [] _ hP hS (by rw [← hL0]; exact lh_in hlen)
  rw [Nat.sub_self, Nat.mul_zero] at K
  exact K
