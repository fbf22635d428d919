/-! EXCEPTIONS: contracts of calls that throw (launches without stack traces) -/
abbrev nms : List String := ["java/lang/RuntimeException", "java/lang/Exception"]
def jXC (E : jE) (cls : String) (G : jG) : String → State → State → Prop := fun X st t => X = cls ∧ va_P E.2.1 vwCl (wld E G) t.heap ∧ va_F (jA E) st t
/-- y, called with av in the state G, throws cls and leaves G' (one exception more) -/
def CtT (l : Launch) (E : jE) (y : MethodName) (cc : ByteArray) (nL : Nat) (ret : Option FieldType) (d : Nat) (av : List Value) (G : jG) (cls : String) (G' : jG) : Prop :=
  G'.2.2.2 = G.2.2.2 + 1 ∧ vx_Met l y (.code y cc nL ret :: gw) (rmd d 1) (jPc E av G) (fun _ _ _ _ => False) (jXC E cls G') 1 6 (jA E)
def wT (own : String) (ik ic : Nat) (cls : String) : Prop :=
  Cond.classLink own ik cls ∈ gw ∧ Cond.initialized cls ∈ gw ∧ (∀ w ∈ (vx_at0 own ic cls nms).filter goodWord, w ∈ gw) ∧ (∀ w ∈ (vx_at0 own ic cls nms).filter (fun w => !goodWord w), w ∈ xw) ∧ (∀ w ∈ Cond.classLink own ik cls :: Cond.initialized cls :: vx_at0 own ic cls nms, vx_ot w = true) ∧ Bundle.fit cls = true
/-- the state with n exceptions made -/
def nxt (G : jG) : jG := (G.1, G.2.1, G.2.2.1, G.2.2.2 + 1)
theorem wld_nxt (E : jE) (G : jG) : wld E (nxt G) = wld E G := rfl
def jFT (l : Launch) (E : jE) (own : String) (cc : ByteArray) (d : Nat) (J : jT) (cls : String) (G' : jG) : Prop :=
  (∀ (G1 : jG) (pc : Nat) (L : List (Option Value)) (rest : List Value) (ik ic : Nat), nxt G1 = G' → wT own ik ic cls → decode cc pc = .ok (.new ik, 3) → decode cc (pc + 3) = .ok (.dup, 1) → decode cc (pc + 4) = .ok (.invokespecial ic, 3) → decode cc (pc + 7) = .ok (.athrow, 1) → 6 ≤ d → (rest.map fun v => v.category).sum ≤ 8 → J G1 pc L rest) ∧
  (∀ (G1 : jG) (pc : Nat) (L : List (Option Value)) (rest : List Value) (ix nL' n d' a : Nat) (C : String) (y' : MethodName) (cc' : ByteArray) (ret' : Option FieldType) (As : List Value), wV own ix C y' cc' nL' ret' n → rcv E a C → CtT l E y' cc' nL' ret' d' (.ref a :: As) G1 cls G' →
    decode cc pc = .ok (.invokevirtual ix, 3) → d' < d ∧ nL' ≤ 13 → As.length = n → (rest.map fun v => v.category).sum ≤ 8 → J G1 pc L (As.reverse ++ .ref a :: rest)) ∧
  (∀ (G1 : jG) (pc : Nat) (L : List (Option Value)) (rest : List Value) (ix nL' n d' : Nat) (y' : MethodName) (cc' : ByteArray) (ret' : Option FieldType) (As : List Value), wS own ix y' cc' nL' ret' n → CtT l E y' cc' nL' ret' d' As G1 cls G' →
    decode cc pc = .ok (.invokestatic ix, 3) → d' < d ∧ nL' ≤ 13 → As.length = n → (rest.map fun v => v.category).sum ≤ 8 → J G1 pc L (As.reverse ++ rest))
section THR
variable {l : Launch} {p : Program} {e : Env} {R : Room} {s : State} {m : MethodId} {args : Array Value} {below : List Frame} {meth : Method} {c : Code} {H : Heap} {locs : List Loc} {E : jE}
theorem thr_out {cls : String} {G' : jG} {ls : Array Slot} {rest st0 : List Value} {pc : Nat} (hlocks : meth.locks = false) (hout : ∀ x ∈ c.exceptionTable.toList, False) (hS : va_S (jA E) s.heap H locs)
    (hr : vx_Run p l e R s m args below meth c H locs 0 0 1 6 (F0 m pc ls st0) rest (fun _ _ _ => False) (jXC E cls G') (jA E)) :
    W p l e R s m args below meth c H locs 0 0 (vx_MQ below (fun _ _ _ _ => False) (jXC E cls G') args s 1 6 (jA E)) (F0 m pc ls st0) := by
  intro T hT X
  rcases hr T hT X with ⟨v, st₀, t, T', L, h0, X', hL, e1, e2, hF, st⟩ | ⟨q, st₀, t, T', L, E', ce, h0, X', hL, e1, e2, ⟨hE, hw, hz, hkk⟩, hce, hcv, hcl, st⟩
  · exact hF.elim
  · rw [h0] at hz hkk
    have hS2 : va_S (jA E) s.heap T'.heap (locs ++ L) := ⟨Nat.le_trans hS.1 (by rw [e1]; exact hz), fun q g1 g2 => by rw [e1, hkk q (Nat.lt_of_lt_of_le g1 hS.1) g2]; exact hS.2.1 q g1 g2, fun q hq => by
      rcases List.mem_append.mp hq with h | h
      · exact hS.2.2 q h
      · exact hL q h⟩
    have ho := vx_out (p := p) (l := l) (e := e) (R := R) (s := s) (m := m) (args := args) (below := below) (meth := meth) (c := c) (H := T'.heap) (locs := locs ++ L) (cells := 0 + 1) (slots := 0 + 6) (free := jA E) (ls := ls) (rest := rest) (Qc := fun _ _ _ _ => False) (XC := jXC E cls G') (pc := pc) (E := E') (ce := ce) (q := q) (mc := 1) (ms := 6)
      (fun x hx => (hout x hx).elim) hlocks (by rw [e1]; exact hce) hcv hcl (fun u hu _ => ⟨hE, by rw [hu, e1]; exact hw, hS2.F hu⟩) hS2.2.2 (Nat.le_refl _) (Nat.le_refl _)
    obtain ⟨t2, a1, b1⟩ := ho T' rfl X'
    exact ⟨t2, st.trans a1, b1⟩
end THR
set_option maxHeartbeats 1000000 in
theorem CtT.ofG {l : Launch} {E : jE} {y : MethodName} {cc : ByteArray} {nL d : Nat} {ret : Option FieldType} {av : List Value} {G Gm : jG} {cls : String} {L0 : List (Option Value)} (hm : Gm.2.2.2 = G.2.2.2) (hst : l.stackTraces = false) (hy : plainName y.cls = true) (hlen : (lg_sl av).length ≤ nL) (hL0 : lin nL av = L0)
    (body : ∀ J : jT, jR l E y.cls cc nL d G.2.2.2 1 J → jFT l E y.cls cc d J cls (nxt Gm) → J G 0 L0 []) : CtT l E y cc nL ret d av G cls (nxt Gm) := by
  refine ⟨by show Gm.2.2.2 + 1 = G.2.2.2 + 1; rw [hm], vx_ofW (cc := cc) (maxL := nL) (ret := ret) hy rfl ?_⟩
  intro p e s m args below meth c s₁ B hml hout hv
  obtain ⟨rfl, hP, hB⟩ := hv
  have hx := B.exec
  have hb := B.bytes
  have hts0 := atoms_spec (ws := Cond.code y cc nL ret :: gw) B.pre
  have hts : ∀ w ∈ gw, w.before av.toArray s = true := fun w hw => hts0 w (List.mem_cons_of_mem _ hw)
  have hown : s.vm.findClass y.cls = some m.cls := findClass_of_methodNamed B.named
  have hlocks := B.notSynchronized
  have hfix : CallFix p m c cc nL s av.toArray gw y.cls := ⟨hx, hb, hml, hown, hts⟩
  rw [lg_entry_eq]
  have K := body (jW p l e (rmd d 1) s m av.toArray below meth c (vx_MQ below (fun _ _ _ _ => False) (jXC E cls (nxt Gm)) av.toArray s 1 6 (jA E)) E nL G.2.2.2 1 0 0)
    ⟨p, e, rmd d 1, s, m, av.toArray, below, meth, c, _, 0, 0, rfl, hfix, Nat.le_refl _, Nat.le_refl _, by show 0 + 1 ≤ 1; omega, by show 0 + 6 * 1 ≤ 6 * 1; omega, hB⟩
    (by
      refine ⟨fun G1 pc L rest ik ic hG hw d0 d3 d4 d7 hd hsum h1 h2 H locs ls hP hS hl => ?_, fun G1 pc L rest ix nL' n d' a C y' cc' ret' As w hrc ct hdg hdd hn hsum h1 h2 H locs ls hP hS hl => ?_, fun G1 pc L rest ix nL' n d' y' cc' ret' As w ct hdg hdd hn hsum h1 h2 H locs ls hP hS hl => ?_⟩
      · have hn0 : G1.2.2.2 + 1 = Gm.2.2.2 + 1 := congrArg (fun z : jG => z.2.2.2) hG
        have e0 : G1.2.2.2 - G.2.2.2 = 0 := by omega
        rw [e0, Nat.mul_zero]
        obtain ⟨w1, w2, w3, w4, w5, w6⟩ := hw
        refine vx_throw0 (A := jA E) (names := nms) hx hb hst hown w6 (by decide +kernel) (hts _ w1) (hts _ w2) (vx_hat (B := xw) (fun w hw => hts _ (w3 w hw)) w4 (fun w hw => ?_)) w5 hB.2.1 hB.2.2.1 hS (by rw [hl.1, hml]) d0 d3 d4 d7 (fun x hx => (hout x hx).elim) (by show 2 + 3 < d; omega) (by show _ + (13 * 3 + 42) ≤ 32 * d; omega) (by show 0 + 0 + 1 ≤ 1; omega) (by show 0 + 0 + 6 ≤ 6; omega) hlocks (fun t hvm hz hk => ⟨rfl, ?_, Nat.le_trans hS.1 hz, fun q g1 g2 => ?_⟩) hS.2.2 (by omega) (by omega)
        · have h9 := hB.2.2.2.2.2.2.2.2.2.1 w hw
          exact va_Nw.use ((by decide +kernel : ∀ w ∈ xw, w.onTables = true) w hw) h9
        · have hP2 : va_P E.2.1 vwCl (wld E (nxt Gm)) H := by rw [← hG, wld_nxt]; exact hP
          exact hP2.kept (fun k q hq => hk q.1 (hP2 k q hq).lt)
        · rw [hk q (Nat.lt_of_lt_of_le g1 hS.1)]
          exact hS.2.1 q g1 g2
      · obtain ⟨hn1, hM⟩ := ct
        have hn0 : Gm.2.2.2 + 1 = G1.2.2.2 + 1 := hn1
        have e0 : G1.2.2.2 - G.2.2.2 = 0 := by omega
        rw [e0, Nat.mul_zero]
        obtain ⟨o, ci, N, T, rfl, ho, hwd, hcl, hsc⟩ := hrc
        obtain ⟨fs, hfs⟩ := hsc G1.2 (G1.1 o)
        exact thr_out hlocks hout hS (vx_runV (e := e) (R := rmd d 1) (below := below) (meth := meth) (rest := rest) (g := F0 m pc ls (As.reverse ++ .ref (ad E o 0) :: rest)) (cells := 0) (slots := 0) (locs := locs) (As := As) (H := H) hfix hM
          (cwV (C := C) n hts (gI_V w) rfl rfl rfl w.2.2.2.2.2 ⟨by show d' + 1 ≤ d; omega, by show 8 + (nL' + 11) + 32 * d' ≤ 32 * d; omega⟩)
          ⟨jPc_blind E _ G1, va_recv (q := (C, T, N)) (q0 := bas o + 0) (fs := fs) hB.1 hP hcl (by obtain ⟨S, x⟩ := G1; rw [wld_get E S x ho hwd, cel_0]; exact congrArg (fun z => some (ad E o 0, z)) hfs), fun U hU hW => ⟨rfl, by rw [hU]; exact hP, hB.go hS hW hU⟩⟩ rfl hn hl.1 rfl (lv_room hsum) hdg ⟨by show 0 + 1 ≤ 1; omega, by show 0 + 6 ≤ 6; omega⟩)
      · obtain ⟨hn1, hM⟩ := ct
        have hn0 : Gm.2.2.2 + 1 = G1.2.2.2 + 1 := hn1
        have e0 : G1.2.2.2 - G.2.2.2 = 0 := by omega
        rw [e0, Nat.mul_zero]
        exact thr_out hlocks hout hS (vx_runS (e := e) (R := rmd d 1) (below := below) (meth := meth) (rest := rest) (g := F0 m pc ls (As.reverse ++ rest)) (cells := 0) (slots := 0) (locs := locs) (As := As) (H := H) hfix hM
          (cwS n hts (gI_S w) rfl rfl rfl w.2.2.2.2 ⟨by show d' + 1 ≤ d; omega, by show 8 + (nL' + 11) + 32 * d' ≤ 32 * d; omega⟩)
          ⟨jPc_blind E _ G1, fun U hU hW => ⟨rfl, by rw [hU]; exact hP, hB.go hS hW hU⟩⟩ rfl hn hl.1 rfl (lv_room hsum) hdg ⟨by show 0 + 1 ≤ 1; omega, by show 0 + 6 ≤ 6; omega⟩))
    (Nat.le_refl _) (by omega) s.heap [] _ hP va_S.rf (by rw [← hL0]; exact lh_in hlen)
  rw [Nat.sub_self, Nat.mul_zero] at K
  exact K
theorem CtT.of {l : Launch} {E : jE} {y : MethodName} {cc : ByteArray} {nL d : Nat} {ret : Option FieldType} {av : List Value} {G : jG} {cls : String} {L0 : List (Option Value)} (hst : l.stackTraces = false) (hy : plainName y.cls = true) (hlen : (lg_sl av).length ≤ nL) (hL0 : lin nL av = L0)
    (body : ∀ J : jT, jR l E y.cls cc nL d G.2.2.2 1 J → jFT l E y.cls cc d J cls (nxt G) → J G 0 L0 []) : CtT l E y cc nL ret d av G cls (nxt G) := CtT.ofG rfl hst hy hlen hL0 body
theorem thr_ooo : wT RX4 194 196 "java/lang/IndexOutOfBoundsException" := ⟨by decide +kernel, by decide +kernel, by decide +kernel, by decide +kernel, by decide +kernel, by decide +kernel⟩
theorem thr_arg : wT RX4 121 123 "java/lang/IllegalArgumentException" := ⟨by decide +kernel, by decide +kernel, by decide +kernel, by decide +kernel, by decide +kernel, by decide +kernel⟩
theorem thr_sta : wT RX4 200 202 "java/lang/IllegalStateException" := ⟨by decide +kernel, by decide +kernel, by decide +kernel, by decide +kernel, by decide +kernel, by decide +kernel⟩
