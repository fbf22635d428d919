/-! METHODS OF THE LAW THAT CATCH -/
theorem Met.ofWH {l : Launch} {y : MethodName} {ws ws' : List Cond} {rm : Room} {Pc : Array Value → State → Prop} {Qc : Array Value → State → Outcome → State → Prop} {mc ms : Nat} {free : Addr → Prop} {cc : ByteArray} {maxL : Nat} {ret : Option FieldType} {hh : List (Nat × Nat × Nat × Nat)}
    (hy : plainName y.cls = true) (hw : ws = Cond.codeWith y cc maxL ret hh :: ws')
    (body : ∀ p e s m args below meth c s₁, BodyLoose p l y (headSpec ws rm) cc maxL ret e s m args below meth c s₁ → c.maxLocals = maxL → Pc args s →
      W p l e (headSpec ws rm).room s m args below meth c s.heap [] 0 0 (MQ below Qc args s mc ms free) (entryFrame m args maxL)) : Met l y ws rm Pc Qc mc ms free := by
  refine MetFree.of_bodyS (code := cc) (maxLocals := maxL) (ret := ret) hy ?_ ?_
  · intro args s m h hn
    obtain ⟨m9, meth, c, hn9, h1, h2, h3, h4, -, h5, h6, -⟩ := Cond.codeWith_spec (atoms_spec (ws := ws) h _ (by rw [hw]; exact List.mem_cons_self))
    cases hn.symm.trans hn9
    exact ⟨meth, c, h1, h2, h3, h4, h5, h6⟩
  · intro p e s m args below meth c s₁ B hml hP _
    have hh0 : s₁.heap = s.heap := by rw [B.state]; rfl
    obtain ⟨t, a1, o, b1, b2, b3⟩ := body p e s m args below meth c s₁ B hml hP s₁ hh0 (Stand.of_body B)
    exact ⟨t, o, a1, b1, b2, ⟨b3.1, b3.2⟩⟩
/-- the contract of a method with handlers -/
def CtH (l : Launch) (E : jE) (y : MethodName) (cc : ByteArray) (nL : Nat) (ret : Option FieldType) (hh : List (Nat × Nat × Nat × Nat)) (d : Nat) (av : List Value) (G : jG) (r : Option Value) (G' : jG) : Prop :=
  ∃ kx : Nat, G'.2.2.2 = G.2.2.2 + kx ∧ Met l y (.codeWith y cc nL ret hh :: gw) (rmd d kx) (jPc E av G) (jQc E r G') kx (6 * kx) (jA E)
/-- what J says where a call throws and a handler stands: it goes on there -/
def jFC (l : Launch) (E : jE) (own : String) (cc : ByteArray) (d n0 cap : Nat) (hh : List (Nat × Nat × Nat × Nat)) (J : jT) : Prop :=
  ∀ (G1 G2 : jG) (pc : Nat) (L : List (Option Value)) (rest : List Value) (ix nL' n d' a : Nat) (C : String) (y' : MethodName) (cc' : ByteArray) (ret' : Option FieldType) (As : List Value) (cls : String) (pre : List (Nat × Nat × Nat × Nat)) (x : Nat × Nat × Nat × Nat) (suf : List (Nat × Nat × Nat × Nat)),
    hh = pre ++ x :: suf → (∀ z ∈ pre, z.2.2.2 ≠ 0 ∧ ∃ nm, Cond.classLink own z.2.2.2 nm ∈ gw ∧ (cls, nm) ∈ ncs) → (x.1 ≤ pc ∧ pc < x.2.1) → x.2.2.2 ≠ 0 → Cond.classLink own x.2.2.2 cls ∈ gw → Cond.castable cls cls ∈ xw →
    wV own ix C y' cc' nL' ret' n → rcv E a C → CtT l E y' cc' nL' ret' d' (.ref a :: As) G1 cls G2 → decode cc pc = .ok (.invokevirtual ix, 3) → d' < d ∧ nL' ≤ 13 → As.length = n → (rest.map fun v => v.category).sum ≤ 8 → n0 ≤ G1.2.2.2 → G1.2.2.2 + 1 ≤ n0 + cap →
    (∀ q, J G2 x.2.2.1 L [.ref q]) → J G1 pc L (As.reverse ++ .ref a :: rest)
set_option maxHeartbeats 1000000 in
theorem CtH.of {l : Launch} {E : jE} {y : MethodName} {cc : ByteArray} {nL d : Nat} {ret : Option FieldType} {hh : List (Nat × Nat × Nat × Nat)} {av : List Value} {G G' : jG} {r : Option Value} {L0 : List (Option Value)} (hy : plainName y.cls = true) (hn : G.2.2.2 ≤ G'.2.2.2) (hlen : (lg_sl av).length ≤ nL) (hL0 : lin nL av = L0)
    (body : ∀ J : jT, jR l E y.cls cc nL d G.2.2.2 (G'.2.2.2 - G.2.2.2) J → jF l E cc nL ret J r G' → jFC l E y.cls cc d G.2.2.2 (G'.2.2.2 - G.2.2.2) hh J → J G 0 L0 []) : CtH l E y cc nL ret hh d av G r G' := by
  refine ⟨G'.2.2.2 - G.2.2.2, by omega, Met.ofWH (cc := cc) (maxL := nL) (ret := ret) (hh := hh) hy rfl ?_⟩
  intro p e s m args below meth c s₁ B hml hv
  obtain ⟨rfl, hP, hB⟩ := hv
  have hx := B.exec
  have hb := B.bytes
  have hr := B.returns
  have hts0 := atoms_spec (ws := Cond.codeWith y cc nL ret hh :: gw) B.pre
  have hts : ∀ w ∈ gw, w.before av.toArray s = true := fun w hw => hts0 w (List.mem_cons_of_mem _ hw)
  have htab := vx_table (x := y) B (hts0 _ List.mem_cons_self)
  have hown : s.vm.findClass y.cls = some m.cls := findClass_of_methodNamed B.named
  have hlocks := B.notSynchronized
  have hfix : CallFix p m c cc nL s av.toArray gw y.cls := ⟨hx, hb, hml, hown, hts⟩
  rw [lg_entry_eq]
  have hS : va_S (jA E) s.heap s.heap [] := va_S.rf
  have K := body (jW p l e (rmd d (G'.2.2.2 - G.2.2.2)) s m av.toArray below meth c (MQ below (jQc E r G') av.toArray s (G'.2.2.2 - G.2.2.2) (6 * (G'.2.2.2 - G.2.2.2)) (jA E)) E nL G.2.2.2 (G'.2.2.2 - G.2.2.2) 0 0)
    ⟨p, e, rmd d (G'.2.2.2 - G.2.2.2), s, m, av.toArray, below, meth, c, _, 0, 0, rfl, hfix, Nat.le_refl _, Nat.le_refl _, by show 0 + (G'.2.2.2 - G.2.2.2) ≤ G'.2.2.2 - G.2.2.2; omega, by show 0 + 6 * (G'.2.2.2 - G.2.2.2) ≤ 6 * (G'.2.2.2 - G.2.2.2); omega, hB⟩
    (by
      refine ⟨fun pc L v hret hrr hdg h1 h2 H locs ls hP hS hl => ?_, fun pc L v hret hnv hrr hdg h1 h2 H locs ls hP hS hl => ?_, fun pc L v hret hrr hdg h1 h2 H locs ls hP hS hl => ?_, fun pc L v hret hrr hdg h1 h2 H locs ls hP hS hl => ?_, fun pc L hret hrr hdg h1 h2 H locs ls hP hS hl => ?_⟩
      all_goals subst hrr; rw [Nat.zero_add, Nat.zero_add]
      · exact W.iret (v := v) hx hb (by rw [hr, hret]) (fun t ht hW => ⟨⟨rfl, by rw [ht]; exact hP⟩, hS.F ht⟩) hS.2.2 hdg
      · exact W.zret (v := v) hx hb (by rw [hr, hret]) hnv (fun t ht hW => ⟨⟨rfl, by rw [ht]; exact hP⟩, hS.F ht⟩) hS.2.2 hdg
      · exact W.lret (v := v) hx hb (by rw [hr, hret]) (fun t ht hW => ⟨⟨rfl, by rw [ht]; exact hP⟩, hS.F ht⟩) hS.2.2 hdg
      · exact W.dret (v := v) hx hb (by rw [hr, hret]) (fun t ht hW => ⟨⟨rfl, by rw [ht]; exact hP⟩, hS.F ht⟩) hS.2.2 hdg
      · exact W.vret hx hb (by rw [hr, hret]) (fun t ht hW => ⟨⟨rfl, by rw [ht]; exact hP⟩, hS.F ht⟩) hS.2.2 hdg)
    (by
      intro G1 G2 pc L rest ix nL' n d' a C y' cc' ret' As cls pre x suf hsp hpass hcov hx0 hlink hcast w hrc ct hdg hdd hnA hsum hn1 hn2 kk h1 h2 H locs ls hP hS hl
      obtain ⟨hg, hM⟩ := ct
      obtain ⟨o, ci, N, T, rfl, ho, hwd, hcl, hsc⟩ := hrc
      obtain ⟨fs, hfs⟩ := hsc G1.2 (G1.1 o)
      have hr2 := vx_runV (e := e) (R := rmd d (G'.2.2.2 - G.2.2.2)) (below := below) (meth := meth) (rest := rest) (g := F0 m pc ls (As.reverse ++ .ref (ad E o 0) :: rest)) (cells := 0 + (G1.2.2.2 - G.2.2.2)) (slots := 0 + 6 * (G1.2.2.2 - G.2.2.2)) (locs := locs) (As := As) (H := H) hfix hM
        (cwV (C := C) n hts (gI_V w) rfl rfl rfl w.2.2.2.2.2 ⟨by show d' + 1 ≤ d; omega, by show 8 + (nL' + 11) + 32 * d' ≤ 32 * d; omega⟩)
        ⟨jPc_blind E _ G1, va_recv (q := (C, T, N)) (q0 := bas o + 0) (fs := fs) hB.1 hP hcl (by obtain ⟨S, xx⟩ := G1; rw [wld_get E S xx ho hwd, cel_0]; exact congrArg (fun z => some (ad E o 0, z)) hfs), fun U hU hW => ⟨rfl, by rw [hU]; exact hP, hB.go hS hW hU⟩⟩ rfl hnA hl.1 rfl (lv_room hsum) hdg ⟨by show 0 + (G1.2.2.2 - G.2.2.2) + 1 ≤ G'.2.2.2 - G.2.2.2; omega, by show 0 + 6 * (G1.2.2.2 - G.2.2.2) + 6 ≤ 6 * (G'.2.2.2 - G.2.2.2); omega⟩
      intro T hT X
      rcases hr2 T hT X with ⟨v, st₀, t, T', L', h0, X', hL, e1, e2, hF, st⟩ | ⟨q, st₀, t, T', L', E', ce, h0, X', hL, e1, e2, ⟨hE, hw, hz, hkk⟩, hce, hcv, hcl2, st⟩
      · exact hF.elim
      · subst hE
        rw [h0] at hz hkk
        have hS2 : va_S (jA E) s.heap T'.heap (locs ++ L') := ⟨Nat.le_trans hS.1 (by rw [e1]; exact hz), fun q g1 g2 => by rw [e1, hkk q (Nat.lt_of_lt_of_le g1 hS.1) g2]; exact hS.2.1 q g1 g2, fun q hq => by
          rcases List.mem_append.mp hq with h | h
          · exact hS.2.2 q h
          · exact hL q h⟩
        have k2 := kk q (by omega) (by omega) T'.heap (locs ++ L') ls (by rw [e1]; exact hw) hS2 hl
        have e3 : 0 + (G2.2.2.2 - G.2.2.2) = 0 + (G1.2.2.2 - G.2.2.2) + 1 := by omega
        have e4 : 0 + 6 * (G2.2.2.2 - G.2.2.2) = 0 + 6 * (G1.2.2.2 - G.2.2.2) + 6 := by omega
        rw [e3, e4] at k2
        have hxt : c.exceptionTable.toList = tableOf pre ++ ⟨x.1, x.2.1, x.2.2.1, x.2.2.2⟩ :: tableOf suf := by
          rw [htab, hsp]
          unfold tableOf
          rw [List.map_append, List.map_cons]
        have hc2 := vx_catch (own := y.cls) (name := E') (E := E') (ce := ce) (q := q) (pc := pc) (rest := rest) hown (tableOf pre) ⟨x.1, x.2.1, x.2.2.1, x.2.2.2⟩ (tableOf suf) hxt
          (fun z hz => by
            unfold tableOf at hz
            obtain ⟨z', hz1, hz2⟩ := List.mem_map.mp hz
            obtain ⟨p1, nm, p2, p3⟩ := hpass z' hz1
            subst hz2
            exact Or.inr ⟨p1, nm, hts _ p2, hB.2.2.2.2.2.2.2.2.2.2 _ p3⟩)
          (by unfold covers; simp [hcov.1, hcov.2]) hx0 (hts _ hlink) (va_Nw.use ((by decide +kernel : ∀ w ∈ xw, w.onTables = true) _ hcast) (hB.2.2.2.2.2.2.2.2.2.1 _ hcast)) (by rw [e1]; exact hce) hcv hcl2 k2
        obtain ⟨t2, a1, b1⟩ := hc2 T' rfl X'
        exact ⟨t2, st.trans a1, b1⟩)
    (Nat.le_refl _) (by omega) s.heap [] _ hP hS (by rw [← hL0]; exact lh_in hlen)
  rw [Nat.sub_self, Nat.mul_zero] at K
  exact K
