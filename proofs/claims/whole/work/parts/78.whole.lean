/-! THE CLAIM OUT OF ONE WALK OF THE LAW'S BODY. Your part is whole_start (and what it stands on); all else here is the same for every law, but numbers. -/
def R_law : String := "NumberLeasesLaw"
def lw_P (b : Addr) (xs : List Int32) (args : Array Value) (s : State) : Prop := args = #[.ref b] ∧ s.IntsAt b xs ∧ xs.length ≤ 2048 ∧ (Jvm.Cond.and given_1 narrow_1).before args s = true
/-- what a walk over the start with the record d0 says of its end, said of the start itself -/
theorem lw_closed {s t : State} {o : Outcome} {d0 : Drawn} {L : List Loc} {k n : Nat} (hd0 : s.drawn.sameBut d0 lw_cs) (hv : ∃ v, o = .returned v) (hW : (s.setDrawn d0).WarmedH t.vm) (hs : (s.setDrawn d0).sameButNew ({ t with vm := s.vm } : State) L k n) : State.butDraws s t lw_cs (fun t1 => Framed s o t1 L k n) := by
  have h2 : t.drawn = d0 := congrArg State.drawn hs.1
  refine ⟨⟨hv, hW, State.sameButNew.setDrawn hs s.drawn⟩, ?_, by decide⟩
  rw [h2]
  exact hd0
def lw_Q (_ : Array Value) (s : State) (o : Outcome) (t : State) : Prop := o = .returned (some (.int 1)) ∧ State.butDraws s t lw_cs (fun t1 => Framed s o t1 [] 601024 7293034)
def lw_Z (below : List Frame) (a : Array Value) (s : State) : State → Prop := fun t => ∃ o, t.status = .running ∧ Ended t below o ∧ lw_Q a s o t
/-- the law's own end, with 1 on the stack, nothing written that was there before, its room as the claim has it; d0: the record of draws at this point (at the entry s.drawn: begin with 'refine W.base ?_' and 'have hd0 := Drawn.sameBut.refl s.drawn lw_cs') -/
theorem lw_ret {p : Program} {l : Launch} {e : Env} {s : State} {m : MethodId} {below : List Frame} {meth : Method} {c : Code} {b : Nat} {d0 : Drawn} (hd0 : s.drawn.sameBut d0 lw_cs) (hx : p.tables.exec = Jvm.exec) (hb : c.code = code) (hr : meth.sig.returnType = ret) (hlocks : meth.locks = false) {pc : Nat} {H : Heap} {ls : Array Slot} (hdg : decode code pc = .ok (.ireturn, 1)) : W p l e room_1 (s.setDrawn d0) m #[Value.ref b] below meth c H [] 601024 7293034 (lw_Z below #[Value.ref b] s) (F0 m pc ls [.int 1]) := by
  intro T hT X
  obtain ⟨fs, hret, hrun, hended, hW, hframe⟩ := X.leave (v := some (.int 1)) (hlocks := hlocks) (fun h => by rw [hr] at h; cases h)
  have hmeth' : T.vm.method? m = some meth := X.method'
  refine ⟨T.setFrames fs, ?_, .returned (some (.int 1)), hrun, hended, rfl, lw_closed hd0 ⟨_, rfl⟩ hW hframe⟩
  jvm_step X.here [X.here.top, hx, hb, hdg, hmeth', hr, ret, narrow_b1]
  (try refine ⟨rfl, ?_⟩); (try refine ⟨rfl, ?_⟩)
  first | (intro acts; rw [hret _ acts rfl rfl rfl]) | rw [hret _ _ rfl rfl rfl]
  exact Steps.refl _
/-- what holds at the law's entry: the machine, the code, the tables' words (any of lw_tbl by 'hts w (by decide +kernel)'), the script of L ints xs at the cell b, what the Statement gives of the start (any of its parts by flat_of_before) -/
def lw_At (p : Program) (s : State) (m : MethodId) (meth : Method) (c : Code) (b L : Nat) (xs : Nat → Int32) : Prop :=
  p.tables.exec = Jvm.exec ∧ c.code = code ∧ meth.sig.returnType = ret ∧ c.maxLocals = 9 ∧ s.vm.findClass R_law = some m.cls ∧ (∀ w ∈ lw_tbl, w.before #[Value.ref b] s = true) ∧ va_X b L xs s s.heap ∧ b < s.heap.size ∧ meth.locks = false ∧ (Jvm.Cond.and given_1 narrow_1).before #[Value.ref b] s = true
theorem tM {b : Nat} {s : State} (hts : ∀ w ∈ lw_tbl, w.before #[Value.ref b] s = true) (i : Nat) {w : Cond} (h : lw_tbl[i]? = some w) : w.before #[Value.ref b] s = true := hts w (List.mem_of_getElem? h)
/-- the world that the law finds: classes, tables, statics -/
theorem law_base {s : State} {b : Nat} (hts : ∀ w ∈ lw_tbl, w.before #[Value.ref b] s = true) (hgv : (Jvm.Cond.and given_1 narrow_1).before #[Value.ref b] s = true) : ∃ E : jE, E.1 = s.heap.size ∧ iB E s s.heap := by
  have htg : ∀ w ∈ gw, w.before #[Value.ref b] s = true := fun w hw => hts w (gw_tbl w hw)
  have hs := flat_of_before _ hgv
  have hA : ∀ a : Nat, a < s.heap.size → ¬ (s.heap.size ≤ a) := fun a h => Nat.not_le.mpr h
  obtain ⟨c0, i0, k0⟩ := u_known htg iX1 (htg _ m168)
  obtain ⟨c1, i1, k1⟩ := u_known htg iX2 (htg _ m89)
  obtain ⟨c2, i2, k2⟩ := u_known htg iX3 (htg _ m151)
  obtain ⟨c3, i3, k3⟩ := u_known htg iX4 (htg _ m81)
  obtain ⟨c4, i4, k4⟩ := u_known htg iX5 (htg _ m786)
  obtain ⟨cI, kI, pI, a1, a2, a3⟩ := Cond.arrayClass_spec (htg _ m149)
  obtain ⟨cJ, kJ, pJ, b1, b2, b3⟩ := Cond.arrayClass_spec (htg _ m1116)
  have hAO : va_AO RX2 s := va_AO.of (tM hts 157 (by decide +kernel))
  obtain ⟨pP, cP, kP, d1, -, d2, d3, d4⟩ := Cond.arrayOver_spec (va_AO.use (A := #[Value.ref b]) hAO)
  obtain ⟨tL, hL, tTL⟩ := va_Tof (tm := .static "NumberLeases" "LEAST_SETTING" "[I") (ty := .int) (N := 4) (f := fun j => .int (lsS j)) (A := fun q => s.heap.size ≤ q) (by decide) (hs _ (by decide +kernel)) (va_eqt (hs _ (by decide +kernel))) (fun j hj => by
    rcases j with _ | _ | _ | _ | j
    · exact va_eqt (hs _ (by decide +kernel))
    · exact va_eqt (hs _ (by decide +kernel))
    · exact va_eqt (hs _ (by decide +kernel))
    · exact va_eqt (hs _ (by decide +kernel))
    · exfalso; omega) hA
  obtain ⟨tN, hN, tTN⟩ := va_Tof (tm := .static "NumberLeases" "MOST_SETTING" "[I") (ty := .int) (N := 4) (f := fun j => .int (msS j)) (A := fun q => s.heap.size ≤ q) (by decide) (hs _ (by decide +kernel)) (va_eqt (hs _ (by decide +kernel))) (fun j hj => by
    rcases j with _ | _ | _ | _ | j
    · exact va_eqt (hs _ (by decide +kernel))
    · exact va_eqt (hs _ (by decide +kernel))
    · exact va_eqt (hs _ (by decide +kernel))
    · exact va_eqt (hs _ (by decide +kernel))
    · exfalso; omega) hA
  refine ⟨(s.heap.size, (fun c => match c with | 0 => c0 | 1 => c1 | 2 => c2 | 3 => c3 | _ => c4, fun c => match c with | 0 => i0 | 1 => i1 | 2 => i2 | 3 => i3 | _ => i4), (cI, cJ, cP), (tL, tN)), rfl, ⟨⟨?_, ?_⟩, ?_, ?_, ?_, ?_, tTL, tTN, Nat.le_refl _, ?_, ?_, ?_⟩, ?_, hAO⟩
  · intro c q hq
    rcases c with _ | _ | _ | _ | _ | c
    · cases hq; exact k0
    · cases hq; exact k1
    · cases hq; exact k2
    · cases hq; exact k3
    · cases hq; exact k4
    · cases hq
  · intro k q hq
    rcases k with _ | _ | _ | k
    · cases hq
      exact ⟨fun N z => ⟨fun k h => (by cases h), kI, a2, pI, a3⟩, a1⟩
    · cases hq
      exact ⟨fun N z => ⟨fun k h => (by cases h), kJ, b2, pJ, b3⟩, b1⟩
    · cases hq
      exact ⟨fun N z => ⟨fun k h => (by cases h), kP, d2, pP, d3⟩, kP, pP, d2, d3, d1, d4⟩
    · cases hq
  · exact vx_Zqof (tM hts 507 (by decide +kernel)) (htg _ m69) (hs _ (by decide +kernel)) hA
  · exact vx_Zqof (tM hts 509 (by decide +kernel)) (htg _ m69) (hs _ (by decide +kernel)) hA
  · exact va_Zof (tM hts 687 (by decide +kernel)) (htg _ m64) hL hA
  · exact va_Zof (tM hts 689 (by decide +kernel)) (htg _ m64) hN hA
  · exact va_Nw.of rfl (tM hts 332 (by decide +kernel))
  · intro w hw
    simp only [xw, List.mem_cons, List.not_mem_nil, or_false] at hw
    rcases hw with rfl | rfl | rfl | rfl | rfl | rfl
    · exact va_Nw.of rfl (tM hts 483 (by decide +kernel))
    · exact va_Nw.of rfl (tM hts 485 (by decide +kernel))
    · exact va_Nw.of rfl (tM hts 487 (by decide +kernel))
    · exact va_Nw.of rfl (tM hts 482 (by decide +kernel))
    · exact va_Nw.of rfl (tM hts 548 (by decide +kernel))
    · exact va_Nw.of rfl (tM hts 574 (by decide +kernel))
  · intro q hq
    simp only [ncs, List.mem_cons, List.not_mem_nil, or_false] at hq
    rcases hq with rfl | rfl | rfl | rfl | rfl | rfl
    · exact va_Nc.of (hs _ (by decide +kernel))
    · exact va_Nc.of (hs _ (by decide +kernel))
    · exact va_Nc.of (hs _ (by decide +kernel))
    · exact va_Nc.of (hs _ (by decide +kernel))
    · exact va_Nc.of (hs _ (by decide +kernel))
    · exact va_Nc.of (hs _ (by decide +kernel))
  · exact va_Nw.of rfl (tM hts 169 (by decide +kernel))
/-- the law up to its loop: the things are made -/
theorem law_made {l : Launch} {E : jE} {b : Nat} {J : iT} (hJ : iR l E RL cL_law 9 12 0 116 13173 false [] J)
    (k : J (blk E (K0, (0, 0)) 11 obj0 ++ blk E (K0, (0, 0)) 0 pool0 ++ blk E (K0, (0, 0)) 1 pool0 ++ (blk E (K0, (0, 0)) 9 obj0 ++ blk E (K0, (0, 0)) 2 pool0 ++ blk E (K0, (0, 0)) 3 pool0 ++ blk E (K0, (0, 0)) 4 pool0 ++ blk E (K0, (0, 0)) 5 pool0 ++ blk E (K0, (0, 0)) 6 pool0 ++ blk E (K0, (0, 0)) 7 pool0) ++ blk E (K0, (0, 0)) 8 obj0 ++ blk E (K0, (0, 0)) 10 mod0 ++ blk E (K0, (0, 0)) 12 obj0) 116 13173 23 (lawL E b 0 none none none none) []) : J [] 0 0 0 [some (.ref b), none, none, none, none, none, none, none, none] [] := by
  refine i_new hJ (ci := 3) (C := RX4) (T := TX4) (N := 4) (ty := tyX4) (fs := [.null, .null, .null, .null]) rfl iX4 tyX4_ok m80 m81 m64 (by decide +kernel) (Nat.le_of_ble_eq_true rfl) (Nat.le_of_ble_eq_true rfl) (a := ad E 11 0) rfl dL_law_0 ?_
  refine i_dup hJ dL_law_3 rfl ?_
  refine i_call hJ kIL_76 (i_nul l E (K0, (0, 0)) rfl (pre := [] ++ []) rfl) rfl (by simp [blk_len, wid]) (Nat.le_of_ble_eq_true rfl) (Nat.le_of_ble_eq_true rfl) ⟨by decide, by decide⟩ (Nat.le_of_ble_eq_true rfl) dL_law_4 ?_
  refine i_astore_n hJ dL_law_7 rfl (jp1 rfl rfl) ?_
  refine i_new hJ (ci := 4) (C := RX5) (T := TX5) (N := 12) (ty := tyX5) (fs := [.null, .null, .null, .int 0, .null, .int 0, .int 0, .int 0, .int 0, .int 0, .null, .int 0]) rfl iX5 tyX5_ok m785 m786 m68 (by decide +kernel) (Nat.le_of_ble_eq_true rfl) (Nat.le_of_ble_eq_true rfl) (a := ad E 10 0) (by simp [blk_len, wid]; rfl) dL_law_8 ?_
  refine i_dup hJ dL_law_11 rfl ?_
  refine i_call hJ kIL_79 (i_mod l E (K0, (0, 0)) (by simp [blk_len, wid]; rfl)) rfl (by rw [blk_len]; rfl) (Nat.le_of_ble_eq_true rfl) (Nat.le_of_ble_eq_true rfl) ⟨by decide, by decide⟩ (Nat.le_of_ble_eq_true rfl) dL_law_12 ?_
  refine i_astore_n hJ dL_law_15 rfl (jp2 rfl rfl) ?_
  refine i_iconst hJ (v := nI 1) dL_law_16 (by decide) ?_
  refine i_newl hJ rfl (by decide) (Nat.le_of_ble_eq_true rfl) (Nat.le_of_ble_eq_true rfl) (a := ad E 12 0) (by simp [blk_len, wid]; rfl) dL_law_17 ?_
  refine i_astore_n hJ dL_law_19 rfl (jp3 rfl rfl) ?_
  refine i_iconst hJ (v := nI 0) dL_law_20 (by decide) ?_
  refine i_istore hJ dL_law_21 (jp4 rfl rfl) ?_
  exact k
set_option maxHeartbeats 1000000 in
theorem whole_start {p : Program} {e : Env} {s : State} {m : MethodId} {below : List Frame} {meth : Method} {c : Code} (l : Launch) (hflags : l.flags = flags0) {b L : Nat} {xs : Nat → Int32} (hL : L ≤ 2048) (C0 : lw_At p s m meth c b L xs) : W p l e room_1 s m #[Value.ref b] below meth c s.heap [] 0 0 (lw_Z below #[Value.ref b] s) (entryFrame m ([Value.ref b] : List Value).toArray 9) := by
  obtain ⟨hx, hb, hr, hml, hown, hts, hX, hbl, hlocks, hgv⟩ := C0
  have htg : ∀ w ∈ gw, w.before #[Value.ref b] s = true := fun w hw => hts w (gw_tbl w hw)
  obtain ⟨E, hE, hB⟩ := law_base hts hgv
  have hst : l.stackTraces = false := by
    unfold Launch.stackTraces
    rw [hflags]
    decide +kernel
  have hd0 := Drawn.sameBut.refl s.drawn lw_cs
  have hfix : CallFix p m c cL_law 9 s #[Value.ref b] gw RL := ⟨hx, hb, hml, hown, htg⟩
  have hJ : jRX l E RL cL_law 9 12 0 512 b L xs (jW p l e room_1 s m #[Value.ref b] below meth c (lw_Z below #[Value.ref b] s) E 9 0 512 116 13173) := ⟨p, e, room_1, s, m, #[Value.ref b], below, meth, c, _, 116, 13173, rfl, hfix, by decide, by decide, by decide, by decide, hB.1, hX, hbl, by rw [hE]; exact hbl⟩
  have hret : ∀ (G : jG) (pc : Nat) (L : List (Option Value)), decode cL_law pc = .ok (.ireturn, 1) → jW p l e room_1 s m #[Value.ref b] below meth c (lw_Z below #[Value.ref b] s) E 9 0 512 116 13173 G pc L [.int 1] := by
    intro G pc L hdg h1 h2 H locs ls hP hS hl
    refine va_forget (fun q hq => by have := hS.2.2 q hq; rw [← hE]; exact this) ?_
    refine W.widen (k := 601024) (n := 7293034) (by omega) (by omega) ?_
    exact lw_ret (d0 := s.drawn) hd0 hx hb hr hlocks hdg
  have hI : iR l E RL cL_law 9 12 0 116 13173 false [] (iW p l e room_1 s m #[Value.ref b] below meth c (lw_Z below #[Value.ref b] s) E [] 9 0) := ⟨p, e, room_1, s, m, #[Value.ref b], below, meth, c, _, rfl, hfix, by decide, by decide, by decide, by decide, hB, hE.symm, fun h => by cases h⟩
  have K := law_made (b := b) hI (by
    intro hn H locs ls hP hz hS hl
    have h := law_loop hst hJ hret hL 513 S0 K0 0 0 0 none none none none COUP_0 (Nat.le_refl _) rfl (Nat.le_refl _) (Nat.zero_le _) H locs ls (by rw [← wld_0]; exact hP) hS hl
    exact h)
  rw [lg_entry_eq]
  exact K rfl s.heap [] _ (fun k q hq => by cases hq) hE.symm va_S.rf (lh_in (nL := 9) (av := [.ref b]) (by show (lg_sl [Value.ref b]).length ≤ 9; exact (Nat.le_of_ble_eq_true rfl)))
set_option maxHeartbeats 4000000 in
theorem lw_walk (l : Launch) (hflags : l.flags = flags0) (b : Addr) (xs : List Int32) : MetFree l x (headSpec (Jvm.Cond.code x code maxLocals ret :: tables_1) room_1) (lw_P b xs) (fun _ _ _ _ _ => True) lw_Q := by
  refine MetFree.of_bodyS (code := code) (maxLocals := maxLocals) (ret := ret) (by decide) ?_ ?_
  · intro args s m h hn
    obtain ⟨meth, c, h1, h2, h3, h4, h5, h6, -, -⟩ := Cond.code_spec hn (atoms_spec (ws := Jvm.Cond.code x code maxLocals ret :: tables_1) h _ List.mem_cons_self)
    exact ⟨meth, c, h1, h2, h3, h4, h5, h6⟩
  · intro p e s m args below meth c s₁ B hml0 hP _
    obtain ⟨rfl, hx, hbd, hgv⟩ := hP
    obtain ⟨scr, harrAt, hlist, hof, hsmall⟩ := hx
    obtain ⟨hcb, hkn, -, -⟩ := State.arrayAt?_spec harrAt
    have hown : s.vm.findClass R_law = some m.cls := findClass_of_methodNamed B.named
    have hts0 : ∀ c ∈ (Jvm.Cond.code x code maxLocals ret :: tables_1), c.before #[Value.ref b] s = true := atoms_spec (ws := Jvm.Cond.code x code maxLocals ret :: tables_1) B.pre
    have hts : ∀ w ∈ lw_tbl, w.before #[Value.ref b] s = true := k2_hts_sels lw_privs (fun w hw => hts0 w (List.mem_cons_of_mem _ hw)) lw_privs_ok
    have hml : c.maxLocals = 9 := B.maxLocals_eq (hts0 _ List.mem_cons_self)
    have X₀ : Stand p l e room_1 s m #[Value.ref b] below meth c s₁ [] 0 0 := Stand.of_body B
    have hh0 : s₁.heap = s.heap := by rw [B.state]; rfl
    have hsz : scr.slots.size = xs.length := by rw [← Array.length_toList, hlist, List.length_map]
    have hval : ∀ j : Nat, j < xs.length → scr.slots[j]? = some (.int (xs.getD j 0)) := fun j hj => by
      rw [← Array.getElem?_toList, hlist]
      simp [hj]
    have hbl : b < s.heap.size := (Array.getElem?_eq_some_iff.mp hcb).1
    have hX : va_X b xs.length (fun j => xs.getD j 0) s s.heap := ⟨scr, hcb, hof, hkn, hsz, hval⟩
    have K : W p l e room_1 s m #[Value.ref b] below meth c s₁.heap [] 0 0 (lw_Z below #[Value.ref b] s) (entryFrame m ([Value.ref b] : List Value).toArray 9) := by
      rw [hh0]
      exact whole_start l hflags hbd ⟨B.exec, B.bytes, B.returns, hml, hown, hts, hX, hbl, B.notSynchronized, hgv⟩
    obtain ⟨t, a1, o, b1, b2, b3⟩ := K s₁ rfl X₀
    exact ⟨t, o, a1, b1, b2, b3⟩
theorem lw_pre_spec {args : Array Value} {s : State} (h : (Jvm.Cond.and given_1 narrow_1).before args s = true) (hr : rest_1_c.before args s = true) : ∃ (b : Addr) (xs : List Int32), lw_P b xs args s := by
  have hs := flat_of_before _ h
  have hq := flat_of_before _ hr
  have hc : (Cond.count 1).before args s = true := hs _ (by decide +kernel)
  have harr : (Cond.arrayOf (.arg 0) .int).before args s = true := hs _ (by decide +kernel)
  have hle : (Cond.le (.length (.arg 0)) (.int 2048)).before args s = true := hs _ (by decide +kernel)
  have hlen : (Cond.isInt (.length (.arg 0))).before args s = true := hq _ (by decide +kernel)
  have hall : (Cond.all (.arg 0) (.isInt (.elem (.arg 0) (.index 0)))).before args s = true := hq _ (by decide +kernel)
  obtain ⟨b, xs, hb, hx⟩ := State.ints_of_pre rfl harr hlen hall
  have hsm : xs.length < 2 ^ 31 := hx.choose_spec.2.2.2
  have hev : (Term.length (.arg 0)).eval args s none [] s = some (.int xs.length.toInt32) := hx.length_eval hb
  have hv := Cond.le_ints hev (show (Term.int 2048).eval args s none [] s = some (.int 2048) from rfl)
  have hd : xs.length.toInt32 ≤ 2048 := by
    simpa [Cond.before, Cond.holds, hv] using hle
  have hN : xs.length ≤ 2048 := (Int32.ofNat_le_ofNat hsm (by decide)).mp (show Int32.ofNat xs.length ≤ Int32.ofNat 2048 from hd)
  exact ⟨b, xs, Cond.one_arg hc (show args[0]? = some (.ref b) from hb), hx, hN, h⟩
theorem lw_comes (l : Launch) (hflags : l.flags = flags0) : Comes l x (Jvm.Cond.code x code maxLocals ret :: tables_1) room_1 (fun tb e args s => Calls_1 tb e args s ∧ rest_1 tb e args s ∧ Pre_1 tb e args s)
    (fun _ _ args s o t => lw_Q args s o t) := by
  intro p e ha hc hk s m args below hf hfit hheap happ hpre
  obtain ⟨b, xs, hP⟩ := lw_pre_spec hpre.2.2 hpre.2.1
  obtain ⟨k, o, h1, h2, h3, hQ⟩ := lw_walk l hflags b xs p e ha hc hk s m args below hf ((Spec.applies_iff_loose hf).mp happ).1 hP trivial
  exact ⟨k, o, h1, h2, h3, hQ⟩
theorem lw_frame {s t : State} {o : Outcome} {args : Array Value} (h : State.butDraws s t lw_cs (fun t1 => Framed s o t1 [] 601024 7293034)) :
    State.butDraws s t [Jvm.Choice.named "NaN.bits"] (fun t1 => Framed s o t1 (fieldLocs frame_1_writes args s ++ arrayLocs frame_1_arrays args s ++ staticLocs frame_1_statics s) 601024 7293034) := h
theorem lw_limb (L : Cond) (hL : ∀ (args : Array Value) (s t : State), L.after args s (.returned (some (.int 1))) t = true) :
    ArmFor flags0 classFile x code maxLocals ret World_1 tables_1 room_1 Calls_1 rest_1 Pre_1
      (fun tb e a s o t => postC L tb e a s o t ∧ State.butDraws s t [Jvm.Choice.named "NaN.bits"] (fun t1 => Framed s o t1 (fieldLocs frame_1_writes a s ++ arrayLocs frame_1_arrays a s ++ staticLocs frame_1_statics s) 601024 7293034)) := by
  intro l hflags _ _ p e ha hc hk s m args below hf hfit hheap happ hpre
  obtain ⟨k, o, h1, h2, h3, rfl, hF⟩ := lw_comes l hflags p e ha hc hk s m args below hf hfit hheap happ hpre
  exact ⟨k, _, h1, h2, h3, hL args s _, lw_frame hF⟩
theorem i_vc : Claimed_1_1 ∧ Claimed_1_2 := ⟨lw_limb limb_1_1 (fun args s t => by simp [limb_1_1, Cond.after, Cond.holds, Cond.value]), lw_limb limb_1_2 (fun args s t => Cond.after_iff.mpr (by
  first | (rw [show limb_1_2 = Cond.eq .result (.int 1) from rfl, Cond.eq_ints (x := 1) (y := 1) rfl rfl]; simp; done) | (simp [limb_1_2, Cond.value, Term.eval]; done)))⟩
