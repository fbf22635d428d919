section
/-! ===== BEGIN words of one list among another's, by their places ===== -/
theorem goodIn_r {big : List Cond} (ws : List Cond) (ps : List Nat) (hp : ws = ps.filterMap (fun i => big[i]?)) (h : ws.all goodWord = true) : GoodIn big ws := by
  intro w hw
  have h1 := List.all_eq_true.mp h w hw
  rw [hp] at hw
  obtain ⟨i, -, hi⟩ := List.mem_filterMap.mp hw
  have hm : w ∈ big := by first | exact List.mem_of_getElem? hi | exact List.getElem?_mem hi
  exact ⟨hm, good_of_word h1⟩
theorem goodIn_app {big a b : List Cond} (ha : GoodIn big a) (hb : GoodIn big b) : GoodIn big (a ++ b) := fun w h => (List.mem_append.mp h).elim (ha w) (hb w)
theorem goodIn_ca {big a b : List Cond} {c : Cond} (ha : GoodIn big (c :: a)) (hb : GoodIn big b) : GoodIn big (c :: (a ++ b)) := fun w h => (List.mem_cons.mp h).elim (fun e => ha w (List.mem_cons.mpr (Or.inl e))) (fun h => (List.mem_append.mp h).elim (fun h => ha w (List.mem_cons.mpr (Or.inr h))) (hb w))
theorem goodIn_sub {big ws : List Cond} (hm : ∀ w ∈ ws, w ∈ big) (h : ws.all goodWord = true) : GoodIn big ws := fun w hw => ⟨hm w hw, good_of_word (List.all_eq_true.mp h w hw)⟩
/-! ===== END ===== -/

/-! ===== BEGIN exceptions that leave a method, and their catching by the caller (launches without stack traces) ===== -/
section VXA
/-! The laws vx_back, vx_callV, vx_callS, vx_callSW, vx_throw0, vx_throwS follow proofs of the library, with one case more: JvmDerived/Free/Laws.lean (Back.of_free), Shelf42/LK1.lean (callV, callS), Shelf/KitTraced.lean (throwNew0V, throwNewS). -/
/-- where a method has thrown q: the class by its name, the cell, what was written, the world -/
def vx_T (XC : String → State → State → Prop) (st : State) (q : Addr) (t : State) (mc ms : Nat) (free : Addr → Prop) : Prop :=
  ∃ (E : String) (ce : Cell) (L : List Loc), XC E st t ∧ t.heap[q]? = some ce ∧ ce.vm = .none ∧ st.vm.findClass E = some ce.cls ∧ st.WarmedH t.vm ∧ st.sameButNew ({ t with vm := st.vm } : State) L mc ms ∧ ∀ z ∈ L, free z.base
def vx_Q (Qc : Array Value → State → Outcome → State → Prop) (XC : String → State → State → Prop) (mc ms : Nat) (free : Addr → Prop) : Array Value → State → Outcome → State → Prop := fun a st o t =>
  (Qc a st o t ∧ ∃ L, FrameEnd st o t L mc ms ∧ ∀ q ∈ L, free q.base) ∨ ∃ q, o = .threw q ∧ vx_T XC st q t mc ms free
/-- a callee that returns or throws -/
def vx_Met (l : Launch) (y : MethodName) (ws : List Cond) (rm : Room) (Pc : Array Value → State → Prop) (Qc : Array Value → State → Outcome → State → Prop) (XC : String → State → State → Prop) (mc ms : Nat) (free : Addr → Prop) : Prop :=
  MetFree l y (headSpec ws rm) Pc (fun _ _ _ _ _ => True) (vx_Q Qc XC mc ms free)
def vx_Post (XC : String → State → State → Prop) (mc ms : Nat) (free : Addr → Prop) : Pt → Array Value → Addr → Pt → Prop := fun A a q B =>
  ∃ (g : JFrame) (mk : MethodId) (t : State) (L : List Loc) (E : String) (ce : Cell), B.U.heap = t.heap ∧ B.U.vm = t.vm ∧ XC E (A.U.calling g mk a) t ∧ t.heap[q]? = some ce ∧ ce.vm = .none ∧ A.U.vm.findClass E = some ce.cls ∧ B.locs = A.locs ++ L ∧ (∀ z ∈ L, free z.base) ∧ B.cells = A.cells + mc ∧ B.slots = A.slots + ms
def vx_Back (l : Launch) (R : Room) (p : Program) (e : Env) (below : List Frame) (s : State) (sargs : Array Value) (y : MethodName) (len W9 : Nat)
    (Pre : Pt → Array Value → Prop) (Post : Pt → Array Value → Option Value → Pt → Prop) (PostX : Pt → Array Value → Addr → Pt → Prop) : Prop :=
  ∀ (m : MethodId) (meth : Method) (c : Code) (A : Pt) (g : JFrame) (ig : Instr) (mk : MethodId) (a : Array Value),
    Stand p l e R s m sargs below meth c A.U A.locs A.cells A.slots → g.method = m → g.locals.size = c.maxLocals → decode c.code g.pc = .ok (ig, len) →
    2 * g.monitorRoom + (g.stack.map fun v => v.category).sum ≤ W9 → A.U.methodNamed? y = some mk → Pre A a →
    (∃ (v : Option Value) (B : Pt), Stand p l e R s m sargs below meth c B.U B.locs B.cells B.slots ∧ Post A a v B ∧
      Steps p.tables e below (doInvoke e (A.U.setTop g) [] mk a).1 (B.U.setTop { g with pc := g.pc + len, stack := v.toList ++ g.stack })) ∨
    (∃ (q : Addr) (B : Pt), Stand p l e R s m sargs below meth c B.U B.locs B.cells B.slots ∧ PostX A a q B ∧
      Steps p.tables e below (doInvoke e (A.U.setTop g) [] mk a).1 ((B.U.setTop g).pushFrame (.throwing q)))
section Payer
variable {l : Launch} {R : Room} {p : Program} {e : Env} {below : List Frame} {s : State} {sargs : Array Value} {y : MethodName} {len W9 : Nat}
theorem vx_back {ws : List Cond} {rm : Room} {Pc : Array Value → State → Prop} {Qc : Array Value → State → Outcome → State → Prop} {XC : String → State → State → Prop} {mc ms : Nat} {free : Addr → Prop} {bytes : ByteArray} {maxL : Nat} {ret : Option FieldType}
    (hM : vx_Met l y ws rm Pc Qc XC mc ms free) (hblind : FrameBlind Pc) (hrc : rm.cells = mc) (hrs : rm.slots = ms)
    (hframes : rm.frames + 1 ≤ R.frames) (hlocals : W9 + (maxL + 11) + rm.locals ≤ R.locals)
    (hws : ∀ w ∈ ws, ∀ a' U, s.WarmedH U.vm → w.before a' U = true) (hcode : Cond.code y bytes maxL ret ∈ ws) (hinit : ∀ a' U, s.WarmedH U.vm → (Cond.initialized y.cls).before a' U = true) :
    vx_Back l R p e below s sargs y len W9 (PreOf R mc ms Pc) (PostOf Qc mc ms free) (vx_Post XC mc ms free) := by
  intro m meth c A g ig mk a X hg hsize hdg hW hn hp
  have h1 : (headSpec ws rm).pre.before a A.U = true := atoms_intro fun w hw => hws w hw _ _ X.warmed
  have h2 : (Cond.code y bytes maxL ret).before a A.U = true := hws _ hcode _ _ X.warmed
  have h3 : (Cond.initialized y.cls).before a A.U = true := hinit _ _ X.warmed
  have h4 : A.cells + (headSpec ws rm).room.cells ≤ R.cells := by rw [show (headSpec ws rm).room.cells = mc from hrc]; exact hp.1
  have h5 : A.slots + (headSpec ws rm).room.slots ≤ R.slots := by rw [show (headSpec ws rm).room.slots = ms from hrs]; exact hp.2.1
  have hPc : Pc a (A.U.calling g mk a) := hblind _ _ _ _ hp.2.2
  obtain ⟨U, Ls, c0, s0⟩ := A
  dsimp only [Pt.U, Pt.locs, Pt.cells, Pt.slots] at h1 h2 h3 h4 h5 X hn hPc ⊢
  obtain ⟨methY, cY, hmY, hcY, -, hlY, -, -, -, -⟩ := Cond.code_spec hn h2
  obtain ⟨kY, hkY, -⟩ := className_of_methodNamed hn
  have hinitY : kY.init = .initialized := Cond.initialized_spec (findClass_of_methodNamed hn) hkY h3
  have h : At U g.method c below := by rw [hg]; exact X.here
  have hlocals9 : W9 + (maxL + 11) + (headSpec ws rm).room.locals ≤ R.locals := hlocals
  have happ : (headSpec ws rm).appliesLoose y e.platform (U.calling g mk a) = true :=
    Spec.appliesLoose_calling (g := g) h hdg hn hkY hinitY
      (X.room_calling (g := g) (R' := (headSpec ws rm).room) hsize hmY hcY hframes (by rw [hlY]; omega) h4 h5) h1
  obtain ⟨mid, hmid⟩ := h.above
  have hfr : (U.setTop g).frames = (.java g :: mid) ++ below := by rw [State.frames_setTop' g h.top, hmid]; rfl
  obtain ⟨o, s₂, hsteps, -, hend, hq⟩ := Steps.callFree hM p X.admits X.cas X.clock (acts := []) hfr happ hPc trivial
  have hq' : vx_Q Qc XC mc ms free a (U.calling g mk a) o s₂ := hq
  rw [State.frames_setTop' g h.top] at hend
  obtain ⟨g₀, hg0⟩ := Option.isSome_iff_exists.mp h.top
  obtain ⟨r, hr⟩ := State.topJava?_eq_some.mp hg0
  have hr' : (({ U with heap := s₂.heap, slotsUsed := s₂.slotsUsed } : State).setVm s₂.vm).frames = .java g₀ :: r := hr
  rcases hq' with ⟨hqc, L, hfe, hL⟩ | ⟨q, rfl, E, ce, L, hx, hce, hcv, hcl, hW₂, hsm, hL⟩
  · obtain ⟨⟨v, rfl⟩, hW₂, e2, q2, q3, q4, q5, q6⟩ := id hfe
    have e3 : s₂ = ({ (U.calling g mk a).setFrames s₂.frames with heap := s₂.heap, slotsUsed := s₂.slotsUsed } : State).setVm s₂.vm := by
      have : s₂ = ({ s₂ with vm := (U.calling g mk a).vm } : State).setVm s₂.vm := rfl
      rw [e2] at this
      exact this
    obtain ⟨c₂, i₂, len₂, hc₂, hd₂, hf₂⟩ := hend
    have hW' : U.WarmedH s₂.vm := hW₂
    have hcc : c₂ = c := by
      have h1 : s₂.code? g.method = U.code? g.method := by
        rw [State.code?_eq, State.code?_eq, hW'.alike.method?]
      exact Option.some.inj (hc₂.symm.trans (h1.trans h.code))
    subst hcc
    have hlen : len₂ = len := by rw [hdg] at hd₂; cases hd₂; rfl
    subst hlen
    have hs₂ : s₂ = (({ U with heap := s₂.heap, slotsUsed := s₂.slotsUsed } : State).setVm s₂.vm).setTop { g with pc := g.pc + len₂, stack := v.toList ++ g.stack } := by
      refine e3.trans ?_
      rw [hf₂, State.calling_eq h.top, State.setFrames_setFrames, State.setTop_of_frames _ hr', hr]
      rfl
    have hsame : U.sameButNew ({ U with heap := s₂.heap, slotsUsed := s₂.slotsUsed } : State) L mc ms := by
      refine ⟨?_, q2, q3, q4, q5, q6⟩
      obtain ⟨t, ht, -⟩ := State.frames_cons hr
      show ({ U with heap := s₂.heap, slotsUsed := s₂.slotsUsed } : State) = { U.setFrames U.frames with heap := s₂.heap, slotsUsed := s₂.slotsUsed }
      rw [State.setFrames_self ht]
    subst hg
    refine Or.inl ⟨v, ⟨(({ U with heap := s₂.heap, slotsUsed := s₂.slotsUsed } : State).setVm s₂.vm), Ls ++ L, c0 + mc, s0 + ms⟩,
      ⟨X.admits, X.cas, X.clock, X.frames, X.room, X.hears, X.method, X.code, (X.here.setHeapUsed s₂.heap s₂.slotsUsed).setVm hW'.alike, X.tail, State.WarmedH.trans X.warmed hW', X.limits, X.bytes, X.same.trans (hsame.setVm s.vm)⟩,
      ⟨g, mk, s₂, L, rfl, rfl, hqc, rfl, hL, rfl, rfl⟩, ?_⟩
    show Steps p.tables e below _ ((({ U with heap := s₂.heap, slotsUsed := s₂.slotsUsed } : State).setVm s₂.vm).setTop { g with pc := g.pc + len₂, stack := v.toList ++ g.stack })
    rw [← hs₂]
    exact hsteps
  · obtain ⟨e2, q2, q3, q4, q5, q6⟩ := id hsm
    have e3 : s₂ = ({ (U.calling g mk a).setFrames s₂.frames with heap := s₂.heap, slotsUsed := s₂.slotsUsed } : State).setVm s₂.vm := by
      have : s₂ = ({ s₂ with vm := (U.calling g mk a).vm } : State).setVm s₂.vm := rfl
      rw [e2] at this
      exact this
    have hf₂ : s₂.frames = .throwing q :: .java g :: U.frames.tail := hend
    have hW' : U.WarmedH s₂.vm := hW₂
    have hs₂ : s₂ = ((({ U with heap := s₂.heap, slotsUsed := s₂.slotsUsed } : State).setVm s₂.vm).setTop g).pushFrame (.throwing q) := by
      refine e3.trans ?_
      rw [hf₂, State.calling_eq h.top, State.setFrames_setFrames, State.pushFrame, State.frames_setTop _ hr', State.setTop_of_frames _ hr', State.setFrames_setFrames, hr]
      rfl
    have hsame : U.sameButNew ({ U with heap := s₂.heap, slotsUsed := s₂.slotsUsed } : State) L mc ms := by
      refine ⟨?_, q2, q3, q4, q5, q6⟩
      obtain ⟨t, ht, -⟩ := State.frames_cons hr
      show ({ U with heap := s₂.heap, slotsUsed := s₂.slotsUsed } : State) = { U.setFrames U.frames with heap := s₂.heap, slotsUsed := s₂.slotsUsed }
      rw [State.setFrames_self ht]
    subst hg
    refine Or.inr ⟨q, ⟨(({ U with heap := s₂.heap, slotsUsed := s₂.slotsUsed } : State).setVm s₂.vm), Ls ++ L, c0 + mc, s0 + ms⟩,
      ⟨X.admits, X.cas, X.clock, X.frames, X.room, X.hears, X.method, X.code, (X.here.setHeapUsed s₂.heap s₂.slotsUsed).setVm hW'.alike, X.tail, State.WarmedH.trans X.warmed hW', X.limits, X.bytes, X.same.trans (hsame.setVm s.vm)⟩,
      ⟨g, mk, s₂, L, E, ce, rfl, rfl, hx, hce, hcv, hcl, rfl, hL, rfl, rfl⟩, ?_⟩
    show Steps p.tables e below _ (((({ U with heap := s₂.heap, slotsUsed := s₂.slotsUsed } : State).setVm s₂.vm).setTop g).pushFrame (.throwing q))
    rw [← hs₂]
    exact hsteps
end Payer
section Calls
variable {p : Program} {l : Launch} {e : Env} {R : Room} {s : State} {m : MethodId} {args : Array Value} {below : List Frame} {meth : Method} {c : Code} {T : State} {locs : List Loc} {cells slots : Nat}
theorem vx_callV (X : Stand p l e R s m args below meth c T locs cells slots) (hexec : p.tables.exec = Jvm.exec) {own C : String} {index : Nat} {y : MethodName} {bytes : ByteArray} {maxL : Nat} {ret : Option FieldType}
    (hown : s.vm.findClass own = some m.cls) (hlink : (Cond.methodLink own index y).before args s = true) (hinst : (Cond.instanceMethod y).before args s = true) (hsel : (Cond.selects C y y).before args s = true)
    (hcode : (Cond.code y bytes maxL ret).before args s = true) (hy : y.cls ≠ "java/lang/invoke/MethodHandle" ∧ y.cls ≠ "java/lang/invoke/VarHandle")
    {W9 : Nat} {Pre : Pt → Array Value → Prop} {Post : Pt → Array Value → Option Value → Pt → Prop} {PostX : Pt → Array Value → Addr → Pt → Prop} (hK : vx_Back l R p e below s args y 3 W9 Pre Post PostX)
    {b : Addr} {cellB : Cell} (hcell : T.heap[b]? = some cellB) (hobj : cellB.vm.isStatics = false) (hcls : s.vm.findClass C = some cellB.cls)
    {g : JFrame} (hg : g.method = m) (hsize : g.locals.size = c.maxLocals) {argsL rest : List Value} (hlen : ∀ sig, parseMethodDescriptor y.desc = some sig → argsL.length = sig.parameters.length)
    (hstack : g.stack = argsL.reverse ++ .ref b :: rest) (hW : 2 * g.monitorRoom + (rest.map fun v => v.category).sum ≤ W9) (hdg : decode c.code g.pc = .ok (.invokevirtual index, 3))
    (hpre : ∀ vm₁, s.WarmedH vm₁ → Pre ⟨T.setVm vm₁, locs, cells, slots⟩ (Value.ref b :: argsL).toArray) :
    (∃ (v : Option Value) (vm₁ : Vm) (B : Pt), s.WarmedH vm₁ ∧ Stand p l e R s m args below meth c B.U B.locs B.cells B.slots ∧ Post ⟨T.setVm vm₁, locs, cells, slots⟩ (Value.ref b :: argsL).toArray v B ∧
      ∀ target, Steps p.tables e below (B.U.setTop { g with pc := g.pc + 3, stack := v.toList ++ rest }) target → Steps p.tables e below (T.setTop g) target) ∨
    (∃ (q : Addr) (vm₁ : Vm) (B : Pt), s.WarmedH vm₁ ∧ Stand p l e R s m args below meth c B.U B.locs B.cells B.slots ∧ PostX ⟨T.setVm vm₁, locs, cells, slots⟩ (Value.ref b :: argsL).toArray q B ∧
      Steps p.tables e below (T.setTop g) ((B.U.setTop { g with stack := rest }).pushFrame (.throwing q))) := by
  obtain ⟨mk, methM, hnamed, hmethM, hstM, habM⟩ := Cond.instanceMethod_spec hinst
  obtain ⟨methM', cM, hmethM', -, -, -, -, -, -, hsigM⟩ := Cond.code_spec hnamed hcode
  cases hmethM.symm.trans hmethM'
  obtain ⟨c2, r2, m2, q1, q2, q3, q4, kP, hkP, hkPi⟩ := Cond.selects_spec hsel
  cases hcls.symm.trans q1
  cases (State.methodFound?_of_named hnamed hy).symm.trans q2
  cases hnamed.symm.trans q3
  have hselP : selectMethod e.platform s.vm cellB.cls mk = .method mk := by rw [Launch.admits_selectMethod X.admits]; exact q4
  obtain ⟨vm₁, X₁, hstep₁⟩ := X.invokevirtual hexec hown hlink hnamed hmethM hstM hkP hkPi hy (a := b) (cell := cellB) hcell
    (fun z h => by rw [h] at hobj; cases hobj) hselP hmethM habM hkP hkPi (g := g) hg (argsL := argsL) (rest := rest) (hlen _ hsigM) hstack hdg
  rcases hK m meth c ⟨T.setVm vm₁, locs, cells, slots⟩ { g with stack := rest } (.invokevirtual index) mk (Value.ref b :: argsL).toArray X₁ hg hsize hdg hW (X₁.named hnamed) (hpre vm₁ X₁.warmed) with ⟨v, B, X', hpost, hsteps⟩ | ⟨q, B, X', hpost, hsteps⟩
  · exact Or.inl ⟨v, vm₁, B, X₁.warmed, X', hpost, fun target h => hstep₁ _ fun acts => by rw [doInvoke_state]; exact hsteps.trans h⟩
  · exact Or.inr ⟨q, vm₁, B, X₁.warmed, X', hpost, hstep₁ _ fun acts => by rw [doInvoke_state]; exact hsteps⟩
theorem vx_callS (X : Stand p l e R s m args below meth c T locs cells slots) (hexec : p.tables.exec = Jvm.exec) {own : String} {index : Nat} {y : MethodName} {bytes : ByteArray} {maxL : Nat} {ret : Option FieldType}
    (hown : s.vm.findClass own = some m.cls) (hlink : (Cond.methodLink own index y).before args s = true) (hstat : (Cond.static y).before args s = true) (hinit : (Cond.initialized y.cls).before args s = true)
    (hcode : (Cond.code y bytes maxL ret).before args s = true) (hy : y.cls ≠ "java/lang/invoke/MethodHandle" ∧ y.cls ≠ "java/lang/invoke/VarHandle")
    {W9 : Nat} {Pre : Pt → Array Value → Prop} {Post : Pt → Array Value → Option Value → Pt → Prop} {PostX : Pt → Array Value → Addr → Pt → Prop} (hK : vx_Back l R p e below s args y 3 W9 Pre Post PostX)
    {g : JFrame} (hg : g.method = m) (hsize : g.locals.size = c.maxLocals) {argsL rest : List Value} (hlen : ∀ sig, parseMethodDescriptor y.desc = some sig → argsL.length = sig.parameters.length)
    (hstack : g.stack = argsL.reverse ++ rest) (hW : 2 * g.monitorRoom + (rest.map fun v => v.category).sum ≤ W9) (hdg : decode c.code g.pc = .ok (.invokestatic index, 3))
    (hpre : ∀ vm₁, s.WarmedH vm₁ → Pre ⟨T.setVm vm₁, locs, cells, slots⟩ argsL.toArray) :
    (∃ (v : Option Value) (vm₁ : Vm) (B : Pt), s.WarmedH vm₁ ∧ Stand p l e R s m args below meth c B.U B.locs B.cells B.slots ∧ Post ⟨T.setVm vm₁, locs, cells, slots⟩ argsL.toArray v B ∧
      ∀ target, Steps p.tables e below (B.U.setTop { g with pc := g.pc + 3, stack := v.toList ++ rest }) target → Steps p.tables e below (T.setTop g) target) ∨
    (∃ (q : Addr) (vm₁ : Vm) (B : Pt), s.WarmedH vm₁ ∧ Stand p l e R s m args below meth c B.U B.locs B.cells B.slots ∧ PostX ⟨T.setVm vm₁, locs, cells, slots⟩ argsL.toArray q B ∧
      Steps p.tables e below (T.setTop g) ((B.U.setTop { g with stack := rest }).pushFrame (.throwing q))) := by
  obtain ⟨mk, hnamed⟩ := Cond.code_named hcode
  obtain ⟨methM, cM, hmethM, -, -, -, -, -, -, hsigM⟩ := Cond.code_spec hnamed hcode
  have hstatic : methM.isStatic = true := Cond.static_spec hnamed hmethM hstat
  obtain ⟨kP, hkP, -⟩ := className_of_methodNamed hnamed
  have hinitP : kP.init = .initialized := Cond.initialized_spec (findClass_of_methodNamed hnamed) hkP hinit
  obtain ⟨vm₁, X₁, hstep₁⟩ := X.invokestatic hexec hown hlink hnamed hmethM hstatic hkP hinitP hy (g := g) hg (argsL := argsL) (rest := rest) (hlen _ hsigM) hstack hdg
  rcases hK m meth c ⟨T.setVm vm₁, locs, cells, slots⟩ { g with stack := rest } (.invokestatic index) mk argsL.toArray X₁ hg hsize hdg hW (X₁.named hnamed) (hpre vm₁ X₁.warmed) with ⟨v, B, X', hpost, hsteps⟩ | ⟨q, B, X', hpost, hsteps⟩
  · exact Or.inl ⟨v, vm₁, B, X₁.warmed, X', hpost, fun target h => hstep₁ _ fun acts => by rw [doInvoke_state]; exact hsteps.trans h⟩
  · exact Or.inr ⟨q, vm₁, B, X₁.warmed, X', hpost, hstep₁ _ fun acts => by rw [doInvoke_state]; exact hsteps⟩
end Calls
theorem vx_cls {s : State} {T : State} {vm₁ : Vm} {E : String} {k : ClassId} (hW : s.WarmedH vm₁) (h : (T.setVm vm₁).vm.findClass E = some k) : s.vm.findClass E = some k := by
  have h1 : vm₁.findClass E = some k := h
  rw [hW.alike.findClass] at h1
  exact h1
/-- the method's frame g, with q thrown over it -/
def vx_W (p : Program) (l : Launch) (e : Env) (R : Room) (s : State) (m : MethodId) (args : Array Value) (below : List Frame) (meth : Method) (c : Code) (H : Heap) (locs : List Loc) (cells slots : Nat) (Q : State → Prop) (g : JFrame) (q : Addr) : Prop :=
  ∀ T : State, T.heap = H → Stand p l e R s m args below meth c T locs cells slots → ∃ t, Steps p.tables e below ((T.setTop g).pushFrame (.throwing q)) t ∧ Q t
def vx_Run (p : Program) (l : Launch) (e : Env) (R : Room) (s : State) (m : MethodId) (args : Array Value) (below : List Frame) (meth : Method) (c : Code) (H : Heap) (locs : List Loc) (cells slots mc ms : Nat) (g : JFrame) (rest : List Value) (Qa : State → Outcome → State → Prop) (XC : String → State → State → Prop) (free : Addr → Prop) : Prop :=
  ∀ T : State, T.heap = H → Stand p l e R s m args below meth c T locs cells slots →
    (∃ (v : Option Value) (st₀ t T' : State) (L : List Loc), st₀.heap = H ∧ Stand p l e R s m args below meth c T' (locs ++ L) (cells + mc) (slots + ms) ∧ (∀ q ∈ L, free q.base) ∧ T'.heap = t.heap ∧ T'.vm = t.vm ∧ Qa st₀ (.returned v) t ∧
      Goes p e below T g T' { g with pc := g.pc + 3, stack := v.toList ++ rest }) ∨
    (∃ (q : Addr) (st₀ t T' : State) (L : List Loc) (E : String) (ce : Cell), st₀.heap = H ∧ Stand p l e R s m args below meth c T' (locs ++ L) (cells + mc) (slots + ms) ∧ (∀ z ∈ L, free z.base) ∧ T'.heap = t.heap ∧ T'.vm = t.vm ∧ XC E st₀ t ∧ t.heap[q]? = some ce ∧ ce.vm = .none ∧ s.vm.findClass E = some ce.cls ∧
      Steps p.tables e below (T.setTop g) ((T'.setTop { g with stack := rest }).pushFrame (.throwing q)))
def vx_X {S : Type} (px : S → Prop) (B : String → S → State → Prop) (A : Nat → Prop) : String → State → State → Prop := fun E st t => ∃ u : S, px u ∧ B E u t ∧ va_F A st t
section Runs
variable {p : Program} {l : Launch} {e : Env} {R : Room} {s : State} {m : MethodId} {args : Array Value} {below : List Frame} {meth : Method} {c : Code} {H : Heap} {locs : List Loc} {cells slots : Nat}
variable {y : MethodName} {bytes cc : ByteArray} {maxL nL mc ms n index : Nat} {ret : Option FieldType} {ws : List Cond} {rm : Room} {Pc : Array Value → State → Prop} {Qc : Array Value → State → Outcome → State → Prop} {XC : String → State → State → Prop} {free : Addr → Prop} {Ts : List Cond} {own C : String} {b : Addr} {As rest : List Value} {g : JFrame}
theorem vx_callBack (cb : CallB R s args own index y bytes maxL ret ws rm mc ms n) (hM : vx_Met l y ws rm Pc Qc XC mc ms free) (hbl : FrameBlind Pc) : vx_Back l R p e below s args y 3 8 (PreOf R mc ms Pc) (PostOf Qc mc ms free) (vx_Post XC mc ms free) := by
  obtain ⟨hrc, hrs, hfr, hlo, hws, hcw, -, hini, -⟩ := cb
  exact vx_back (bytes := bytes) (maxL := maxL) (ret := ret) hM hbl hrc hrs hfr hlo hws hcw (fun a' U hW => word_at hW (Or.inl (by first | rfl | simp [Cond.onTables, Cond.keeps, Cond.steady])) hini)
theorem vx_runV (S : CallFix p m c cc nL s args Ts own) (hM : vx_Met l y ws rm Pc Qc XC mc ms free) (cw : CallW R s args own C index y bytes maxL ret ws rm mc ms n) (hp : PreV s H C b Pc As)
    (hg : g.method = m) (hn : As.length = n) (hsize : g.locals.size = nL) (hstack : g.stack = As.reverse ++ .ref b :: rest) (hW : 2 * g.monitorRoom + (rest.map fun v => v.category).sum ≤ 8) (hdg : decode cc g.pc = .ok (.invokevirtual index, 3)) (hf : cells + mc ≤ R.cells ∧ slots + ms ≤ R.slots) :
    vx_Run p l e R s m args below meth c H locs cells slots mc ms g rest (Qc (Value.ref b :: As).toArray) XC free := by
  have hK : vx_Back l R p e below s args y 3 8 (PreOf R mc ms Pc) (PostOf Qc mc ms free) (vx_Post XC mc ms free) := vx_callBack cw.1 hM hp.1
  obtain ⟨⟨-, -, -, -, -, -, hcode, -, hy, hlen, hl⟩, hin, hse⟩ := cw
  obtain ⟨hx, hb, hml, ho, -⟩ := S
  obtain ⟨-, ⟨cellB, hcB, hoB, hclB⟩, hPc⟩ := hp
  intro T hT X
  rcases vx_callV X hx (C := C) (bytes := bytes) (maxL := maxL) (ret := ret) ho hl hin hse hcode hy hK (by rw [hT]; exact hcB) hoB hclB hg (hsize.trans hml.symm) (argsL := As) (rest := rest) (fun sig h => hn.trans (hlen sig h)) hstack hW (by rw [hb]; exact hdg)
    (fun vm₁ hW₁ => ⟨hf.1, hf.2, hPc (T.setVm vm₁) hT hW₁⟩) with ⟨v, vm₁, ⟨U', l2, c2, s2⟩, hW₁, X', ⟨g', mk, t, L, e1, e2, hq, h1, hL, h2, h3⟩, st⟩ | ⟨q, vm₁, ⟨U', l2, c2, s2⟩, hW₁, X', ⟨g', mk, t, L, E, ce, e1, e2, hq, hce, hcv, hcl, h1, hL, h2, h3⟩, st⟩
  · dsimp only [Pt.U, Pt.locs, Pt.cells, Pt.slots] at X' e1 e2 h1 h2 h3 st
    subst h1; subst h2; subst h3
    exact Or.inl ⟨v, (T.setVm vm₁).calling g' mk (Value.ref b :: As).toArray, t, U', L, hT, X', hL, e1, e2, hq, st⟩
  · dsimp only [Pt.U, Pt.locs, Pt.cells, Pt.slots] at X' e1 e2 h1 h2 h3 st hcl
    subst h1; subst h2; subst h3
    exact Or.inr ⟨q, (T.setVm vm₁).calling g' mk (Value.ref b :: As).toArray, t, U', L, E, ce, hT, X', hL, e1, e2, hq, hce, hcv, vx_cls hW₁ hcl, st⟩
theorem vx_runS (S : CallFix p m c cc nL s args Ts own) (hM : vx_Met l y ws rm Pc Qc XC mc ms free) (cw : CallB R s args own index y bytes maxL ret ws rm mc ms n ∧ (Cond.static y).before args s = true) (hp : PreS s H Pc As)
    (hg : g.method = m) (hn : As.length = n) (hsize : g.locals.size = nL) (hstack : g.stack = As.reverse ++ rest) (hW : 2 * g.monitorRoom + (rest.map fun v => v.category).sum ≤ 8) (hdg : decode cc g.pc = .ok (.invokestatic index, 3)) (hf : cells + mc ≤ R.cells ∧ slots + ms ≤ R.slots) :
    vx_Run p l e R s m args below meth c H locs cells slots mc ms g rest (Qc As.toArray) XC free := by
  have hK : vx_Back l R p e below s args y 3 8 (PreOf R mc ms Pc) (PostOf Qc mc ms free) (vx_Post XC mc ms free) := vx_callBack cw.1 hM hp.1
  obtain ⟨⟨-, -, -, -, -, -, hcode, hini, hy, hlen, hl⟩, hstt⟩ := cw
  obtain ⟨hx, hb, hml, ho, -⟩ := S
  intro T hT X
  rcases vx_callS X hx (bytes := bytes) (maxL := maxL) (ret := ret) ho hl hstt hini hcode hy hK hg (hsize.trans hml.symm) (argsL := As) (rest := rest) (fun sig h => hn.trans (hlen sig h)) hstack hW (by rw [hb]; exact hdg)
    (fun vm₁ hW₁ => ⟨hf.1, hf.2, hp.2 (T.setVm vm₁) hT hW₁⟩) with ⟨v, vm₁, ⟨U', l2, c2, s2⟩, hW₁, X', ⟨g', mk, t, L, e1, e2, hq, h1, hL, h2, h3⟩, st⟩ | ⟨q, vm₁, ⟨U', l2, c2, s2⟩, hW₁, X', ⟨g', mk, t, L, E, ce, e1, e2, hq, hce, hcv, hcl, h1, hL, h2, h3⟩, st⟩
  · dsimp only [Pt.U, Pt.locs, Pt.cells, Pt.slots] at X' e1 e2 h1 h2 h3 st
    subst h1; subst h2; subst h3
    exact Or.inl ⟨v, (T.setVm vm₁).calling g' mk As.toArray, t, U', L, hT, X', hL, e1, e2, hq, st⟩
  · dsimp only [Pt.U, Pt.locs, Pt.cells, Pt.slots] at X' e1 e2 h1 h2 h3 st hcl
    subst h1; subst h2; subst h3
    exact Or.inr ⟨q, (T.setVm vm₁).calling g' mk As.toArray, t, U', L, E, ce, hT, X', hL, e1, e2, hq, hce, hcv, vx_cls hW₁ hcl, st⟩
end Runs
section Rows
variable {p : Program} {l : Launch} {e : Env} {R : Room} {s : State} {m : MethodId} {args : Array Value} {below : List Frame} {meth : Method} {c : Code} {H : Heap} {locs : List Loc} {cells slots : Nat} {Q : State → Prop}
variable {mc ms : Nat} {free : Addr → Prop} {A0 A1 : Nat → Prop} {H0 : Heap} {a : Array Value} {pc : Nat} {ls : Array Slot} {st0 rest : List Value}
theorem vx_keep {st₀ t T' : State} {L : List Loc} (h0 : st₀.heap = H) (e1 : T'.heap = t.heap) (hS : va_S A0 H0 H locs) (hA : ∀ q, q < H.size → A1 q → A0 q) (hf : ∀ q, free q → A0 q) (hL : ∀ q ∈ L, free q.base) (hF : va_F A1 st₀ t) :
    H.size ≤ T'.heap.size ∧ (∀ q : Nat, q < H.size → ¬ A1 q → T'.heap[q]? = H[q]?) ∧ va_S A0 H0 T'.heap (locs ++ L) := by
  obtain ⟨hz, hk⟩ := hF
  rw [h0] at hz hk
  exact ⟨by rw [e1]; exact hz, fun q h1 h2 => by rw [e1]; exact hk q h1 h2,
    ⟨Nat.le_trans hS.1 (by rw [e1]; exact hz), fun q h1 h2 => by rw [e1, hk q (Nat.lt_of_lt_of_le h1 hS.1) (fun z => h2 (hA q (Nat.lt_of_lt_of_le h1 hS.1) z))]; exact hS.2.1 q h1 h2, fun q hq => by
      rcases List.mem_append.mp hq with h | h
      · exact hS.2.2 q h
      · exact hf _ (hL q h)⟩⟩
theorem vx_calli {S SX : Type} {post : Int32 → S → Prop} {px : SX → Prop} {B : S → State → Prop} {BX : String → SX → State → Prop} {AX : Nat → Prop} (hr : vx_Run p l e R s m args below meth c H locs cells slots mc ms (F0 m pc ls st0) rest (va_Qi post B A1 a) (vx_X px BX AX) free) (hS : va_S A0 H0 H locs) (hA : ∀ q, q < H.size → A1 q → A0 q) (hf : ∀ q, free q → A0 q) (hAX : ∀ q, q < H.size → AX q → A0 q)
    (kx : ∀ (E : String) (ce : Cell) (q9 : Addr) (u : SX) (t : State) (H1 : Heap) (locs1 : List Loc), t.heap = H1 → s.vm.Alike t.vm → px u → BX E u t → H.size ≤ H1.size → (∀ q : Nat, q < H.size → ¬ AX q → H1[q]? = H[q]?) → va_S A0 H0 H1 locs1 → H1[q9]? = some ce → ce.vm = .none → s.vm.findClass E = some ce.cls → vx_W p l e R s m args below meth c H1 locs1 (cells + mc) (slots + ms) Q (F0 m pc ls rest) q9)
    (kk : ∀ (r : Int32) (u : S) (t : State) (H1 : Heap) (locs1 : List Loc), t.heap = H1 → s.vm.Alike t.vm → post r u → B u t → H.size ≤ H1.size → (∀ q : Nat, q < H.size → ¬ A1 q → H1[q]? = H[q]?) → va_S A0 H0 H1 locs1 → W p l e R s m args below meth c H1 locs1 (cells + mc) (slots + ms) Q (F0 m (pc + 3) ls (.int r :: rest))) : W p l e R s m args below meth c H locs cells slots Q (F0 m pc ls st0) := by
  intro T hT X
  rcases hr T hT X with ⟨v, st₀, t, T', L, h0, X', hL, e1, e2, ⟨⟨r, u, hv, hp, hb⟩, hF⟩, st⟩ | ⟨q, st₀, t, T', L, E, ce, h0, X', hL, e1, e2, ⟨u, hp, hb, hF⟩, hce, hcv, hcl, st⟩
  · cases hv
    obtain ⟨k1, k2, k3⟩ := vx_keep h0 e1 hS hA hf hL hF
    obtain ⟨t2, a1, b1⟩ := kk r u t T'.heap (locs ++ L) e1.symm (by rw [← e2]; exact X'.warmed.alike) hp hb k1 k2 k3 T' rfl X'
    exact ⟨t2, st t2 a1, b1⟩
  · obtain ⟨k1, k2, k3⟩ := vx_keep h0 e1 hS hAX hf hL hF
    obtain ⟨t2, a1, b1⟩ := kx E ce q u t T'.heap (locs ++ L) e1.symm (by rw [← e2]; exact X'.warmed.alike) hp hb k1 k2 k3 (by rw [e1]; exact hce) hcv hcl T' rfl X'
    exact ⟨t2, st.trans a1, b1⟩
theorem vx_calll {S SX : Type} {post : Int64 → S → Prop} {px : SX → Prop} {B : S → State → Prop} {BX : String → SX → State → Prop} {AX : Nat → Prop} (hr : vx_Run p l e R s m args below meth c H locs cells slots mc ms (F0 m pc ls st0) rest (va_Ql post B A1 a) (vx_X px BX AX) free) (hS : va_S A0 H0 H locs) (hA : ∀ q, q < H.size → A1 q → A0 q) (hf : ∀ q, free q → A0 q) (hAX : ∀ q, q < H.size → AX q → A0 q)
    (kx : ∀ (E : String) (ce : Cell) (q9 : Addr) (u : SX) (t : State) (H1 : Heap) (locs1 : List Loc), t.heap = H1 → s.vm.Alike t.vm → px u → BX E u t → H.size ≤ H1.size → (∀ q : Nat, q < H.size → ¬ AX q → H1[q]? = H[q]?) → va_S A0 H0 H1 locs1 → H1[q9]? = some ce → ce.vm = .none → s.vm.findClass E = some ce.cls → vx_W p l e R s m args below meth c H1 locs1 (cells + mc) (slots + ms) Q (F0 m pc ls rest) q9)
    (kk : ∀ (r : Int64) (u : S) (t : State) (H1 : Heap) (locs1 : List Loc), t.heap = H1 → s.vm.Alike t.vm → post r u → B u t → H.size ≤ H1.size → (∀ q : Nat, q < H.size → ¬ A1 q → H1[q]? = H[q]?) → va_S A0 H0 H1 locs1 → W p l e R s m args below meth c H1 locs1 (cells + mc) (slots + ms) Q (F0 m (pc + 3) ls (.long r :: rest))) : W p l e R s m args below meth c H locs cells slots Q (F0 m pc ls st0) := by
  intro T hT X
  rcases hr T hT X with ⟨v, st₀, t, T', L, h0, X', hL, e1, e2, ⟨⟨r, u, hv, hp, hb⟩, hF⟩, st⟩ | ⟨q, st₀, t, T', L, E, ce, h0, X', hL, e1, e2, ⟨u, hp, hb, hF⟩, hce, hcv, hcl, st⟩
  · cases hv
    obtain ⟨k1, k2, k3⟩ := vx_keep h0 e1 hS hA hf hL hF
    obtain ⟨t2, a1, b1⟩ := kk r u t T'.heap (locs ++ L) e1.symm (by rw [← e2]; exact X'.warmed.alike) hp hb k1 k2 k3 T' rfl X'
    exact ⟨t2, st t2 a1, b1⟩
  · obtain ⟨k1, k2, k3⟩ := vx_keep h0 e1 hS hAX hf hL hF
    obtain ⟨t2, a1, b1⟩ := kx E ce q u t T'.heap (locs ++ L) e1.symm (by rw [← e2]; exact X'.warmed.alike) hp hb k1 k2 k3 (by rw [e1]; exact hce) hcv hcl T' rfl X'
    exact ⟨t2, st.trans a1, b1⟩
theorem vx_callf {S SX : Type} {post : UInt32 → S → Prop} {px : SX → Prop} {B : S → State → Prop} {BX : String → SX → State → Prop} {AX : Nat → Prop} (hr : vx_Run p l e R s m args below meth c H locs cells slots mc ms (F0 m pc ls st0) rest (va_Qf post B A1 a) (vx_X px BX AX) free) (hS : va_S A0 H0 H locs) (hA : ∀ q, q < H.size → A1 q → A0 q) (hf : ∀ q, free q → A0 q) (hAX : ∀ q, q < H.size → AX q → A0 q)
    (kx : ∀ (E : String) (ce : Cell) (q9 : Addr) (u : SX) (t : State) (H1 : Heap) (locs1 : List Loc), t.heap = H1 → s.vm.Alike t.vm → px u → BX E u t → H.size ≤ H1.size → (∀ q : Nat, q < H.size → ¬ AX q → H1[q]? = H[q]?) → va_S A0 H0 H1 locs1 → H1[q9]? = some ce → ce.vm = .none → s.vm.findClass E = some ce.cls → vx_W p l e R s m args below meth c H1 locs1 (cells + mc) (slots + ms) Q (F0 m pc ls rest) q9)
    (kk : ∀ (r : UInt32) (u : S) (t : State) (H1 : Heap) (locs1 : List Loc), t.heap = H1 → s.vm.Alike t.vm → post r u → B u t → H.size ≤ H1.size → (∀ q : Nat, q < H.size → ¬ A1 q → H1[q]? = H[q]?) → va_S A0 H0 H1 locs1 → W p l e R s m args below meth c H1 locs1 (cells + mc) (slots + ms) Q (F0 m (pc + 3) ls (.float r :: rest))) : W p l e R s m args below meth c H locs cells slots Q (F0 m pc ls st0) := by
  intro T hT X
  rcases hr T hT X with ⟨v, st₀, t, T', L, h0, X', hL, e1, e2, ⟨⟨r, u, hv, hp, hb⟩, hF⟩, st⟩ | ⟨q, st₀, t, T', L, E, ce, h0, X', hL, e1, e2, ⟨u, hp, hb, hF⟩, hce, hcv, hcl, st⟩
  · cases hv
    obtain ⟨k1, k2, k3⟩ := vx_keep h0 e1 hS hA hf hL hF
    obtain ⟨t2, a1, b1⟩ := kk r u t T'.heap (locs ++ L) e1.symm (by rw [← e2]; exact X'.warmed.alike) hp hb k1 k2 k3 T' rfl X'
    exact ⟨t2, st t2 a1, b1⟩
  · obtain ⟨k1, k2, k3⟩ := vx_keep h0 e1 hS hAX hf hL hF
    obtain ⟨t2, a1, b1⟩ := kx E ce q u t T'.heap (locs ++ L) e1.symm (by rw [← e2]; exact X'.warmed.alike) hp hb k1 k2 k3 (by rw [e1]; exact hce) hcv hcl T' rfl X'
    exact ⟨t2, st.trans a1, b1⟩
theorem vx_calld {S SX : Type} {post : UInt64 → S → Prop} {px : SX → Prop} {B : S → State → Prop} {BX : String → SX → State → Prop} {AX : Nat → Prop} (hr : vx_Run p l e R s m args below meth c H locs cells slots mc ms (F0 m pc ls st0) rest (va_Qd post B A1 a) (vx_X px BX AX) free) (hS : va_S A0 H0 H locs) (hA : ∀ q, q < H.size → A1 q → A0 q) (hf : ∀ q, free q → A0 q) (hAX : ∀ q, q < H.size → AX q → A0 q)
    (kx : ∀ (E : String) (ce : Cell) (q9 : Addr) (u : SX) (t : State) (H1 : Heap) (locs1 : List Loc), t.heap = H1 → s.vm.Alike t.vm → px u → BX E u t → H.size ≤ H1.size → (∀ q : Nat, q < H.size → ¬ AX q → H1[q]? = H[q]?) → va_S A0 H0 H1 locs1 → H1[q9]? = some ce → ce.vm = .none → s.vm.findClass E = some ce.cls → vx_W p l e R s m args below meth c H1 locs1 (cells + mc) (slots + ms) Q (F0 m pc ls rest) q9)
    (kk : ∀ (r : UInt64) (u : S) (t : State) (H1 : Heap) (locs1 : List Loc), t.heap = H1 → s.vm.Alike t.vm → post r u → B u t → H.size ≤ H1.size → (∀ q : Nat, q < H.size → ¬ A1 q → H1[q]? = H[q]?) → va_S A0 H0 H1 locs1 → W p l e R s m args below meth c H1 locs1 (cells + mc) (slots + ms) Q (F0 m (pc + 3) ls (.double r :: rest))) : W p l e R s m args below meth c H locs cells slots Q (F0 m pc ls st0) := by
  intro T hT X
  rcases hr T hT X with ⟨v, st₀, t, T', L, h0, X', hL, e1, e2, ⟨⟨r, u, hv, hp, hb⟩, hF⟩, st⟩ | ⟨q, st₀, t, T', L, E, ce, h0, X', hL, e1, e2, ⟨u, hp, hb, hF⟩, hce, hcv, hcl, st⟩
  · cases hv
    obtain ⟨k1, k2, k3⟩ := vx_keep h0 e1 hS hA hf hL hF
    obtain ⟨t2, a1, b1⟩ := kk r u t T'.heap (locs ++ L) e1.symm (by rw [← e2]; exact X'.warmed.alike) hp hb k1 k2 k3 T' rfl X'
    exact ⟨t2, st t2 a1, b1⟩
  · obtain ⟨k1, k2, k3⟩ := vx_keep h0 e1 hS hAX hf hL hF
    obtain ⟨t2, a1, b1⟩ := kx E ce q u t T'.heap (locs ++ L) e1.symm (by rw [← e2]; exact X'.warmed.alike) hp hb k1 k2 k3 (by rw [e1]; exact hce) hcv hcl T' rfl X'
    exact ⟨t2, st.trans a1, b1⟩
theorem vx_callv {S SX : Type} {post : S → Prop} {px : SX → Prop} {B : S → State → Prop} {BX : String → SX → State → Prop} {AX : Nat → Prop} (hr : vx_Run p l e R s m args below meth c H locs cells slots mc ms (F0 m pc ls st0) rest (va_Qv post B A1 a) (vx_X px BX AX) free) (hS : va_S A0 H0 H locs) (hA : ∀ q, q < H.size → A1 q → A0 q) (hf : ∀ q, free q → A0 q) (hAX : ∀ q, q < H.size → AX q → A0 q)
    (kx : ∀ (E : String) (ce : Cell) (q9 : Addr) (u : SX) (t : State) (H1 : Heap) (locs1 : List Loc), t.heap = H1 → s.vm.Alike t.vm → px u → BX E u t → H.size ≤ H1.size → (∀ q : Nat, q < H.size → ¬ AX q → H1[q]? = H[q]?) → va_S A0 H0 H1 locs1 → H1[q9]? = some ce → ce.vm = .none → s.vm.findClass E = some ce.cls → vx_W p l e R s m args below meth c H1 locs1 (cells + mc) (slots + ms) Q (F0 m pc ls rest) q9)
    (kk : ∀ (u : S) (t : State) (H1 : Heap) (locs1 : List Loc), t.heap = H1 → s.vm.Alike t.vm → post u → B u t → H.size ≤ H1.size → (∀ q : Nat, q < H.size → ¬ A1 q → H1[q]? = H[q]?) → va_S A0 H0 H1 locs1 → W p l e R s m args below meth c H1 locs1 (cells + mc) (slots + ms) Q (F0 m (pc + 3) ls (rest))) : W p l e R s m args below meth c H locs cells slots Q (F0 m pc ls st0) := by
  intro T hT X
  rcases hr T hT X with ⟨v, st₀, t, T', L, h0, X', hL, e1, e2, ⟨⟨u, hv, hp, hb⟩, hF⟩, st⟩ | ⟨q, st₀, t, T', L, E, ce, h0, X', hL, e1, e2, ⟨u, hp, hb, hF⟩, hce, hcv, hcl, st⟩
  · cases hv
    obtain ⟨k1, k2, k3⟩ := vx_keep h0 e1 hS hA hf hL hF
    obtain ⟨t2, a1, b1⟩ := kk u t T'.heap (locs ++ L) e1.symm (by rw [← e2]; exact X'.warmed.alike) hp hb k1 k2 k3 T' rfl X'
    exact ⟨t2, st t2 a1, b1⟩
  · obtain ⟨k1, k2, k3⟩ := vx_keep h0 e1 hS hAX hf hL hF
    obtain ⟨t2, a1, b1⟩ := kx E ce q u t T'.heap (locs ++ L) e1.symm (by rw [← e2]; exact X'.warmed.alike) hp hb k1 k2 k3 (by rw [e1]; exact hce) hcv hcl T' rfl X'
    exact ⟨t2, st.trans a1, b1⟩
/-- caught by the row x of this method's table; the rows ahead don't take it -/
theorem vx_catch {own name : String} {E : String} {ce : Cell} {q : Addr} (hown : s.vm.findClass own = some m.cls) (pre : List ExceptionTableEntry) (x : ExceptionTableEntry) (suf : List ExceptionTableEntry) (hsplit : c.exceptionTable.toList = pre ++ x :: suf)
    (hpass : ∀ z ∈ pre, covers z pc = false ∨ (z.catchType ≠ 0 ∧ ∃ nm : String, (Cond.classLink own z.catchType nm).before args s = true ∧ va_Nc E nm s)) (hx : covers x pc = true) (h0 : x.catchType ≠ 0)
    (hlink : (Cond.classLink own x.catchType name).before args s = true) (hcast : (Cond.castable E name).before args s = true) (hcell : H[q]? = some ce) (hv : ce.vm = .none) (hcl : s.vm.findClass E = some ce.cls)
    (kk : W p l e R s m args below meth c H locs cells slots Q (F0 m x.handlerPc ls [.ref q])) : vx_W p l e R s m args below meth c H locs cells slots Q (F0 m pc ls rest) q := by
  intro T hT X
  have hpl : e.platform.magicAccessors = ({} : Platform).magicAccessors := by rw [X.admits.platform]
  obtain ⟨c3, c4, hc3, hc4, hasg⟩ := Cond.castable_spec hcast
  cases Option.some.inj (hc3.symm.trans hcl)
  obtain ⟨c5, hc5, hcl5⟩ := Cond.classLink_spec hown hlink e.platform hpl
  cases Option.some.inj (hc4.symm.trans hc5)
  obtain ⟨vm', X', st⟩ := X.thenCaughtThrough q (g := F0 m pc ls rest) rfl (Steps.refl _) (by rw [hT]; exact hcell) (by rw [hv]; rfl) (by obtain ⟨k9, h9, -⟩ := Vm.findClass_spec hcl; exact ⟨k9, h9⟩) pre x suf hsplit
    (fun z hz => by
      rcases hpass z hz with h | ⟨hz0, nm, hl1, hn1⟩
      · exact Or.inl h
      · obtain ⟨c6, hc6, hcl6⟩ := Cond.classLink_spec hown hl1 e.platform hpl
        obtain ⟨a8, b8, h1, h2, h3⟩ := hn1
        cases Option.some.inj (h1.symm.trans hcl)
        cases Option.some.inj (h2.symm.trans hc6)
        exact Or.inr ⟨hz0, _, hcl6, h3⟩) hx (Or.inr ⟨h0, c4, hcl5, hasg⟩)
  obtain ⟨t, a1, b1⟩ := kk (T.setVm vm') hT X'
  exact ⟨t, st.trans a1, b1⟩
end Rows
section Ends
variable {p : Program} {l : Launch} {e : Env} {R : Room} {s : State} {m : MethodId} {args : Array Value} {below : List Frame} {meth : Method} {c : Code} {H : Heap} {locs : List Loc} {cells slots : Nat} {Q : State → Prop}
variable {mc ms : Nat} {free : Addr → Prop} {A0 A1 : Nat → Prop} {H0 : Heap} {a : Array Value} {ls : Array Slot} {st0 rest : List Value}
variable {Qc : Array Value → State → Outcome → State → Prop} {XC : String → State → State → Prop}
/-- what a body that may throw owes at its end -/
def vx_MQ (below : List Frame) (Qc : Array Value → State → Outcome → State → Prop) (XC : String → State → State → Prop) (a : Array Value) (s : State) (mc ms : Nat) (free : Addr → Prop) : State → Prop := fun t =>
  ∃ o, t.status = .running ∧ Ended t below o ∧ vx_Q Qc XC mc ms free a s o t
theorem vx_ret {g : JFrame} {mc ms : Nat} (k : W p l e R s m args below meth c H locs cells slots (MQ below Qc args s mc ms free) g) : W p l e R s m args below meth c H locs cells slots (vx_MQ below Qc XC args s mc ms free) g := by
  intro T hT X
  obtain ⟨t, a1, o, b1, b2, b3, b4⟩ := k T hT X
  exact ⟨t, a1, o, b1, b2, Or.inl ⟨b3, b4⟩⟩
/-- not caught here: it goes on to the caller -/
theorem vx_widen {g : JFrame} {q : Addr} {k n : Nat} (h1 : cells ≤ k) (h2 : slots ≤ n) (kk : vx_W p l e R s m args below meth c H locs k n Q g q) : vx_W p l e R s m args below meth c H locs cells slots Q g q := fun T hT X => kk T hT (stand_widen X h1 h2)
theorem vx_out {pc : Nat} {E : String} {ce : Cell} {q : Addr} {mc ms : Nat} (hout : ∀ x ∈ c.exceptionTable.toList, covers x pc = false) (hlocks : meth.locks = false) (hcell : H[q]? = some ce) (hv : ce.vm = .none) (hcl : s.vm.findClass E = some ce.cls)
    (hx : ∀ t : State, t.heap = H → s.vm.Alike t.vm → XC E s t) (hf : ∀ z ∈ locs, free z.base) (hc : cells ≤ mc) (hs : slots ≤ ms) :
    vx_W p l e R s m args below meth c H locs cells slots (vx_MQ below Qc XC args s mc ms free) (F0 m pc ls rest) q := by
  intro T hT X
  obtain ⟨st1, hrun, hend, hW, hsm⟩ := X.leaveThrown q (g := F0 m pc ls rest) rfl rfl rfl hout hlocks
  have hcell9 : (T.setFrames (.throwing q :: below)).heap[q]? = some ce := by
    show T.heap[q]? = some ce
    rw [hT]; exact hcell
  exact ⟨_, st1, .threw q, hrun, hend, Or.inr ⟨q, rfl, E, ce, locs, hx _ hT hW.alike, hcell9, hv, hcl, hW, hsm.mono hc hs, hf⟩⟩
theorem vx_frame {U : State} {k n : Nat} (h : s.sameButNew ({ U with vm := s.vm } : State) locs k n) : s.heap.size ≤ U.heap.size ∧ ∀ q : Nat, q < s.heap.size → (∀ z ∈ locs, z.base ≠ q) → U.heap[q]? = s.heap[q]? := by
  obtain ⟨-, h2, -, -, -, h6⟩ := h
  refine ⟨h2, fun q hq hz => ?_⟩
  obtain ⟨c9, e1, e2, e3, e4⟩ := h6 q _ (Array.getElem?_eq_getElem hq)
  have hs : c9.slots = (s.heap[q]).slots := Array.ext_getElem? fun i => e4 i fun hm => hz _ hm rfl
  have h9 : c9 = s.heap[q] := by
    rw [hs] at e2
    exact e2
  have e5 : U.heap[q]? = some c9 := e1
  rw [e5, h9, Array.getElem?_eq_getElem hq]
/-- the words of a throw but the four that speak of the heap -/
def vx_no (w : Cond) : Bool := decide (w ≠ .isRef (.static Bundle.tN "UNASSIGNED_STACK" Bundle.steD)) && decide (w ≠ .isRef (.static Bundle.tN "SUPPRESSED_SENTINEL" Bundle.listD)) && decide (w ≠ .laysStatic Bundle.tN "UNASSIGNED_STACK" Bundle.steD) && decide (w ≠ .laysStatic Bundle.tN "SUPPRESSED_SENTINEL" Bundle.listD)
def vx_at0 (own : String) (ic : Nat) (X : String) (names : List String) : List Cond := (Bundle.ownAtoms0 own ic X names).filter vx_no
def vx_atS (own : String) (ic : Nat) (X : String) (names : List String) : List Cond := (Bundle.ownAtoms own ic X names).filter vx_no
/-- a word that the tables alone decide, or a good one -/
def vx_ot (w : Cond) : Bool := w.onTables || goodWord w
theorem vx_ot_at {args a' : Array Value} {s U : State} {w : Cond} (hW : s.WarmedH U.vm) (hvm : s.vm = U.vm) (hg : vx_ot w = true) (h : w.before args s = true) : w.before a' U = true := by
  simp only [vx_ot, Bool.or_eq_true] at hg
  rcases hg with hg | hg
  · exact va_tabs hg hvm h
  · exact word_at hW (good_of_word hg) h
/-- a list's words: the good ones out of the method's own list, the others by premises of their own -/
theorem vx_hat {args : Array Value} {s : State} {L B : List Cond} (h1 : ∀ w ∈ L.filter goodWord, w.before args s = true) (h2 : ∀ w ∈ L.filter (fun w => !goodWord w), w ∈ B) (h3 : ∀ w ∈ B, w.before args s = true) : ∀ w ∈ L, w.before args s = true := by
  intro w hw
  by_cases g : goodWord w = true
  · exact h1 w (List.mem_filter.mpr ⟨hw, g⟩)
  · refine h3 w (h2 w (List.mem_filter.mpr ⟨hw, ?_⟩))
    show (!goodWord w) = true
    cases hgw : goodWord w
    · rfl
    · exact absurd hgw g
theorem vx_c {args : Array Value} {s : State} {w : Cond} {B : List Cond} (h : w.before args s = true) (t : ∀ w ∈ B, w.before args s = true) : ∀ w' ∈ w :: B, w'.before args s = true := fun w' h' => (List.mem_cons.mp h').elim (fun e => by rw [e]; exact h) (t w')
theorem vx_n {args : Array Value} {s : State} : ∀ w ∈ ([] : List Cond), w.before args s = true := fun _ h => nomatch h
theorem vx_own {args : Array Value} {s : State} {L : List Cond} (h1 : ∀ w ∈ L.filter vx_no, w.before args s = true)
    (hU : (Cond.isRef (.static Bundle.tN "UNASSIGNED_STACK" Bundle.steD)).before args s = true) (hN : (Cond.isRef (.static Bundle.tN "SUPPRESSED_SENTINEL" Bundle.listD)).before args s = true)
    (lU : (Cond.laysStatic Bundle.tN "UNASSIGNED_STACK" Bundle.steD).before args s = true) (lN : (Cond.laysStatic Bundle.tN "SUPPRESSED_SENTINEL" Bundle.listD).before args s = true) : ∀ w ∈ L, w.before args s = true := by
  intro w hw
  by_cases e1 : w = .isRef (.static Bundle.tN "UNASSIGNED_STACK" Bundle.steD)
  · rw [e1]; exact hU
  · by_cases e2 : w = .isRef (.static Bundle.tN "SUPPRESSED_SENTINEL" Bundle.listD)
    · rw [e2]; exact hN
    · by_cases e3 : w = .laysStatic Bundle.tN "UNASSIGNED_STACK" Bundle.steD
      · rw [e3]; exact lU
      · by_cases e4 : w = .laysStatic Bundle.tN "SUPPRESSED_SENTINEL" Bundle.listD
        · rw [e4]; exact lN
        · exact h1 w (List.mem_filter.mpr ⟨hw, by unfold vx_no; rw [decide_eq_true e1, decide_eq_true e2, decide_eq_true e3, decide_eq_true e4]; rfl⟩)
/-- where a static field lies, its class's statics cell in H -/
def vx_L (C n d : String) (A : Nat → Prop) (U : State) (H : Heap) : Prop := ∃ (c : ClassId) (k : Class) (i : Nat) (f : Field) (a : Nat) (cell : Cell), U.vm.findClass C = some c ∧ U.fieldFound? C n d = some (c, k, i, f) ∧ f.isStatic = true ∧ k.statics = some a ∧ H[a]? = some cell ∧ cell.vm.isStatics = true ∧ cell.cls = c ∧ f.slot < cell.slots.size ∧ k.staticTypes[f.slot]? = some f.type ∧ ¬ A a
theorem vx_L.moved {C n d : String} {A : Nat → Prop} {u U : State} {H : Heap} (hvm : u.vm.Alike U.vm) (h : vx_L C n d A u H) : vx_L C n d A U H := by
  obtain ⟨c, k, i, f, a, cell, h1, h2, h3, h4, h5, h6, h7, h8, h9, h10⟩ := h
  obtain ⟨k', hi', he⟩ := State.fieldFound?_setVm hvm h2
  exact ⟨c, k', i, f, a, cell, by rw [hvm.findClass]; exact h1, hi', h3, by rw [he]; exact h4, h5, h6, h7, h8, by rw [he]; exact h9, h10⟩
theorem vx_L.kept {C n d : String} {A : Nat → Prop} {U : State} {H H1 : Heap} (h : vx_L C n d A U H) (hq : ∀ a : Nat, a < H.size → ¬ A a → H1[a]? = H[a]?) : vx_L C n d A U H1 := by
  obtain ⟨c, k, i, f, a, cell, h1, h2, h3, h4, h5, h6, h7, h8, h9, h10⟩ := h
  exact ⟨c, k, i, f, a, cell, h1, h2, h3, h4, by rw [hq a (Array.getElem?_eq_some_iff.mp h5).1 h10]; exact h5, h6, h7, h8, h9, h10⟩
theorem vx_L.narrow {C n d : String} {A B : Nat → Prop} {U : State} {H : Heap} (h : vx_L C n d A U H) (hAB : ∀ q, B q → A q) : vx_L C n d B U H := by
  obtain ⟨c, k, i, f, a, cell, h1, h2, h3, h4, h5, h6, h7, h8, h9, h10⟩ := h
  exact ⟨c, k, i, f, a, cell, h1, h2, h3, h4, h5, h6, h7, h8, h9, fun z => h10 (hAB _ z)⟩
theorem vx_L.word {C n d : String} {A : Nat → Prop} {s : State} {args : Array Value} (h : vx_L C n d A s s.heap) : (Cond.laysStatic C n d).before args s = true := by
  obtain ⟨c, k, i, f, a, cell, h1, h2, h3, h4, h5, h6, h7, h8, h9, -⟩ := h
  show (Cond.laysStatic C n d).holds args s none s [] = true
  exact Cond.laysStatic_of h1 h2 h3 h4 h5 h6 h7 h8 h9
/-- .. and what it holds: null or some reference -/
def vx_Zq (C n d : String) (A : Nat → Prop) (U : State) (H : Heap) : Prop := va_Zq C n d A U H ∧ vx_L C n d A U H
theorem vx_Zq.moved {C n d : String} {A : Nat → Prop} {u U : State} {H : Heap} (hvm : u.vm.Alike U.vm) (h : vx_Zq C n d A u H) : vx_Zq C n d A U H := ⟨va_Zq.moved hvm h.1, vx_L.moved hvm h.2⟩
theorem vx_Zq.kept {C n d : String} {A : Nat → Prop} {U : State} {H H1 : Heap} (h : vx_Zq C n d A U H) (hq : ∀ a : Nat, a < H.size → ¬ A a → H1[a]? = H[a]?) : vx_Zq C n d A U H1 := ⟨va_Zq.kept h.1 hq, vx_L.kept h.2 hq⟩
theorem vx_Zq.narrow {C n d : String} {A B : Nat → Prop} {U : State} {H : Heap} (h : vx_Zq C n d A U H) (hAB : ∀ q, B q → A q) : vx_Zq C n d B U H := ⟨va_Zq.narrow h.1 hAB, vx_L.narrow h.2 hAB⟩
theorem vx_Zqof {args : Array Value} {s : State} {C n d : String} {A : Nat → Prop} (hl : (Cond.laysStatic C n d).before args s = true) (hini : (Cond.initialized C).before args s = true) (h : (Cond.isRef (.static C n d)).before args s = true) (hA : ∀ a : Nat, a < s.heap.size → ¬ A a) : vx_Zq C n d A s s.heap := by
  refine ⟨va_Zqof hl hini h hA, ?_⟩
  obtain ⟨c, k, i, f, a, cell, h1, h2, h3, h4, h5, h6, h7, h8, h9⟩ := Cond.laysStatic_spec hl
  exact ⟨c, k, i, f, a, cell, h1, h2, h3, h4, h5, h6, h7, h8, h9, hA a (Array.getElem?_eq_some_iff.mp h5).1⟩
theorem vx_isRef {C n d : String} {v : Value} {A : Nat → Prop} {s : State} {args : Array Value} (h : va_Z C n d v A s s.heap) (hv : v.isRef = true) : (Cond.isRef (.static C n d)).before args s = true := by
  obtain ⟨cf, kf, fi, f, a, cell, h1, h2, h3, h4, h5, h6, h7, -⟩ := h
  have he : (Term.static C n d).eval args s none [] s = some v := by
    simp [Term.eval, State.fieldNamed?, h1, h2, h4, h5, h6, h7]
  simp only [Cond.before, Cond.holds, Cond.value, he]
  cases v <;> simp_all [Value.isRef]
theorem vx_isRefq {C n d : String} {A : Nat → Prop} {s : State} {args : Array Value} (h : va_Zq C n d A s s.heap) : (Cond.isRef (.static C n d)).before args s = true := by
  rcases h with h | ⟨t, h⟩
  · exact vx_isRef h rfl
  · exact vx_isRef h rfl
/-- the same frame, seen from here: as if the method were called anew in this heap -/
theorem vx_rebase {T : State} (X : Stand p l e R s m args below meth c T locs cells slots) {R' : Room} (hf : R'.frames ≤ R.frames) (hl : R'.locals ≤ R.locals) (hc : cells + R'.cells ≤ R.cells) (hs : slots + R'.slots ≤ R.slots) :
    Stand p l e R' ((T.setVm s.vm).setFrames (.invoking m args :: below)) m args below meth c T [] 0 0 := by
  have htop : (T.setVm s.vm).topJava?.isSome := X.here.top
  have hF : ((T.setVm s.vm).setFrames (.invoking m args :: below)).frames = .invoking m args :: below := State.frames_setFrames _ (State.cur_lt_of_top htop)
  obtain ⟨g₀, hg0⟩ := Option.isSome_iff_exists.mp htop
  obtain ⟨r, hr⟩ := State.topJava?_eq_some.mp hg0
  have hl9 : e.platform.stackLimits (T.setVm s.vm).me = e.platform.stackLimits s.me := X.limits
  have hb9 : (T.setVm s.vm).me.stackBytes = s.me.stackBytes := X.bytes
  refine ⟨X.admits, X.cas, X.clock, hF, ?_, X.hears, X.method, X.code, X.here, X.tail, X.warmed, ?_, ?_, ?_⟩
  · have h := X.room
    have hU : ((T.setVm s.vm).setFrames (.invoking m args :: below)).localsInUse = s.localsInUse := by
      rw [State.localsInUse_invoking hF (meth := meth) (c := c) X.method X.code, State.localsInUse_invoking X.frames X.method X.code]
    simp only [State.hasRoom, Bool.and_eq_true, decide_eq_true_eq] at h ⊢
    obtain ⟨⟨⟨⟨h1, h2, h3, h4, h5, h6⟩, h7⟩, h8⟩, h9⟩ := h
    rw [X.frames, List.length_cons] at h2 h3
    have q1 := X.heapSize
    have q2 := X.used
    simp only [hF, hU, List.length_cons, State.stackLimits_setFrames, State.stackBytes_setFrames, hl9, hb9]
    refine ⟨⟨⟨⟨by omega, by omega, by omega, by omega, by omega, h6⟩, ?_⟩, ?_⟩, X.book⟩
    · show T.heap.size + R'.cells ≤ e.platform.maxCells
      omega
    · show T.slotsUsed + R'.slots ≤ e.platform.maxSlots
      omega
  · rw [State.stackLimits_setFrames]; rfl
  · rw [State.stackBytes_setFrames]; rfl
  · refine ⟨?_, Nat.le_refl _, Nat.le_refl _, ?_, ?_, fun a c9 h9 => ⟨c9, h9, rfl, rfl, fun _ _ => rfl⟩⟩
    · obtain ⟨t, ht, -⟩ := State.frames_cons hr
      show T.setVm s.vm = { ((T.setVm s.vm).setFrames (.invoking m args :: below)).setFrames (T.setVm s.vm).frames with heap := T.heap, slotsUsed := T.slotsUsed }
      rw [State.setFrames_setFrames, State.setFrames_self ht]
      rfl
    · show T.slotsUsed = T.slotsUsed + ((T.heap.toList.drop T.heap.size).map (·.slots.size)).sum
      rw [List.drop_eq_nil_of_le (Nat.le_of_eq Array.length_toList)]
      rfl
    · show ((T.heap.toList.drop T.heap.size).map (·.slots.size)).sum ≤ 0
      rw [List.drop_eq_nil_of_le (Nat.le_of_eq Array.length_toList)]
      exact Nat.le_refl _
/-- 'throw new E()': new; dup; invokespecial; athrow -/
theorem vx_throw0 {cc : ByteArray} {pc : Nat} (hexec : p.tables.exec = Jvm.exec) (hb : c.code = cc) (hl : l.stackTraces = false) {own cls : String} {names : List String} {ik ic mc ms : Nat} {A : Nat → Prop}
    (hown : s.vm.findClass own = some m.cls) (hcls : Bundle.fit cls = true) (hnames : ∀ n ∈ names, Bundle.fit n = true)
    (hk : (Cond.classLink own ik cls).before args s = true) (hini : (Cond.initialized cls).before args s = true) (hat : ∀ w ∈ vx_at0 own ic cls names, w.before args s = true)
    (hgood : ∀ w ∈ Cond.classLink own ik cls :: Cond.initialized cls :: vx_at0 own ic cls names, vx_ot w = true)
    (hU : vx_Zq Bundle.tN "UNASSIGNED_STACK" Bundle.steD A s s.heap) (hN : vx_Zq Bundle.tN "SUPPRESSED_SENTINEL" Bundle.listD A s s.heap) (hS : va_S A s.heap H locs) (hsize : ls.size = c.maxLocals)
    (d0 : decode cc pc = .ok (.new ik, 3)) (d3 : decode cc (pc + 3) = .ok (.dup, 1)) (d4 : decode cc (pc + 4) = .ok (.invokespecial ic, 3)) (d7 : decode cc (pc + 7) = .ok (.athrow, 1))
    (hout : ∀ x ∈ c.exceptionTable.toList, covers x (pc + 7) = false)
    (hRframes : names.length + 3 < R.frames) (hRlocals : (rest.map fun v => v.category).sum + (13 * (names.length + 1) + 42) ≤ R.locals) (hRcells : cells + 1 ≤ R.cells) (hRslots : slots + 6 ≤ R.slots) (hlocks : meth.locks = false)
    (hx : ∀ t : State, s.vm.Alike t.vm → H.size ≤ t.heap.size → (∀ q : Nat, q < H.size → t.heap[q]? = H[q]?) → XC cls s t)
    (hf : ∀ z ∈ locs, free z.base) (hc : cells + 1 ≤ mc) (hs : slots + 6 ≤ ms) :
    W p l e R s m args below meth c H locs cells slots (vx_MQ below Qc XC args s mc ms free) (F0 m pc ls rest) := by
  intro T hT X
  have htr : e.platform.stackTraces = false := (show e.platform.stackTraces = l.stackTraces by rw [X.admits.platform]).trans hl
  have Y := vx_rebase X (R' := { frames := R.frames, locals := R.locals, cells := 1, slots := 6 }) (Nat.le_refl _) (Nat.le_refl _) hRcells hRslots
  obtain ⟨s', hA⟩ : ∃ z, z = (T.setVm s.vm).setFrames (.invoking m args :: below) := ⟨_, rfl⟩
  rw [← hA] at Y
  have hvm : s'.vm = s.vm := by rw [hA]; rfl
  have hhp : s'.heap = H := by rw [hA]; exact hT
  have hW0 : s.WarmedH s'.vm := by rw [hvm]; exact State.WarmedH.refl s
  have hat' : ∀ w ∈ vx_at0 own ic cls names, w.before args s' = true := fun w hw => vx_ot_at hW0 hvm.symm (hgood w (List.mem_cons_of_mem _ (List.mem_cons_of_mem _ hw))) (hat w hw)
  have hk' : (Cond.classLink own ik cls).before args s' = true := vx_ot_at hW0 hvm.symm (hgood _ List.mem_cons_self) hk
  have hini' : (Cond.initialized cls).before args s' = true := vx_ot_at hW0 hvm.symm (hgood _ (List.mem_cons_of_mem _ List.mem_cons_self)) hini
  have hU' : vx_Zq Bundle.tN "UNASSIGNED_STACK" Bundle.steD A s' s'.heap := by rw [hhp]; exact vx_Zq.moved hW0.alike (hU.kept hS.2.1)
  have hN' : vx_Zq Bundle.tN "SUPPRESSED_SENTINEL" Bundle.listD A s' s'.heap := by rw [hhp]; exact vx_Zq.moved hW0.alike (hN.kept hS.2.1)
  have h : ∀ w ∈ Bundle.ownAtoms0 own ic cls names, w.before args s' = true := vx_own hat' (vx_isRefq hU'.1) (vx_isRefq hN'.1) hU'.2.word hN'.2.word
  have hown' : s'.vm.findClass own = some m.cls := by rw [hvm]; exact hown
  have hins : (Cond.instantiable cls 6).before args s' = true := h _ (by simp [Bundle.ownAtoms0])
  obtain ⟨vm₁, cX, kX, hfX, hkX, -, -, X₁, st1⟩ := Y.newCold hexec (own := own) (C := cls) (index := ik) (n := 6) hown' hk' hins hini'
    (g := F0 m pc ls rest) rfl (by rw [hb]; exact d0) (Nat.le_refl _) (Nat.le_refl _)
  generalize hT1 : (T.setVm vm₁).pushCell { cls := cX, slots := kX.instanceTypes.map defaultValue, vm := .none } = T1 at X₁ st1
  have hcat : (Value.ref T.heap.size).category = 1 := rfl
  have hcellA : T1.heap[T.heap.size]? = some (freshCell cX kX) := by rw [← hT1]; exact State.heap_pushCell_size _ _
  have d3' : decode c.code (pc + 3) = .ok (.dup, 1) := by rw [hb]; exact d3
  obtain ⟨U, hsteps, hrun, hend, hW, hsame, ce, hce, hO⟩ := X₁.ctorThrow0 hexec htr (own := own) (cls := cls) (names := names) (ic := ic) hown' hcls hnames h (fun x hx => nomatch hx) hfX hkX hcellA (by rw [hhp, hT]; exact Nat.le_refl _)
    (g := { method := m, pc := pc + 4, locals := ls, stack := .ref T.heap.size :: .ref T.heap.size :: rest, locked := none }) rfl hsize rfl rfl (rest := rest) rfl
    (by rw [hb]; exact d4) (by rw [hb]; exact d7) hout hRframes (by simp only [List.map_cons, List.sum_cons, hcat]; omega) hlocks
  obtain ⟨f1, f2⟩ := vx_frame hsame
  rw [hhp] at f1 f2
  have hWs : s.WarmedH U.vm := State.WarmedH.trans hW0 hW
  have hcl : s.vm.findClass cls = some ce.cls := by
    have h9 := hO.cls
    rw [hvm] at h9
    exact h9
  have hall : s.sameButNew ({ U with vm := s.vm } : State) locs mc ms := by
    subst hA
    obtain ⟨e1, e2⟩ := hsame
    rw [State.setFrames_setFrames] at e1
    have h2 : (T.setVm s.vm).sameButNew ({ U with vm := s.vm } : State) [] (0 + 1) (0 + 6) := ⟨e1, e2⟩
    have h3 := X.same.trans h2
    rw [List.append_nil] at h3
    exact h3.mono hc hs
  refine ⟨U, ?_, .threw T.heap.size, hrun, hend, Or.inr ⟨T.heap.size, rfl, cls, ce, locs, hx U hWs.alike f1 (fun q hq => f2 q hq (fun z hz => nomatch hz)), hce, hO.vm, hcl, hWs, hall, hf⟩⟩
  refine st1 _ ?_
  show Steps p.tables e below (T1.setTop { method := m, pc := pc + 3, locals := ls, stack := .ref T.heap.size :: rest, locked := none }) _
  jvm_step X₁.here [X₁.here.top, hexec, d3', Value.category]
  exact hsteps
/-- 'throw new E("text")': new; dup; ldc; invokespecial; athrow -/
theorem vx_throwS {cc : ByteArray} {pc : Nat} (hexec : p.tables.exec = Jvm.exec) (hb : c.code = cc) (hl : l.stackTraces = false) {own cls text : String} {names : List String} {ik is ic mc ms sa : Nat} {A : Nat → Prop}
    (hown : s.vm.findClass own = some m.cls) (hcls : Bundle.fit cls = true) (hnames : ∀ n ∈ names, Bundle.fit n = true)
    (hk : (Cond.classLink own ik cls).before args s = true) (hini : (Cond.initialized cls).before args s = true) (hstr : vk_R own is text sa s) (hat : ∀ w ∈ vx_atS own ic cls names, w.before args s = true)
    (hgood : ∀ w ∈ Cond.classLink own ik cls :: Cond.initialized cls :: vx_atS own ic cls names, vx_ot w = true)
    (hU : vx_Zq Bundle.tN "UNASSIGNED_STACK" Bundle.steD A s s.heap) (hN : vx_Zq Bundle.tN "SUPPRESSED_SENTINEL" Bundle.listD A s s.heap) (hS : va_S A s.heap H locs) (hsize : ls.size = c.maxLocals)
    (d0 : decode cc pc = .ok (.new ik, 3)) (d3 : decode cc (pc + 3) = .ok (.dup, 1)) (d4 : decode cc (pc + 4) = .ok (.ldc is, 2)) (d6 : decode cc (pc + 6) = .ok (.invokespecial ic, 3)) (d9 : decode cc (pc + 9) = .ok (.athrow, 1))
    (hout : ∀ x ∈ c.exceptionTable.toList, covers x (pc + 9) = false)
    (hRframes : names.length + 3 < R.frames) (hRlocals : (rest.map fun v => v.category).sum + (13 * (names.length + 1) + 43) ≤ R.locals) (hRcells : cells + 1 ≤ R.cells) (hRslots : slots + 6 ≤ R.slots) (hlocks : meth.locks = false)
    (hx : ∀ t : State, s.vm.Alike t.vm → H.size ≤ t.heap.size → (∀ q : Nat, q < H.size → t.heap[q]? = H[q]?) → XC cls s t)
    (hf : ∀ z ∈ locs, free z.base) (hc : cells + 1 ≤ mc) (hs : slots + 6 ≤ ms) :
    W p l e R s m args below meth c H locs cells slots (vx_MQ below Qc XC args s mc ms free) (F0 m pc ls rest) := by
  intro T hT X
  have htr : e.platform.stackTraces = false := (show e.platform.stackTraces = l.stackTraces by rw [X.admits.platform]).trans hl
  have Y := vx_rebase X (R' := { frames := R.frames, locals := R.locals, cells := 1, slots := 6 }) (Nat.le_refl _) (Nat.le_refl _) hRcells hRslots
  obtain ⟨s', hA⟩ : ∃ z, z = (T.setVm s.vm).setFrames (.invoking m args :: below) := ⟨_, rfl⟩
  rw [← hA] at Y
  have hvm : s'.vm = s.vm := by rw [hA]; rfl
  have hhp : s'.heap = H := by rw [hA]; exact hT
  have hW0 : s.WarmedH s'.vm := by rw [hvm]; exact State.WarmedH.refl s
  have hat' : ∀ w ∈ vx_atS own ic cls names, w.before args s' = true := fun w hw => vx_ot_at hW0 hvm.symm (hgood w (List.mem_cons_of_mem _ (List.mem_cons_of_mem _ hw))) (hat w hw)
  have hk' : (Cond.classLink own ik cls).before args s' = true := vx_ot_at hW0 hvm.symm (hgood _ List.mem_cons_self) hk
  have hini' : (Cond.initialized cls).before args s' = true := vx_ot_at hW0 hvm.symm (hgood _ (List.mem_cons_of_mem _ List.mem_cons_self)) hini
  have hU' : vx_Zq Bundle.tN "UNASSIGNED_STACK" Bundle.steD A s' s'.heap := by rw [hhp]; exact vx_Zq.moved hW0.alike (hU.kept hS.2.1)
  have hN' : vx_Zq Bundle.tN "SUPPRESSED_SENTINEL" Bundle.listD A s' s'.heap := by rw [hhp]; exact vx_Zq.moved hW0.alike (hN.kept hS.2.1)
  have h : ∀ w ∈ Bundle.ownAtoms own ic cls names, w.before args s' = true := vx_own hat' (vx_isRefq hU'.1) (vx_isRefq hN'.1) hU'.2.word hN'.2.word
  have hown' : s'.vm.findClass own = some m.cls := by rw [hvm]; exact hown
  have hins : (Cond.instantiable cls 6).before args s' = true := h _ (by simp [Bundle.ownAtoms])
  obtain ⟨vm₁, cX, kX, hfX, hkX, -, -, X₁, st1⟩ := Y.newCold hexec (own := own) (C := cls) (index := ik) (n := 6) hown' hk' hins hini'
    (g := F0 m pc ls rest) rfl (by rw [hb]; exact d0) (Nat.le_refl _) (Nat.le_refl _)
  generalize hT1 : (T.setVm vm₁).pushCell { cls := cX, slots := kX.instanceTypes.map defaultValue, vm := .none } = T1 at X₁ st1
  have hcat : (Value.ref T.heap.size).category = 1 := rfl
  have hcellA : T1.heap[T.heap.size]? = some (freshCell cX kX) := by rw [← hT1]; exact State.heap_pushCell_size _ _
  have d3' : decode c.code (pc + 3) = .ok (.dup, 1) := by rw [hb]; exact d3
  have d4' : decode c.code (pc + 4) = .ok (.ldc is, 2) := by rw [hb]; exact d4
  have hstr' : vk_R own is text sa s' := vk_R.warm hW0 hstr
  obtain ⟨U, hsteps, hrun, hend, hW, hsame, ce, hce, hO⟩ := X₁.ctorThrowS hexec htr (own := own) (cls := cls) (names := names) (ic := ic) hown' hcls hnames h (fun x hx => nomatch hx) hfX hkX hcellA (by rw [hhp, hT]; exact Nat.le_refl _) (msg := .ref sa) rfl
    (g := { method := m, pc := pc + 6, locals := ls, stack := .ref sa :: .ref T.heap.size :: .ref T.heap.size :: rest, locked := none }) rfl hsize rfl rfl (rest := rest) rfl
    (by rw [hb]; exact d6) (by rw [hb]; exact d9) hout hRframes (by simp only [List.map_cons, List.sum_cons, hcat]; omega) hlocks
  obtain ⟨f1, f2⟩ := vx_frame hsame
  rw [hhp] at f1 f2
  have hWs : s.WarmedH U.vm := State.WarmedH.trans hW0 hW
  have hcl : s.vm.findClass cls = some ce.cls := by
    have h9 := hO.cls
    rw [hvm] at h9
    exact h9
  have hall : s.sameButNew ({ U with vm := s.vm } : State) locs mc ms := by
    subst hA
    obtain ⟨e1, e2⟩ := hsame
    rw [State.setFrames_setFrames] at e1
    have h2 : (T.setVm s.vm).sameButNew ({ U with vm := s.vm } : State) [] (0 + 1) (0 + 6) := ⟨e1, e2⟩
    have h3 := X.same.trans h2
    rw [List.append_nil] at h3
    exact h3.mono hc hs
  refine ⟨U, ?_, .threw T.heap.size, hrun, hend, Or.inr ⟨T.heap.size, rfl, cls, ce, locs, hx U hWs.alike f1 (fun q hq => f2 q hq (fun z hz => nomatch hz)), hce, hO.vm, hcl, hWs, hall, hf⟩⟩
  refine st1 _ ?_
  show Steps p.tables e below (T1.setTop { method := m, pc := pc + 3, locals := ls, stack := .ref T.heap.size :: rest, locked := none }) _
  jvm_step X₁.here [X₁.here.top, hexec, d3', Value.category]
  exact X₁.ldcString hexec (own := own) (text := text) (index := is) (a := sa) hown' hstr'.1 hstr'.2
    (g := { method := m, pc := pc + 4, locals := ls, stack := .ref T.heap.size :: .ref T.heap.size :: rest, locked := none }) rfl d4' _ hsteps
/-- 'throw new E("text")', the text by a wide index -/
theorem vx_throwSW {cc : ByteArray} {pc : Nat} (hexec : p.tables.exec = Jvm.exec) (hb : c.code = cc) (hl : l.stackTraces = false) {own cls text : String} {names : List String} {ik is ic mc ms sa : Nat} {A : Nat → Prop}
    (hown : s.vm.findClass own = some m.cls) (hcls : Bundle.fit cls = true) (hnames : ∀ n ∈ names, Bundle.fit n = true)
    (hk : (Cond.classLink own ik cls).before args s = true) (hini : (Cond.initialized cls).before args s = true) (hstr : vk_R own is text sa s) (hat : ∀ w ∈ vx_atS own ic cls names, w.before args s = true)
    (hgood : ∀ w ∈ Cond.classLink own ik cls :: Cond.initialized cls :: vx_atS own ic cls names, vx_ot w = true)
    (hU : vx_Zq Bundle.tN "UNASSIGNED_STACK" Bundle.steD A s s.heap) (hN : vx_Zq Bundle.tN "SUPPRESSED_SENTINEL" Bundle.listD A s s.heap) (hS : va_S A s.heap H locs) (hsize : ls.size = c.maxLocals)
    (d0 : decode cc pc = .ok (.new ik, 3)) (d3 : decode cc (pc + 3) = .ok (.dup, 1)) (d4 : decode cc (pc + 4) = .ok (.ldc_w is, 3)) (d7 : decode cc (pc + 7) = .ok (.invokespecial ic, 3)) (d10 : decode cc (pc + 10) = .ok (.athrow, 1))
    (hout : ∀ x ∈ c.exceptionTable.toList, covers x (pc + 10) = false)
    (hRframes : names.length + 3 < R.frames) (hRlocals : (rest.map fun v => v.category).sum + (13 * (names.length + 1) + 43) ≤ R.locals) (hRcells : cells + 1 ≤ R.cells) (hRslots : slots + 6 ≤ R.slots) (hlocks : meth.locks = false)
    (hx : ∀ t : State, s.vm.Alike t.vm → H.size ≤ t.heap.size → (∀ q : Nat, q < H.size → t.heap[q]? = H[q]?) → XC cls s t)
    (hf : ∀ z ∈ locs, free z.base) (hc : cells + 1 ≤ mc) (hs : slots + 6 ≤ ms) :
    W p l e R s m args below meth c H locs cells slots (vx_MQ below Qc XC args s mc ms free) (F0 m pc ls rest) := by
  intro T hT X
  have htr : e.platform.stackTraces = false := (show e.platform.stackTraces = l.stackTraces by rw [X.admits.platform]).trans hl
  have Y := vx_rebase X (R' := { frames := R.frames, locals := R.locals, cells := 1, slots := 6 }) (Nat.le_refl _) (Nat.le_refl _) hRcells hRslots
  obtain ⟨s', hA⟩ : ∃ z, z = (T.setVm s.vm).setFrames (.invoking m args :: below) := ⟨_, rfl⟩
  rw [← hA] at Y
  have hvm : s'.vm = s.vm := by rw [hA]; rfl
  have hhp : s'.heap = H := by rw [hA]; exact hT
  have hW0 : s.WarmedH s'.vm := by rw [hvm]; exact State.WarmedH.refl s
  have hat' : ∀ w ∈ vx_atS own ic cls names, w.before args s' = true := fun w hw => vx_ot_at hW0 hvm.symm (hgood w (List.mem_cons_of_mem _ (List.mem_cons_of_mem _ hw))) (hat w hw)
  have hk' : (Cond.classLink own ik cls).before args s' = true := vx_ot_at hW0 hvm.symm (hgood _ List.mem_cons_self) hk
  have hini' : (Cond.initialized cls).before args s' = true := vx_ot_at hW0 hvm.symm (hgood _ (List.mem_cons_of_mem _ List.mem_cons_self)) hini
  have hU' : vx_Zq Bundle.tN "UNASSIGNED_STACK" Bundle.steD A s' s'.heap := by rw [hhp]; exact vx_Zq.moved hW0.alike (hU.kept hS.2.1)
  have hN' : vx_Zq Bundle.tN "SUPPRESSED_SENTINEL" Bundle.listD A s' s'.heap := by rw [hhp]; exact vx_Zq.moved hW0.alike (hN.kept hS.2.1)
  have h : ∀ w ∈ Bundle.ownAtoms own ic cls names, w.before args s' = true := vx_own hat' (vx_isRefq hU'.1) (vx_isRefq hN'.1) hU'.2.word hN'.2.word
  have hown' : s'.vm.findClass own = some m.cls := by rw [hvm]; exact hown
  have hins : (Cond.instantiable cls 6).before args s' = true := h _ (by simp [Bundle.ownAtoms])
  obtain ⟨vm₁, cX, kX, hfX, hkX, -, -, X₁, st1⟩ := Y.newCold hexec (own := own) (C := cls) (index := ik) (n := 6) hown' hk' hins hini'
    (g := F0 m pc ls rest) rfl (by rw [hb]; exact d0) (Nat.le_refl _) (Nat.le_refl _)
  generalize hT1 : (T.setVm vm₁).pushCell { cls := cX, slots := kX.instanceTypes.map defaultValue, vm := .none } = T1 at X₁ st1
  have hcat : (Value.ref T.heap.size).category = 1 := rfl
  have hcellA : T1.heap[T.heap.size]? = some (freshCell cX kX) := by rw [← hT1]; exact State.heap_pushCell_size _ _
  have d3' : decode c.code (pc + 3) = .ok (.dup, 1) := by rw [hb]; exact d3
  have d4' : decode c.code (pc + 4) = .ok (.ldc_w is, 3) := by rw [hb]; exact d4
  have hstr' : vk_R own is text sa s' := vk_R.warm hW0 hstr
  obtain ⟨U, hsteps, hrun, hend, hW, hsame, ce, hce, hO⟩ := X₁.ctorThrowS hexec htr (own := own) (cls := cls) (names := names) (ic := ic) hown' hcls hnames h (fun x hx => nomatch hx) hfX hkX hcellA (by rw [hhp, hT]; exact Nat.le_refl _) (msg := .ref sa) rfl
    (g := { method := m, pc := pc + 7, locals := ls, stack := .ref sa :: .ref T.heap.size :: .ref T.heap.size :: rest, locked := none }) rfl hsize rfl rfl (rest := rest) rfl
    (by rw [hb]; exact d7) (by rw [hb]; exact d10) hout hRframes (by simp only [List.map_cons, List.sum_cons, hcat]; omega) hlocks
  obtain ⟨f1, f2⟩ := vx_frame hsame
  rw [hhp] at f1 f2
  have hWs : s.WarmedH U.vm := State.WarmedH.trans hW0 hW
  have hcl : s.vm.findClass cls = some ce.cls := by
    have h9 := hO.cls
    rw [hvm] at h9
    exact h9
  have hall : s.sameButNew ({ U with vm := s.vm } : State) locs mc ms := by
    subst hA
    obtain ⟨e1, e2⟩ := hsame
    rw [State.setFrames_setFrames] at e1
    have h2 : (T.setVm s.vm).sameButNew ({ U with vm := s.vm } : State) [] (0 + 1) (0 + 6) := ⟨e1, e2⟩
    have h3 := X.same.trans h2
    rw [List.append_nil] at h3
    exact h3.mono hc hs
  refine ⟨U, ?_, .threw T.heap.size, hrun, hend, Or.inr ⟨T.heap.size, rfl, cls, ce, locs, hx U hWs.alike f1 (fun q hq => f2 q hq (fun z hz => nomatch hz)), hce, hO.vm, hcl, hWs, hall, hf⟩⟩
  refine st1 _ ?_
  show Steps p.tables e below (T1.setTop { method := m, pc := pc + 3, locals := ls, stack := .ref T.heap.size :: rest, locked := none }) _
  jvm_step X₁.here [X₁.here.top, hexec, d3', Value.category]
  exact X₁.ldcStringW hexec (own := own) (text := text) (index := is) (a := sa) hown' hstr'.1 hstr'.2
    (g := { method := m, pc := pc + 4, locals := ls, stack := .ref T.heap.size :: .ref T.heap.size :: rest, locked := none }) rfl d4' _ hsteps
end Ends
section Bodies
variable {l : Launch}
theorem vx_ofW {y : MethodName} {ws ws' : List Cond} {rm : Room} {Pc : Array Value → State → Prop} {Qc : Array Value → State → Outcome → State → Prop} {XC : String → State → State → Prop} {mc ms : Nat} {free : Addr → Prop} {cc : ByteArray} {maxL : Nat} {ret : Option FieldType}
    (hy : plainName y.cls = true) (hw : ws = Cond.code y cc maxL ret :: ws')
    (body : ∀ p e s m args below meth c s₁, BodyLoose p l y (headSpec ws rm) cc maxL ret e s m args below meth c s₁ → c.maxLocals = maxL → (∀ x ∈ c.exceptionTable.toList, False) → Pc args s →
      W p l e (headSpec ws rm).room s m args below meth c s.heap [] 0 0 (vx_MQ below Qc XC args s mc ms free) (entryFrame m args maxL)) : vx_Met l y ws rm Pc Qc XC mc ms free := by
  refine MetFree.of_bodyS (code := cc) (maxLocals := maxL) (ret := ret) hy ?_ ?_
  · intro args s m h hn
    obtain ⟨meth, c, h1, h2, h3, h4, h5, h6, -, -⟩ := Cond.code_spec hn (atoms_spec (ws := ws) h _ (by rw [hw]; exact List.mem_cons_self))
    exact ⟨meth, c, h1, h2, h3, h4, h5, h6⟩
  · intro p e s m args below meth c s₁ B hml hP _
    have hh0 : s₁.heap = s.heap := by rw [B.state]; rfl
    have ht : ∀ x ∈ c.exceptionTable.toList, False := by
      obtain ⟨meth9, c9, h1, h2, -, -, -, -, h7, -⟩ := Cond.code_spec B.named (atoms_spec (ws := ws) B.pre _ (by rw [hw]; exact List.mem_cons_self))
      cases Option.some.inj (h1.symm.trans B.method)
      cases Option.some.inj (h2.symm.trans (Stand.of_body B).code)
      intro x hx
      rw [Array.isEmpty_iff.mp h7] at hx
      cases hx
    obtain ⟨t, a1, o, b1, b2, b3⟩ := body p e s m args below meth c s₁ B hml ht hP s₁ hh0 (Stand.of_body B)
    exact ⟨t, o, a1, b1, b2, b3⟩
/-- the table of a body with handlers -/
theorem vx_table {p : Program} {x y : MethodName} {S : Spec} {cc bytes : ByteArray} {maxL maxL' : Nat} {ret ret' : Option FieldType} {e : Env} {s s₁ : State} {m : MethodId} {args : Array Value} {below : List Frame} {meth : Method} {c : Code} {hh : List (Nat × Nat × Nat × Nat)}
    (B : BodyLoose p l y S cc maxL ret e s m args below meth c s₁) (h : (Cond.codeWith y bytes maxL' ret' hh).before args s = true) : c.exceptionTable.toList = tableOf hh := by
  obtain ⟨m9, meth9, c9, hn9, h1, h2, -, -, h6, -⟩ := Cond.codeWith_spec h
  cases Option.some.inj (hn9.symm.trans B.named)
  cases Option.some.inj (h1.symm.trans B.method)
  cases Option.some.inj (h2.symm.trans (Stand.of_body B).code)
  rw [← h6, table_eq]
end Bodies
end VXA
/-! ===== END ===== -/
/-! ===== BEGIN a static call of a method with an exception table ===== -/
section VXS
variable {p : Program} {l : Launch} {e : Env} {R : Room} {s : State} {m : MethodId} {args : Array Value} {below : List Frame} {meth : Method} {c : Code} {T : State} {H : Heap} {locs : List Loc} {cells slots : Nat}
abbrev vx_CSW (R : Room) (s : State) (args : Array Value) (own : String) (index : Nat) (y : MethodName) (bytes : ByteArray) (maxL : Nat) (ret : Option FieldType) (hh : List (Nat × Nat × Nat × Nat)) (ws : List Cond) (rm : Room) (mc ms n : Nat) : Prop :=
  (rm.cells = mc ∧ rm.slots = ms ∧ rm.frames + 1 ≤ R.frames ∧ 8 + (maxL + 11) + rm.locals ≤ R.locals ∧ (∀ w ∈ ws, ∀ (a' : Array Value) (U : State), s.WarmedH U.vm → w.before a' U = true) ∧ Cond.codeWith y bytes maxL ret hh ∈ ws) ∧
  (Cond.codeWith y bytes maxL ret hh).before args s = true ∧ (Cond.initialized y.cls).before args s = true ∧ (y.cls ≠ "java/lang/invoke/MethodHandle" ∧ y.cls ≠ "java/lang/invoke/VarHandle") ∧
  (∀ sig, parseMethodDescriptor y.desc = some sig → n = sig.parameters.length) ∧ (Cond.methodLink own index y).before args s = true ∧ (Cond.static y).before args s = true
theorem vx_cwSW {own : String} {index maxL mc ms : Nat} {y : MethodName} {bytes : ByteArray} {ret : Option FieldType} {hh : List (Nat × Nat × Nat × Nat)} {Ts ws ws' : List Cond} {rm : Room} (n : Nat) (ht : ∀ w ∈ Ts, w.before args s = true) (hT : GoodIn Ts (va_wsS own index y ws)) (hw : ws = Cond.codeWith y bytes maxL ret hh :: ws') (hrc : rm.cells = mc) (hrs : rm.slots = ms)
    (hd : y.cls ≠ "java/lang/invoke/MethodHandle" ∧ y.cls ≠ "java/lang/invoke/VarHandle" ∧ (parseMethodDescriptor y.desc).map (fun d => d.parameters.length) = some n) (hR : rm.frames + 1 ≤ R.frames ∧ 8 + (maxL + 11) + rm.locals ≤ R.locals) :
    vx_CSW R s args own index y bytes maxL ret hh ws rm mc ms n := by
  have ok : ∀ w ∈ va_wsS own index y ws, w.before args s = true := fun w h => ht w (hT w h).1
  have hG : GoodIn Ts ws := fun w h => hT w (by unfold va_wsS; exact List.mem_append_right _ h)
  have hc : Cond.codeWith y bytes maxL ret hh ∈ ws := by rw [hw]; exact List.mem_cons_self
  refine ⟨⟨hrc, hrs, hR.1, hR.2, pay_in ht hG, hc⟩, ht _ (hG _ hc).1, ok _ (by simp [va_wsS]), ⟨hd.1, hd.2.1⟩, fun sig h => ?_, ok _ (by simp [va_wsS]), ok _ (by simp [va_wsS])⟩
  have h2 := hd.2.2
  rw [h] at h2
  exact (Option.some.inj h2).symm
theorem vx_callSW (X : Stand p l e R s m args below meth c T locs cells slots) (hexec : p.tables.exec = Jvm.exec) {own : String} {index : Nat} {y : MethodName} {bytes : ByteArray} {maxL : Nat} {ret : Option FieldType} {hh : List (Nat × Nat × Nat × Nat)}
    (hown : s.vm.findClass own = some m.cls) (hlink : (Cond.methodLink own index y).before args s = true) (hstat : (Cond.static y).before args s = true) (hinit : (Cond.initialized y.cls).before args s = true)
    (hcode : (Cond.codeWith y bytes maxL ret hh).before args s = true) (hy : y.cls ≠ "java/lang/invoke/MethodHandle" ∧ y.cls ≠ "java/lang/invoke/VarHandle")
    {W9 : Nat} {Pre : Pt → Array Value → Prop} {Post : Pt → Array Value → Option Value → Pt → Prop} (hK : Back l R p e below s args y 3 W9 Pre Post)
    {g : JFrame} (hg : g.method = m) (hsize : g.locals.size = c.maxLocals) {argsL rest : List Value} (hlen : ∀ sig, parseMethodDescriptor y.desc = some sig → argsL.length = sig.parameters.length)
    (hstack : g.stack = argsL.reverse ++ rest) (hW : 2 * g.monitorRoom + (rest.map fun v => v.category).sum ≤ W9) (hdg : decode c.code g.pc = .ok (.invokestatic index, 3))
    (hpre : ∀ vm₁, s.WarmedH vm₁ → Pre ⟨T.setVm vm₁, locs, cells, slots⟩ argsL.toArray) :
    ∃ (v : Option Value) (vm₁ : Vm) (B : Pt), s.WarmedH vm₁ ∧ Stand p l e R s m args below meth c B.U B.locs B.cells B.slots ∧ Post ⟨T.setVm vm₁, locs, cells, slots⟩ argsL.toArray v B ∧
      ∀ target, Steps p.tables e below (B.U.setTop { g with pc := g.pc + 3, stack := v.toList ++ rest }) target → Steps p.tables e below (T.setTop g) target := by
  obtain ⟨mk, methM, cM, hnamed, hmethM, -, -, -, -, -, -, hsigM⟩ := Cond.codeWith_spec hcode
  have hstatic : methM.isStatic = true := Cond.static_spec hnamed hmethM hstat
  obtain ⟨kP, hkP, -⟩ := className_of_methodNamed hnamed
  have hinitP : kP.init = .initialized := Cond.initialized_spec (findClass_of_methodNamed hnamed) hkP hinit
  obtain ⟨vm₁, X₁, hstep₁⟩ := X.invokestatic hexec hown hlink hnamed hmethM hstatic hkP hinitP hy (g := g) hg (argsL := argsL) (rest := rest) (hlen _ hsigM) hstack hdg
  obtain ⟨v, B, X', hpost, hsteps⟩ := hK m meth c ⟨T.setVm vm₁, locs, cells, slots⟩ { g with stack := rest } (.invokestatic index) mk argsL.toArray X₁ hg hsize hdg hW (X₁.named hnamed) (hpre vm₁ X₁.warmed)
  exact ⟨v, vm₁, B, X₁.warmed, X', hpost, fun target h => hstep₁ _ fun acts => by rw [doInvoke_state]; exact hsteps.trans h⟩
theorem vx_runSW {y : MethodName} {bytes cc : ByteArray} {maxL nL mc ms n index : Nat} {ret : Option FieldType} {hh : List (Nat × Nat × Nat × Nat)} {ws : List Cond} {rm : Room} {Pc : Array Value → State → Prop} {Qc : Array Value → State → Outcome → State → Prop} {free : Addr → Prop} {Ts : List Cond} {own : String} {As rest : List Value} {g : JFrame}
    (S : CallFix p m c cc nL s args Ts own) (hM : Met l y ws rm Pc Qc mc ms free) (cw : vx_CSW R s args own index y bytes maxL ret hh ws rm mc ms n) (hp : PreS s H Pc As)
    (hg : g.method = m) (hn : As.length = n) (hsize : g.locals.size = nL) (hstack : g.stack = As.reverse ++ rest) (hW : 2 * g.monitorRoom + (rest.map fun v => v.category).sum ≤ 8) (hdg : decode cc g.pc = .ok (.invokestatic index, 3)) (hf : cells + mc ≤ R.cells ∧ slots + ms ≤ R.slots) :
    va_Run p l e R s m args below meth c H locs cells slots mc ms g rest (Qc As.toArray) (free) := by
  obtain ⟨⟨hrc, hrs, hfr, hlo, hws, hcw⟩, hcode, hini, hy, hlen, hl, hstt⟩ := cw
  have hK : Back l R p e below s args y 3 8 (PreOf R mc ms Pc) (PostOf Qc mc ms free) := va_backW (hh := hh) (bytes := bytes) (maxL := maxL) (ret := ret) hM hp.1 hrc hrs hfr hlo hws hcw (fun a' U hW => word_at hW (Or.inl (by first | rfl | simp [Cond.onTables, Cond.keeps, Cond.steady])) hini)
  obtain ⟨hx, hb, hml, ho, -⟩ := S
  intro T hT X
  obtain ⟨v, vm₁, ⟨U', l2, c2, s2⟩, hW₁, X', ⟨g', mk, t, L, e1, e2, hq, h1, hL, h2, h3⟩, st⟩ := vx_callSW X hx (hh := hh) (bytes := bytes) (maxL := maxL) (ret := ret) ho hl hstt hini hcode hy hK hg (hsize.trans hml.symm) (argsL := As) (rest := rest) (fun sig h => hn.trans (hlen sig h)) hstack hW (by rw [hb]; exact hdg)
    (fun vm₁ hW₁ => ⟨hf.1, hf.2, hp.2 (T.setVm vm₁) hT hW₁⟩)
  dsimp only [Pt.U, Pt.locs, Pt.cells, Pt.slots] at X' e1 e2 h1 h2 h3 st
  subst h1; subst h2; subst h3
  exact ⟨v, (T.setVm vm₁).calling g' mk As.toArray, t, U', L, hT, X', hL, e1, e2, hq, st⟩
/-- not caught here, past rows that name other classes: it goes on to the caller -/
theorem vx_outP {p : Program} {l : Launch} {e : Env} {R : Room} {s : State} {m : MethodId} {args : Array Value} {below : List Frame} {meth : Method} {c : Code} {H : Heap} {locs : List Loc} {cells slots : Nat} {free : Addr → Prop} {ls : Array Slot} {rest : List Value} {Qc : Array Value → State → Outcome → State → Prop} {XC : String → State → State → Prop}
    {pc : Nat} {own E : String} {ce : Cell} {q : Addr} {mc ms : Nat} (hown : s.vm.findClass own = some m.cls) (hlocks : meth.locks = false)
    (hpass : ∀ z ∈ c.exceptionTable.toList, covers z pc = false ∨ (z.catchType ≠ 0 ∧ ∃ nm : String, (Cond.classLink own z.catchType nm).before args s = true ∧ va_Nc E nm s)) (hcell : H[q]? = some ce) (hv : ce.vm = .none) (hcl : s.vm.findClass E = some ce.cls)
    (hx : ∀ t : State, t.heap = H → s.vm.Alike t.vm → XC E s t) (hf : ∀ z ∈ locs, free z.base) (hc : cells ≤ mc) (hs : slots ≤ ms) :
    vx_W p l e R s m args below meth c H locs cells slots (vx_MQ below Qc XC args s mc ms free) (F0 m pc ls rest) q := by
  intro T hT X
  have hpl : e.platform.magicAccessors = ({} : Platform).magicAccessors := by rw [X.admits.platform]
  obtain ⟨vm', hW', X', st⟩ := X.outThrough hlocks q (g := F0 m pc ls rest) rfl rfl rfl (cell := ce) (by rw [hT]; exact hcell) (by rw [hv]; rfl)
    (by obtain ⟨k9, h9, -⟩ := Vm.findClass_spec hcl; exact ⟨k9, h9⟩) (fun z hz => by
      rcases hpass z hz with h | ⟨hz0, nm, hl1, hn1⟩
      · exact Or.inl h
      · obtain ⟨c6, hc6, hcl6⟩ := Cond.classLink_spec hown hl1 e.platform hpl
        obtain ⟨a8, b8, h1, h2, h3⟩ := hn1
        cases Option.some.inj (h1.symm.trans hcl)
        cases Option.some.inj (h2.symm.trans hc6)
        exact Or.inr ⟨hz0, _, hcl6, h3⟩)
  obtain ⟨g₀, hfr⟩ := X'.frames_eq
  have hcell9 : ((T.setVm vm').setFrames (.throwing q :: below)).heap[q]? = some ce := by
    show T.heap[q]? = some ce
    rw [hT]; exact hcell
  have hend : Ended ((T.setVm vm').setFrames (.throwing q :: below)) below (.threw q) := State.frames_setFrames _ (State.cur_lt_of_frames hfr)
  refine ⟨(T.setVm vm').setFrames (.throwing q :: below), ?_, .threw q, X'.here.running, hend, Or.inr ⟨q, rfl, E, ce, locs, hx _ hT (X'.ends _).1.alike, hcell9, hv, hcl, (X'.ends _).1, (X'.ends _).2.mono hc hs, hf⟩⟩
  rw [X.pushThrowing_eq]
  exact st
/-- a thing of a world lies in the heap -/
theorem vx_lt {D : va_G} {cl : List vw_C} {ws : va_W} {H1 : Heap} (h : va_P D cl ws H1) {k : Nat} {q : Nat × va_E} (hk : ws[k]? = some q) : q.1 < H1.size := (h k q hk).lt
end VXS
/-! ===== END ===== -/
/-! ===== BEGIN methods with a table of their own: called by a name, returning or throwing ===== -/
section VXH
/-! vx_backW, vx_callVX, vx_callSX, vx_callVW, vx_runVW, vx_runVX, vx_runSX, vx_ofWH follow the same proofs as their sisters above (Free/Laws.lean, Shelf42/LK1.lean); vx_outP calls Shelf42/NT130.lean (outThrough). -/
section
variable {l : Launch} {R : Room} {p : Program} {e : Env} {below : List Frame} {s : State} {sargs : Array Value} {y : MethodName} {len W9 : Nat}
theorem vx_backW {ws : List Cond} {rm : Room} {Pc : Array Value → State → Prop} {Qc : Array Value → State → Outcome → State → Prop} {XC : String → State → State → Prop} {mc ms : Nat} {free : Addr → Prop} {bytes : ByteArray} {maxL : Nat} {ret : Option FieldType} {hh : List (Nat × Nat × Nat × Nat)}
    (hM : vx_Met l y ws rm Pc Qc XC mc ms free) (hblind : FrameBlind Pc) (hrc : rm.cells = mc) (hrs : rm.slots = ms)
    (hframes : rm.frames + 1 ≤ R.frames) (hlocals : W9 + (maxL + 11) + rm.locals ≤ R.locals)
    (hws : ∀ w ∈ ws, ∀ a' U, s.WarmedH U.vm → w.before a' U = true) (hcode : Cond.codeWith y bytes maxL ret hh ∈ ws) (hinit : ∀ a' U, s.WarmedH U.vm → (Cond.initialized y.cls).before a' U = true) :
    vx_Back l R p e below s sargs y len W9 (PreOf R mc ms Pc) (PostOf Qc mc ms free) (vx_Post XC mc ms free) := by
  intro m meth c A g ig mk a X hg hsize hdg hW hn hp
  have h1 : (headSpec ws rm).pre.before a A.U = true := atoms_intro fun w hw => hws w hw _ _ X.warmed
  have h2 : (Cond.codeWith y bytes maxL ret hh).before a A.U = true := hws _ hcode _ _ X.warmed
  have h3 : (Cond.initialized y.cls).before a A.U = true := hinit _ _ X.warmed
  have h4 : A.cells + (headSpec ws rm).room.cells ≤ R.cells := by rw [show (headSpec ws rm).room.cells = mc from hrc]; exact hp.1
  have h5 : A.slots + (headSpec ws rm).room.slots ≤ R.slots := by rw [show (headSpec ws rm).room.slots = ms from hrs]; exact hp.2.1
  have hPc : Pc a (A.U.calling g mk a) := hblind _ _ _ _ hp.2.2
  obtain ⟨U, Ls, c0, s0⟩ := A
  dsimp only [Pt.U, Pt.locs, Pt.cells, Pt.slots] at h1 h2 h3 h4 h5 X hn hPc ⊢
  obtain ⟨m9, methY, cY, hn9, hmY, hcY, -, hlY, -⟩ := Cond.codeWith_spec h2
  cases Option.some.inj (hn9.symm.trans hn)
  obtain ⟨kY, hkY, -⟩ := className_of_methodNamed hn
  have hinitY : kY.init = .initialized := Cond.initialized_spec (findClass_of_methodNamed hn) hkY h3
  have h : At U g.method c below := by rw [hg]; exact X.here
  have hlocals9 : W9 + (maxL + 11) + (headSpec ws rm).room.locals ≤ R.locals := hlocals
  have happ : (headSpec ws rm).appliesLoose y e.platform (U.calling g mk a) = true :=
    Spec.appliesLoose_calling (g := g) h hdg hn hkY hinitY
      (X.room_calling (g := g) (R' := (headSpec ws rm).room) hsize hmY hcY hframes (by rw [hlY]; omega) h4 h5) h1
  obtain ⟨mid, hmid⟩ := h.above
  have hfr : (U.setTop g).frames = (.java g :: mid) ++ below := by rw [State.frames_setTop' g h.top, hmid]; rfl
  obtain ⟨o, s₂, hsteps, -, hend, hq⟩ := Steps.callFree hM p X.admits X.cas X.clock (acts := []) hfr happ hPc trivial
  have hq' : vx_Q Qc XC mc ms free a (U.calling g mk a) o s₂ := hq
  rw [State.frames_setTop' g h.top] at hend
  obtain ⟨g₀, hg0⟩ := Option.isSome_iff_exists.mp h.top
  obtain ⟨r, hr⟩ := State.topJava?_eq_some.mp hg0
  have hr' : (({ U with heap := s₂.heap, slotsUsed := s₂.slotsUsed } : State).setVm s₂.vm).frames = .java g₀ :: r := hr
  rcases hq' with ⟨hqc, L, hfe, hL⟩ | ⟨q, rfl, E, ce, L, hx, hce, hcv, hcl, hW₂, hsm, hL⟩
  · obtain ⟨⟨v, rfl⟩, hW₂, e2, q2, q3, q4, q5, q6⟩ := id hfe
    have e3 : s₂ = ({ (U.calling g mk a).setFrames s₂.frames with heap := s₂.heap, slotsUsed := s₂.slotsUsed } : State).setVm s₂.vm := by
      have : s₂ = ({ s₂ with vm := (U.calling g mk a).vm } : State).setVm s₂.vm := rfl
      rw [e2] at this
      exact this
    obtain ⟨c₂, i₂, len₂, hc₂, hd₂, hf₂⟩ := hend
    have hW' : U.WarmedH s₂.vm := hW₂
    have hcc : c₂ = c := by
      have h1 : s₂.code? g.method = U.code? g.method := by
        rw [State.code?_eq, State.code?_eq, hW'.alike.method?]
      exact Option.some.inj (hc₂.symm.trans (h1.trans h.code))
    subst hcc
    have hlen : len₂ = len := by rw [hdg] at hd₂; cases hd₂; rfl
    subst hlen
    have hs₂ : s₂ = (({ U with heap := s₂.heap, slotsUsed := s₂.slotsUsed } : State).setVm s₂.vm).setTop { g with pc := g.pc + len₂, stack := v.toList ++ g.stack } := by
      refine e3.trans ?_
      rw [hf₂, State.calling_eq h.top, State.setFrames_setFrames, State.setTop_of_frames _ hr', hr]
      rfl
    have hsame : U.sameButNew ({ U with heap := s₂.heap, slotsUsed := s₂.slotsUsed } : State) L mc ms := by
      refine ⟨?_, q2, q3, q4, q5, q6⟩
      obtain ⟨t, ht, -⟩ := State.frames_cons hr
      show ({ U with heap := s₂.heap, slotsUsed := s₂.slotsUsed } : State) = { U.setFrames U.frames with heap := s₂.heap, slotsUsed := s₂.slotsUsed }
      rw [State.setFrames_self ht]
    subst hg
    refine Or.inl ⟨v, ⟨(({ U with heap := s₂.heap, slotsUsed := s₂.slotsUsed } : State).setVm s₂.vm), Ls ++ L, c0 + mc, s0 + ms⟩,
      ⟨X.admits, X.cas, X.clock, X.frames, X.room, X.hears, X.method, X.code, (X.here.setHeapUsed s₂.heap s₂.slotsUsed).setVm hW'.alike, X.tail, State.WarmedH.trans X.warmed hW', X.limits, X.bytes, X.same.trans (hsame.setVm s.vm)⟩,
      ⟨g, mk, s₂, L, rfl, rfl, hqc, rfl, hL, rfl, rfl⟩, ?_⟩
    show Steps p.tables e below _ ((({ U with heap := s₂.heap, slotsUsed := s₂.slotsUsed } : State).setVm s₂.vm).setTop { g with pc := g.pc + len₂, stack := v.toList ++ g.stack })
    rw [← hs₂]
    exact hsteps
  · obtain ⟨e2, q2, q3, q4, q5, q6⟩ := id hsm
    have e3 : s₂ = ({ (U.calling g mk a).setFrames s₂.frames with heap := s₂.heap, slotsUsed := s₂.slotsUsed } : State).setVm s₂.vm := by
      have : s₂ = ({ s₂ with vm := (U.calling g mk a).vm } : State).setVm s₂.vm := rfl
      rw [e2] at this
      exact this
    have hf₂ : s₂.frames = .throwing q :: .java g :: U.frames.tail := hend
    have hW' : U.WarmedH s₂.vm := hW₂
    have hs₂ : s₂ = ((({ U with heap := s₂.heap, slotsUsed := s₂.slotsUsed } : State).setVm s₂.vm).setTop g).pushFrame (.throwing q) := by
      refine e3.trans ?_
      rw [hf₂, State.calling_eq h.top, State.setFrames_setFrames, State.pushFrame, State.frames_setTop _ hr', State.setTop_of_frames _ hr', State.setFrames_setFrames, hr]
      rfl
    have hsame : U.sameButNew ({ U with heap := s₂.heap, slotsUsed := s₂.slotsUsed } : State) L mc ms := by
      refine ⟨?_, q2, q3, q4, q5, q6⟩
      obtain ⟨t, ht, -⟩ := State.frames_cons hr
      show ({ U with heap := s₂.heap, slotsUsed := s₂.slotsUsed } : State) = { U.setFrames U.frames with heap := s₂.heap, slotsUsed := s₂.slotsUsed }
      rw [State.setFrames_self ht]
    subst hg
    refine Or.inr ⟨q, ⟨(({ U with heap := s₂.heap, slotsUsed := s₂.slotsUsed } : State).setVm s₂.vm), Ls ++ L, c0 + mc, s0 + ms⟩,
      ⟨X.admits, X.cas, X.clock, X.frames, X.room, X.hears, X.method, X.code, (X.here.setHeapUsed s₂.heap s₂.slotsUsed).setVm hW'.alike, X.tail, State.WarmedH.trans X.warmed hW', X.limits, X.bytes, X.same.trans (hsame.setVm s.vm)⟩,
      ⟨g, mk, s₂, L, E, ce, rfl, rfl, hx, hce, hcv, hcl, rfl, hL, rfl, rfl⟩, ?_⟩
    show Steps p.tables e below _ (((({ U with heap := s₂.heap, slotsUsed := s₂.slotsUsed } : State).setVm s₂.vm).setTop g).pushFrame (.throwing q))
    rw [← hs₂]
    exact hsteps
end
variable {p : Program} {l : Launch} {e : Env} {R : Room} {s : State} {m : MethodId} {args : Array Value} {below : List Frame} {meth : Method} {c : Code} {T : State} {H : Heap} {locs : List Loc} {cells slots : Nat}
theorem vx_callVX (X : Stand p l e R s m args below meth c T locs cells slots) (hexec : p.tables.exec = Jvm.exec) {own C : String} {index : Nat} {y : MethodName} {bytes : ByteArray} {maxL : Nat} {ret : Option FieldType} {hh : List (Nat × Nat × Nat × Nat)}
    (hown : s.vm.findClass own = some m.cls) (hlink : (Cond.methodLink own index y).before args s = true) (hinst : (Cond.instanceMethod y).before args s = true) (hsel : (Cond.selects C y y).before args s = true)
    (hcode : (Cond.codeWith y bytes maxL ret hh).before args s = true) (hy : y.cls ≠ "java/lang/invoke/MethodHandle" ∧ y.cls ≠ "java/lang/invoke/VarHandle")
    {W9 : Nat} {Pre : Pt → Array Value → Prop} {Post : Pt → Array Value → Option Value → Pt → Prop} {PostX : Pt → Array Value → Addr → Pt → Prop} (hK : vx_Back l R p e below s args y 3 W9 Pre Post PostX)
    {b : Addr} {cellB : Cell} (hcell : T.heap[b]? = some cellB) (hobj : cellB.vm.isStatics = false) (hcls : s.vm.findClass C = some cellB.cls)
    {g : JFrame} (hg : g.method = m) (hsize : g.locals.size = c.maxLocals) {argsL rest : List Value} (hlen : ∀ sig, parseMethodDescriptor y.desc = some sig → argsL.length = sig.parameters.length)
    (hstack : g.stack = argsL.reverse ++ .ref b :: rest) (hW : 2 * g.monitorRoom + (rest.map fun v => v.category).sum ≤ W9) (hdg : decode c.code g.pc = .ok (.invokevirtual index, 3))
    (hpre : ∀ vm₁, s.WarmedH vm₁ → Pre ⟨T.setVm vm₁, locs, cells, slots⟩ (Value.ref b :: argsL).toArray) :
    (∃ (v : Option Value) (vm₁ : Vm) (B : Pt), s.WarmedH vm₁ ∧ Stand p l e R s m args below meth c B.U B.locs B.cells B.slots ∧ Post ⟨T.setVm vm₁, locs, cells, slots⟩ (Value.ref b :: argsL).toArray v B ∧
      ∀ target, Steps p.tables e below (B.U.setTop { g with pc := g.pc + 3, stack := v.toList ++ rest }) target → Steps p.tables e below (T.setTop g) target) ∨
    (∃ (q : Addr) (vm₁ : Vm) (B : Pt), s.WarmedH vm₁ ∧ Stand p l e R s m args below meth c B.U B.locs B.cells B.slots ∧ PostX ⟨T.setVm vm₁, locs, cells, slots⟩ (Value.ref b :: argsL).toArray q B ∧
      Steps p.tables e below (T.setTop g) ((B.U.setTop { g with stack := rest }).pushFrame (.throwing q))) := by
  obtain ⟨mk, methM, hnamed, hmethM, hstM, habM⟩ := Cond.instanceMethod_spec hinst
  obtain ⟨m8, methM', cM, hn8, hmethM', -, -, -, -, -, -, hsigM⟩ := Cond.codeWith_spec hcode
  cases Option.some.inj (hn8.symm.trans hnamed)
  cases hmethM.symm.trans hmethM'
  obtain ⟨c2, r2, m2, q1, q2, q3, q4, kP, hkP, hkPi⟩ := Cond.selects_spec hsel
  cases hcls.symm.trans q1
  cases (State.methodFound?_of_named hnamed hy).symm.trans q2
  cases hnamed.symm.trans q3
  have hselP : selectMethod e.platform s.vm cellB.cls mk = .method mk := by rw [Launch.admits_selectMethod X.admits]; exact q4
  obtain ⟨vm₁, X₁, hstep₁⟩ := X.invokevirtual hexec hown hlink hnamed hmethM hstM hkP hkPi hy (a := b) (cell := cellB) hcell
    (fun z h => by rw [h] at hobj; cases hobj) hselP hmethM habM hkP hkPi (g := g) hg (argsL := argsL) (rest := rest) (hlen _ hsigM) hstack hdg
  rcases hK m meth c ⟨T.setVm vm₁, locs, cells, slots⟩ { g with stack := rest } (.invokevirtual index) mk (Value.ref b :: argsL).toArray X₁ hg hsize hdg hW (X₁.named hnamed) (hpre vm₁ X₁.warmed) with ⟨v, B, X', hpost, hsteps⟩ | ⟨q, B, X', hpost, hsteps⟩
  · exact Or.inl ⟨v, vm₁, B, X₁.warmed, X', hpost, fun target h => hstep₁ _ fun acts => by rw [doInvoke_state]; exact hsteps.trans h⟩
  · exact Or.inr ⟨q, vm₁, B, X₁.warmed, X', hpost, hstep₁ _ fun acts => by rw [doInvoke_state]; exact hsteps⟩
theorem vx_callSX (X : Stand p l e R s m args below meth c T locs cells slots) (hexec : p.tables.exec = Jvm.exec) {own : String} {index : Nat} {y : MethodName} {bytes : ByteArray} {maxL : Nat} {ret : Option FieldType} {hh : List (Nat × Nat × Nat × Nat)}
    (hown : s.vm.findClass own = some m.cls) (hlink : (Cond.methodLink own index y).before args s = true) (hstat : (Cond.static y).before args s = true) (hinit : (Cond.initialized y.cls).before args s = true)
    (hcode : (Cond.codeWith y bytes maxL ret hh).before args s = true) (hy : y.cls ≠ "java/lang/invoke/MethodHandle" ∧ y.cls ≠ "java/lang/invoke/VarHandle")
    {W9 : Nat} {Pre : Pt → Array Value → Prop} {Post : Pt → Array Value → Option Value → Pt → Prop} {PostX : Pt → Array Value → Addr → Pt → Prop} (hK : vx_Back l R p e below s args y 3 W9 Pre Post PostX)
    {g : JFrame} (hg : g.method = m) (hsize : g.locals.size = c.maxLocals) {argsL rest : List Value} (hlen : ∀ sig, parseMethodDescriptor y.desc = some sig → argsL.length = sig.parameters.length)
    (hstack : g.stack = argsL.reverse ++ rest) (hW : 2 * g.monitorRoom + (rest.map fun v => v.category).sum ≤ W9) (hdg : decode c.code g.pc = .ok (.invokestatic index, 3))
    (hpre : ∀ vm₁, s.WarmedH vm₁ → Pre ⟨T.setVm vm₁, locs, cells, slots⟩ argsL.toArray) :
    (∃ (v : Option Value) (vm₁ : Vm) (B : Pt), s.WarmedH vm₁ ∧ Stand p l e R s m args below meth c B.U B.locs B.cells B.slots ∧ Post ⟨T.setVm vm₁, locs, cells, slots⟩ argsL.toArray v B ∧
      ∀ target, Steps p.tables e below (B.U.setTop { g with pc := g.pc + 3, stack := v.toList ++ rest }) target → Steps p.tables e below (T.setTop g) target) ∨
    (∃ (q : Addr) (vm₁ : Vm) (B : Pt), s.WarmedH vm₁ ∧ Stand p l e R s m args below meth c B.U B.locs B.cells B.slots ∧ PostX ⟨T.setVm vm₁, locs, cells, slots⟩ argsL.toArray q B ∧
      Steps p.tables e below (T.setTop g) ((B.U.setTop { g with stack := rest }).pushFrame (.throwing q))) := by
  obtain ⟨mk, methM, cM, hnamed, hmethM, -, -, -, -, -, -, hsigM⟩ := Cond.codeWith_spec hcode
  have hstatic : methM.isStatic = true := Cond.static_spec hnamed hmethM hstat
  obtain ⟨kP, hkP, -⟩ := className_of_methodNamed hnamed
  have hinitP : kP.init = .initialized := Cond.initialized_spec (findClass_of_methodNamed hnamed) hkP hinit
  obtain ⟨vm₁, X₁, hstep₁⟩ := X.invokestatic hexec hown hlink hnamed hmethM hstatic hkP hinitP hy (g := g) hg (argsL := argsL) (rest := rest) (hlen _ hsigM) hstack hdg
  rcases hK m meth c ⟨T.setVm vm₁, locs, cells, slots⟩ { g with stack := rest } (.invokestatic index) mk argsL.toArray X₁ hg hsize hdg hW (X₁.named hnamed) (hpre vm₁ X₁.warmed) with ⟨v, B, X', hpost, hsteps⟩ | ⟨q, B, X', hpost, hsteps⟩
  · exact Or.inl ⟨v, vm₁, B, X₁.warmed, X', hpost, fun target h => hstep₁ _ fun acts => by rw [doInvoke_state]; exact hsteps.trans h⟩
  · exact Or.inr ⟨q, vm₁, B, X₁.warmed, X', hpost, hstep₁ _ fun acts => by rw [doInvoke_state]; exact hsteps⟩
theorem vx_callVW (X : Stand p l e R s m args below meth c T locs cells slots) (hexec : p.tables.exec = Jvm.exec) {own C : String} {index : Nat} {y : MethodName} {bytes : ByteArray} {maxL : Nat} {ret : Option FieldType} {hh : List (Nat × Nat × Nat × Nat)}
    (hown : s.vm.findClass own = some m.cls) (hlink : (Cond.methodLink own index y).before args s = true) (hinst : (Cond.instanceMethod y).before args s = true) (hsel : (Cond.selects C y y).before args s = true)
    (hcode : (Cond.codeWith y bytes maxL ret hh).before args s = true) (hy : y.cls ≠ "java/lang/invoke/MethodHandle" ∧ y.cls ≠ "java/lang/invoke/VarHandle")
    {W9 : Nat} {Pre : Pt → Array Value → Prop} {Post : Pt → Array Value → Option Value → Pt → Prop} (hK : Back l R p e below s args y 3 W9 Pre Post)
    {b : Addr} {cellB : Cell} (hcell : T.heap[b]? = some cellB) (hobj : cellB.vm.isStatics = false) (hcls : s.vm.findClass C = some cellB.cls)
    {g : JFrame} (hg : g.method = m) (hsize : g.locals.size = c.maxLocals) {argsL rest : List Value} (hlen : ∀ sig, parseMethodDescriptor y.desc = some sig → argsL.length = sig.parameters.length)
    (hstack : g.stack = argsL.reverse ++ .ref b :: rest) (hW : 2 * g.monitorRoom + (rest.map fun v => v.category).sum ≤ W9) (hdg : decode c.code g.pc = .ok (.invokevirtual index, 3))
    (hpre : ∀ vm₁, s.WarmedH vm₁ → Pre ⟨T.setVm vm₁, locs, cells, slots⟩ (Value.ref b :: argsL).toArray) :
    ∃ (v : Option Value) (vm₁ : Vm) (B : Pt), s.WarmedH vm₁ ∧ Stand p l e R s m args below meth c B.U B.locs B.cells B.slots ∧ Post ⟨T.setVm vm₁, locs, cells, slots⟩ (Value.ref b :: argsL).toArray v B ∧
      ∀ target, Steps p.tables e below (B.U.setTop { g with pc := g.pc + 3, stack := v.toList ++ rest }) target → Steps p.tables e below (T.setTop g) target := by
  obtain ⟨mk, methM, hnamed, hmethM, hstM, habM⟩ := Cond.instanceMethod_spec hinst
  obtain ⟨m8, methM', cM, hn8, hmethM', -, -, -, -, -, -, hsigM⟩ := Cond.codeWith_spec hcode
  cases Option.some.inj (hn8.symm.trans hnamed)
  cases hmethM.symm.trans hmethM'
  obtain ⟨c2, r2, m2, q1, q2, q3, q4, kP, hkP, hkPi⟩ := Cond.selects_spec hsel
  cases hcls.symm.trans q1
  cases (State.methodFound?_of_named hnamed hy).symm.trans q2
  cases hnamed.symm.trans q3
  have hselP : selectMethod e.platform s.vm cellB.cls mk = .method mk := by rw [Launch.admits_selectMethod X.admits]; exact q4
  obtain ⟨vm₁, X₁, hstep₁⟩ := X.invokevirtual hexec hown hlink hnamed hmethM hstM hkP hkPi hy (a := b) (cell := cellB) hcell
    (fun z h => by rw [h] at hobj; cases hobj) hselP hmethM habM hkP hkPi (g := g) hg (argsL := argsL) (rest := rest) (hlen _ hsigM) hstack hdg
  obtain ⟨v, B, X', hpost, hsteps⟩ := hK m meth c ⟨T.setVm vm₁, locs, cells, slots⟩ { g with stack := rest } (.invokevirtual index) mk (Value.ref b :: argsL).toArray X₁ hg hsize hdg hW (X₁.named hnamed) (hpre vm₁ X₁.warmed)
  exact ⟨v, vm₁, B, X₁.warmed, X', hpost, fun target h => hstep₁ _ fun acts => by rw [doInvoke_state]; exact hsteps.trans h⟩
abbrev vx_CVW (R : Room) (s : State) (args : Array Value) (own C : String) (index : Nat) (y : MethodName) (bytes : ByteArray) (maxL : Nat) (ret : Option FieldType) (hh : List (Nat × Nat × Nat × Nat)) (ws : List Cond) (rm : Room) (mc ms n : Nat) : Prop :=
  (rm.cells = mc ∧ rm.slots = ms ∧ rm.frames + 1 ≤ R.frames ∧ 8 + (maxL + 11) + rm.locals ≤ R.locals ∧ (∀ w ∈ ws, ∀ (a' : Array Value) (U : State), s.WarmedH U.vm → w.before a' U = true) ∧ Cond.codeWith y bytes maxL ret hh ∈ ws) ∧
  (Cond.codeWith y bytes maxL ret hh).before args s = true ∧ (Cond.initialized y.cls).before args s = true ∧ (y.cls ≠ "java/lang/invoke/MethodHandle" ∧ y.cls ≠ "java/lang/invoke/VarHandle") ∧
  (∀ sig, parseMethodDescriptor y.desc = some sig → n = sig.parameters.length) ∧ (Cond.methodLink own index y).before args s = true ∧ (Cond.instanceMethod y).before args s = true ∧ (Cond.selects C y y).before args s = true
theorem vx_cwVW {own C : String} {index maxL mc ms : Nat} {y : MethodName} {bytes : ByteArray} {ret : Option FieldType} {hh : List (Nat × Nat × Nat × Nat)} {Ts ws ws' : List Cond} {rm : Room} (n : Nat) (ht : ∀ w ∈ Ts, w.before args s = true) (hT : GoodIn Ts (wsV own index C y ws)) (hw : ws = Cond.codeWith y bytes maxL ret hh :: ws') (hrc : rm.cells = mc) (hrs : rm.slots = ms)
    (hd : y.cls = C ∧ y.cls ≠ "java/lang/invoke/MethodHandle" ∧ y.cls ≠ "java/lang/invoke/VarHandle" ∧ (parseMethodDescriptor y.desc).map (fun d => d.parameters.length) = some n) (hR : rm.frames + 1 ≤ R.frames ∧ 8 + (maxL + 11) + rm.locals ≤ R.locals) :
    vx_CVW R s args own C index y bytes maxL ret hh ws rm mc ms n := by
  obtain ⟨hC, hd⟩ := hd
  subst hC
  have ok : ∀ w ∈ wsV own index y.cls y ws, w.before args s = true := fun w h => ht w (hT w h).1
  have hG : GoodIn Ts ws := fun w h => hT w (by unfold wsV; exact List.mem_append_right _ h)
  have hc : Cond.codeWith y bytes maxL ret hh ∈ ws := by rw [hw]; exact List.mem_cons_self
  refine ⟨⟨hrc, hrs, hR.1, hR.2, pay_in ht hG, hc⟩, ht _ (hG _ hc).1, ok _ (by simp [wsV]), ⟨hd.1, hd.2.1⟩, fun sig h => ?_, ok _ (by simp [wsV]), ok _ (by simp [wsV]), ok _ (by simp [wsV])⟩
  have h2 := hd.2.2
  rw [h] at h2
  exact (Option.some.inj h2).symm
theorem vx_runVW {y : MethodName} {bytes cc : ByteArray} {maxL nL mc ms n index : Nat} {ret : Option FieldType} {hh : List (Nat × Nat × Nat × Nat)} {ws : List Cond} {rm : Room} {Pc : Array Value → State → Prop} {Qc : Array Value → State → Outcome → State → Prop} {free : Addr → Prop} {Ts : List Cond} {own C : String} {b : Addr} {As rest : List Value} {g : JFrame}
    (S : CallFix p m c cc nL s args Ts own) (hM : Met l y ws rm Pc Qc mc ms free) (cw : vx_CVW R s args own C index y bytes maxL ret hh ws rm mc ms n) (hp : PreV s H C b Pc As)
    (hg : g.method = m) (hn : As.length = n) (hsize : g.locals.size = nL) (hstack : g.stack = As.reverse ++ .ref b :: rest) (hW : 2 * g.monitorRoom + (rest.map fun v => v.category).sum ≤ 8) (hdg : decode cc g.pc = .ok (.invokevirtual index, 3)) (hf : cells + mc ≤ R.cells ∧ slots + ms ≤ R.slots) :
    va_Run p l e R s m args below meth c H locs cells slots mc ms g rest (Qc (Value.ref b :: As).toArray) free := by
  obtain ⟨⟨hrc, hrs, hfr, hlo, hws, hcw⟩, hcode, hini, hy, hlen, hl, hin, hse⟩ := cw
  have hK : Back l R p e below s args y 3 8 (PreOf R mc ms Pc) (PostOf Qc mc ms free) := va_backW (hh := hh) (bytes := bytes) (maxL := maxL) (ret := ret) hM hp.1 hrc hrs hfr hlo hws hcw (fun a' U hW => word_at hW (Or.inl (by first | rfl | simp [Cond.onTables, Cond.keeps, Cond.steady])) hini)
  obtain ⟨hx, hb, hml, ho, -⟩ := S
  obtain ⟨-, ⟨cellB, hcB, hoB, hclB⟩, hPc⟩ := hp
  intro T hT X
  obtain ⟨v, vm₁, ⟨U', l2, c2, s2⟩, hW₁, X', ⟨g', mk, t, L, e1, e2, hq, h1, hL, h2, h3⟩, st⟩ := vx_callVW X hx (C := C) (hh := hh) (bytes := bytes) (maxL := maxL) (ret := ret) ho hl hin hse hcode hy hK (by rw [hT]; exact hcB) hoB hclB hg (hsize.trans hml.symm) (argsL := As) (rest := rest) (fun sig h => hn.trans (hlen sig h)) hstack hW (by rw [hb]; exact hdg)
    (fun vm₁ hW₁ => ⟨hf.1, hf.2, hPc (T.setVm vm₁) hT hW₁⟩)
  dsimp only [Pt.U, Pt.locs, Pt.cells, Pt.slots] at X' e1 e2 h1 h2 h3 st
  subst h1; subst h2; subst h3
  exact ⟨v, (T.setVm vm₁).calling g' mk (Value.ref b :: As).toArray, t, U', L, hT, X', hL, e1, e2, hq, st⟩
section
variable {y : MethodName} {bytes cc : ByteArray} {maxL nL mc ms n index : Nat} {ret : Option FieldType} {ws : List Cond} {rm : Room} {Pc : Array Value → State → Prop} {Qc : Array Value → State → Outcome → State → Prop} {XC : String → State → State → Prop} {free : Addr → Prop} {Ts : List Cond} {own C : String} {b : Addr} {As rest : List Value} {g : JFrame}
theorem vx_runVX {hh : List (Nat × Nat × Nat × Nat)} (S : CallFix p m c cc nL s args Ts own) (hM : vx_Met l y ws rm Pc Qc XC mc ms free) (cw : vx_CVW R s args own C index y bytes maxL ret hh ws rm mc ms n) (hp : PreV s H C b Pc As)
    (hg : g.method = m) (hn : As.length = n) (hsize : g.locals.size = nL) (hstack : g.stack = As.reverse ++ .ref b :: rest) (hW : 2 * g.monitorRoom + (rest.map fun v => v.category).sum ≤ 8) (hdg : decode cc g.pc = .ok (.invokevirtual index, 3)) (hf : cells + mc ≤ R.cells ∧ slots + ms ≤ R.slots) :
    vx_Run p l e R s m args below meth c H locs cells slots mc ms g rest (Qc (Value.ref b :: As).toArray) XC free := by
  obtain ⟨⟨hrc, hrs, hfr, hlo, hws, hcw⟩, hcode, hini, hy, hlen, hl, hin, hse⟩ := cw
  have hK : vx_Back l R p e below s args y 3 8 (PreOf R mc ms Pc) (PostOf Qc mc ms free) (vx_Post XC mc ms free) := vx_backW (hh := hh) (bytes := bytes) (maxL := maxL) (ret := ret) hM hp.1 hrc hrs hfr hlo hws hcw (fun a' U hW => word_at hW (Or.inl (by first | rfl | simp [Cond.onTables, Cond.keeps, Cond.steady])) hini)
  obtain ⟨hx, hb, hml, ho, -⟩ := S
  obtain ⟨-, ⟨cellB, hcB, hoB, hclB⟩, hPc⟩ := hp
  intro T hT X
  rcases vx_callVX X hx (C := C) (hh := hh) (bytes := bytes) (maxL := maxL) (ret := ret) ho hl hin hse hcode hy hK (by rw [hT]; exact hcB) hoB hclB hg (hsize.trans hml.symm) (argsL := As) (rest := rest) (fun sig h => hn.trans (hlen sig h)) hstack hW (by rw [hb]; exact hdg)
    (fun vm₁ hW₁ => ⟨hf.1, hf.2, hPc (T.setVm vm₁) hT hW₁⟩) with ⟨v, vm₁, ⟨U', l2, c2, s2⟩, hW₁, X', ⟨g', mk, t, L, e1, e2, hq, h1, hL, h2, h3⟩, st⟩ | ⟨q, vm₁, ⟨U', l2, c2, s2⟩, hW₁, X', ⟨g', mk, t, L, E, ce, e1, e2, hq, hce, hcv, hcl, h1, hL, h2, h3⟩, st⟩
  · dsimp only [Pt.U, Pt.locs, Pt.cells, Pt.slots] at X' e1 e2 h1 h2 h3 st
    subst h1; subst h2; subst h3
    exact Or.inl ⟨v, (T.setVm vm₁).calling g' mk (Value.ref b :: As).toArray, t, U', L, hT, X', hL, e1, e2, hq, st⟩
  · dsimp only [Pt.U, Pt.locs, Pt.cells, Pt.slots] at X' e1 e2 h1 h2 h3 st hcl
    subst h1; subst h2; subst h3
    exact Or.inr ⟨q, (T.setVm vm₁).calling g' mk (Value.ref b :: As).toArray, t, U', L, E, ce, hT, X', hL, e1, e2, hq, hce, hcv, vx_cls hW₁ hcl, st⟩
theorem vx_runSX {hh : List (Nat × Nat × Nat × Nat)} (S : CallFix p m c cc nL s args Ts own) (hM : vx_Met l y ws rm Pc Qc XC mc ms free) (cw : vx_CSW R s args own index y bytes maxL ret hh ws rm mc ms n) (hp : PreS s H Pc As)
    (hg : g.method = m) (hn : As.length = n) (hsize : g.locals.size = nL) (hstack : g.stack = As.reverse ++ rest) (hW : 2 * g.monitorRoom + (rest.map fun v => v.category).sum ≤ 8) (hdg : decode cc g.pc = .ok (.invokestatic index, 3)) (hf : cells + mc ≤ R.cells ∧ slots + ms ≤ R.slots) :
    vx_Run p l e R s m args below meth c H locs cells slots mc ms g rest (Qc As.toArray) XC free := by
  obtain ⟨⟨hrc, hrs, hfr, hlo, hws, hcw⟩, hcode, hini, hy, hlen, hl, hstt⟩ := cw
  have hK : vx_Back l R p e below s args y 3 8 (PreOf R mc ms Pc) (PostOf Qc mc ms free) (vx_Post XC mc ms free) := vx_backW (hh := hh) (bytes := bytes) (maxL := maxL) (ret := ret) hM hp.1 hrc hrs hfr hlo hws hcw (fun a' U hW => word_at hW (Or.inl (by first | rfl | simp [Cond.onTables, Cond.keeps, Cond.steady])) hini)
  obtain ⟨hx, hb, hml, ho, -⟩ := S
  intro T hT X
  rcases vx_callSX X hx (hh := hh) (bytes := bytes) (maxL := maxL) (ret := ret) ho hl hstt hini hcode hy hK hg (hsize.trans hml.symm) (argsL := As) (rest := rest) (fun sig h => hn.trans (hlen sig h)) hstack hW (by rw [hb]; exact hdg)
    (fun vm₁ hW₁ => ⟨hf.1, hf.2, hp.2 (T.setVm vm₁) hT hW₁⟩) with ⟨v, vm₁, ⟨U', l2, c2, s2⟩, hW₁, X', ⟨g', mk, t, L, e1, e2, hq, h1, hL, h2, h3⟩, st⟩ | ⟨q, vm₁, ⟨U', l2, c2, s2⟩, hW₁, X', ⟨g', mk, t, L, E, ce, e1, e2, hq, hce, hcv, hcl, h1, hL, h2, h3⟩, st⟩
  · dsimp only [Pt.U, Pt.locs, Pt.cells, Pt.slots] at X' e1 e2 h1 h2 h3 st
    subst h1; subst h2; subst h3
    exact Or.inl ⟨v, (T.setVm vm₁).calling g' mk As.toArray, t, U', L, hT, X', hL, e1, e2, hq, st⟩
  · dsimp only [Pt.U, Pt.locs, Pt.cells, Pt.slots] at X' e1 e2 h1 h2 h3 st hcl
    subst h1; subst h2; subst h3
    exact Or.inr ⟨q, (T.setVm vm₁).calling g' mk As.toArray, t, U', L, E, ce, hT, X', hL, e1, e2, hq, hce, hcv, vx_cls hW₁ hcl, st⟩
end
end VXH
theorem vx_ofWH {l : Launch} {y : MethodName} {ws ws' : List Cond} {rm : Room} {Pc : Array Value → State → Prop} {Qc : Array Value → State → Outcome → State → Prop} {XC : String → State → State → Prop} {mc ms : Nat} {free : Addr → Prop} {cc : ByteArray} {maxL : Nat} {ret : Option FieldType} {hh : List (Nat × Nat × Nat × Nat)}
    (hy : plainName y.cls = true) (hw : ws = Cond.codeWith y cc maxL ret hh :: ws')
    (body : ∀ p e s m args below meth c s₁, BodyLoose p l y (headSpec ws rm) cc maxL ret e s m args below meth c s₁ → c.maxLocals = maxL → Pc args s →
      W p l e (headSpec ws rm).room s m args below meth c s.heap [] 0 0 (vx_MQ below Qc XC args s mc ms free) (entryFrame m args maxL)) : vx_Met l y ws rm Pc Qc XC mc ms free := by
  refine MetFree.of_bodyS (code := cc) (maxLocals := maxL) (ret := ret) hy ?_ ?_
  · intro args s m h hn
    obtain ⟨m9, meth, c, hn9, h1, h2, h3, h4, -, h5, h6, -⟩ := Cond.codeWith_spec (atoms_spec (ws := ws) h _ (by rw [hw]; exact List.mem_cons_self))
    cases hn.symm.trans hn9
    exact ⟨meth, c, h1, h2, h3, h4, h5, h6⟩
  · intro p e s m args below meth c s₁ B hml hP _
    have hh0 : s₁.heap = s.heap := by rw [B.state]; rfl
    obtain ⟨t, a1, o, b1, b2, b3⟩ := body p e s m args below meth c s₁ B hml hP s₁ hh0 (Stand.of_body B)
    exact ⟨t, o, a1, b1, b2, b3⟩
/-! ===== END ===== -/
end
section
-- ===== PART A: goes FIRST, ahead of the names: the tables' words, and 'selects' of the private methods out of them =====
/-- a private method of a class that the tables say can be made, by its rows of tables_1 -/
def lw_okq (q : MethodName × Nat) : Prop := (q.1.cls ≠ "java/lang/invoke/MethodHandle" ∧ q.1.cls ≠ "java/lang/invoke/VarHandle") ∧ Cond.instantiable q.1.cls q.2 ∈ tables_1 ∧ Cond.privateMethod q.1 ∈ tables_1 ∧ Cond.instanceMethod q.1 ∈ tables_1
theorem lw_p0 : lw_okq (⟨"java/lang/Throwable", "fillInStackTrace", "(I)Ljava/lang/Throwable;"⟩, 6) := ⟨⟨by decide +kernel, by decide +kernel⟩, List.mem_of_getElem? (i := 178) (by decide +kernel), List.mem_of_getElem? (i := 176) (by decide +kernel), List.mem_of_getElem? (i := 177) (by decide +kernel)⟩
theorem lw_p1 : lw_okq (⟨"NumberLeases$Pool", "startOfSpan", "(I)I"⟩, 16) := ⟨⟨by decide +kernel, by decide +kernel⟩, List.mem_of_getElem? (i := 22) (by decide +kernel), List.mem_of_getElem? (i := 210) (by decide +kernel), List.mem_of_getElem? (i := 211) (by decide +kernel)⟩
theorem lw_p2 : lw_okq (⟨"NumberLeases$Pool", "startsSpan", "(I)Z"⟩, 16) := ⟨⟨by decide +kernel, by decide +kernel⟩, List.mem_of_getElem? (i := 22) (by decide +kernel), List.mem_of_getElem? (i := 214) (by decide +kernel), List.mem_of_getElem? (i := 215) (by decide +kernel)⟩
theorem lw_p3 : lw_okq (⟨"NumberLeases$Pool", "rowFrom", "(I)I"⟩, 16) := ⟨⟨by decide +kernel, by decide +kernel⟩, List.mem_of_getElem? (i := 22) (by decide +kernel), List.mem_of_getElem? (i := 218) (by decide +kernel), List.mem_of_getElem? (i := 219) (by decide +kernel)⟩
theorem lw_p4 : lw_okq (⟨"NumberLeases", "countOf", "(I)I"⟩, 4) := ⟨⟨by decide +kernel, by decide +kernel⟩, List.mem_of_getElem? (i := 14) (by decide +kernel), List.mem_of_getElem? (i := 226) (by decide +kernel), List.mem_of_getElem? (i := 227) (by decide +kernel)⟩
theorem lw_p5 : lw_okq (⟨"NumberLeases$Pool", "numbersIn", "(I)I"⟩, 16) := ⟨⟨by decide +kernel, by decide +kernel⟩, List.mem_of_getElem? (i := 22) (by decide +kernel), List.mem_of_getElem? (i := 238) (by decide +kernel), List.mem_of_getElem? (i := 239) (by decide +kernel)⟩
theorem lw_p6 : lw_okq (⟨"NumberLeases$Pool", "stateOf", "(I)I"⟩, 16) := ⟨⟨by decide +kernel, by decide +kernel⟩, List.mem_of_getElem? (i := 22) (by decide +kernel), List.mem_of_getElem? (i := 242) (by decide +kernel), List.mem_of_getElem? (i := 243) (by decide +kernel)⟩
theorem lw_p7 : lw_okq (⟨"NumberLeases", "leaseLowest", "(III)I"⟩, 4) := ⟨⟨by decide +kernel, by decide +kernel⟩, List.mem_of_getElem? (i := 14) (by decide +kernel), List.mem_of_getElem? (i := 276) (by decide +kernel), List.mem_of_getElem? (i := 277) (by decide +kernel)⟩
theorem lw_p8 : lw_okq (⟨"NumberLeases$Pool", "hasRoom", "(II)Z"⟩, 16) := ⟨⟨by decide +kernel, by decide +kernel⟩, List.mem_of_getElem? (i := 22) (by decide +kernel), List.mem_of_getElem? (i := 302) (by decide +kernel), List.mem_of_getElem? (i := 303) (by decide +kernel)⟩
theorem lw_p9 : lw_okq (⟨"NumberLeases$Pool", "numbersOf", "(I)I"⟩, 16) := ⟨⟨by decide +kernel, by decide +kernel⟩, List.mem_of_getElem? (i := 22) (by decide +kernel), List.mem_of_getElem? (i := 306) (by decide +kernel), List.mem_of_getElem? (i := 307) (by decide +kernel)⟩
theorem lw_p10 : lw_okq (⟨"NumberLeases$Pool", "lowestRow", "(I)I"⟩, 16) := ⟨⟨by decide +kernel, by decide +kernel⟩, List.mem_of_getElem? (i := 22) (by decide +kernel), List.mem_of_getElem? (i := 310) (by decide +kernel), List.mem_of_getElem? (i := 311) (by decide +kernel)⟩
theorem lw_p11 : lw_okq (⟨"NumberLeases$Saves", "dropOldest", "()V"⟩, 2) := ⟨⟨by decide +kernel, by decide +kernel⟩, List.mem_of_getElem? (i := 82) (by decide +kernel), List.mem_of_getElem? (i := 336) (by decide +kernel), List.mem_of_getElem? (i := 337) (by decide +kernel)⟩
theorem lw_p12 : lw_okq (⟨"NumberLeases$Pool", "lease", "(III)V"⟩, 16) := ⟨⟨by decide +kernel, by decide +kernel⟩, List.mem_of_getElem? (i := 22) (by decide +kernel), List.mem_of_getElem? (i := 357) (by decide +kernel), List.mem_of_getElem? (i := 358) (by decide +kernel)⟩
theorem lw_p13 : lw_okq (⟨"NumberLeases", "needNumber", "(I)V"⟩, 4) := ⟨⟨by decide +kernel, by decide +kernel⟩, List.mem_of_getElem? (i := 14) (by decide +kernel), List.mem_of_getElem? (i := 402) (by decide +kernel), List.mem_of_getElem? (i := 403) (by decide +kernel)⟩
theorem lw_p14 : lw_okq (⟨"NumberLeases$Pool", "free", "(I)V"⟩, 16) := ⟨⟨by decide +kernel, by decide +kernel⟩, List.mem_of_getElem? (i := 22) (by decide +kernel), List.mem_of_getElem? (i := 445) (by decide +kernel), List.mem_of_getElem? (i := 446) (by decide +kernel)⟩
theorem lw_p15 : lw_okq (⟨"NumberLeases$Pool", "countUnits", "()V"⟩, 16) := ⟨⟨by decide +kernel, by decide +kernel⟩, List.mem_of_getElem? (i := 22) (by decide +kernel), List.mem_of_getElem? (i := 474) (by decide +kernel), List.mem_of_getElem? (i := 475) (by decide +kernel)⟩
def lw_privs_1 : List (MethodName × Nat) := [(⟨"java/lang/Throwable", "fillInStackTrace", "(I)Ljava/lang/Throwable;"⟩, 6), (⟨"NumberLeases$Pool", "startOfSpan", "(I)I"⟩, 16), (⟨"NumberLeases$Pool", "startsSpan", "(I)Z"⟩, 16), (⟨"NumberLeases$Pool", "rowFrom", "(I)I"⟩, 16), (⟨"NumberLeases", "countOf", "(I)I"⟩, 4), (⟨"NumberLeases$Pool", "numbersIn", "(I)I"⟩, 16), (⟨"NumberLeases$Pool", "stateOf", "(I)I"⟩, 16), (⟨"NumberLeases", "leaseLowest", "(III)I"⟩, 4), (⟨"NumberLeases$Pool", "hasRoom", "(II)Z"⟩, 16), (⟨"NumberLeases$Pool", "numbersOf", "(I)I"⟩, 16), (⟨"NumberLeases$Pool", "lowestRow", "(I)I"⟩, 16), (⟨"NumberLeases$Saves", "dropOldest", "()V"⟩, 2), (⟨"NumberLeases$Pool", "lease", "(III)V"⟩, 16), (⟨"NumberLeases", "needNumber", "(I)V"⟩, 4), (⟨"NumberLeases$Pool", "free", "(I)V"⟩, 16), (⟨"NumberLeases$Pool", "countUnits", "()V"⟩, 16)]
theorem lw_r1 : ∀ q ∈ lw_privs_1, lw_okq q := List.forall_mem_cons.mpr ⟨lw_p0, List.forall_mem_cons.mpr ⟨lw_p1, List.forall_mem_cons.mpr ⟨lw_p2, List.forall_mem_cons.mpr ⟨lw_p3, List.forall_mem_cons.mpr ⟨lw_p4, List.forall_mem_cons.mpr ⟨lw_p5, List.forall_mem_cons.mpr ⟨lw_p6, List.forall_mem_cons.mpr ⟨lw_p7, List.forall_mem_cons.mpr ⟨lw_p8, List.forall_mem_cons.mpr ⟨lw_p9, List.forall_mem_cons.mpr ⟨lw_p10, List.forall_mem_cons.mpr ⟨lw_p11, List.forall_mem_cons.mpr ⟨lw_p12, List.forall_mem_cons.mpr ⟨lw_p13, List.forall_mem_cons.mpr ⟨lw_p14, List.forall_mem_cons.mpr ⟨lw_p15, fun _ h => absurd h List.not_mem_nil⟩⟩⟩⟩⟩⟩⟩⟩⟩⟩⟩⟩⟩⟩⟩⟩
theorem lw_p16 : lw_okq (⟨"NumberLeases$Pool", "freeDue", "()V"⟩, 16) := ⟨⟨by decide +kernel, by decide +kernel⟩, List.mem_of_getElem? (i := 22) (by decide +kernel), List.mem_of_getElem? (i := 478) (by decide +kernel), List.mem_of_getElem? (i := 479) (by decide +kernel)⟩
theorem lw_p17 : lw_okq (⟨"NumberLeases", "holderAfter", "(II)I"⟩, 4) := ⟨⟨by decide +kernel, by decide +kernel⟩, List.mem_of_getElem? (i := 14) (by decide +kernel), List.mem_of_getElem? (i := 508) (by decide +kernel), List.mem_of_getElem? (i := 509) (by decide +kernel)⟩
theorem lw_p18 : lw_okq (⟨"NumberLeases", "timeToWished", "(II)I"⟩, 4) := ⟨⟨by decide +kernel, by decide +kernel⟩, List.mem_of_getElem? (i := 14) (by decide +kernel), List.mem_of_getElem? (i := 521) (by decide +kernel), List.mem_of_getElem? (i := 522) (by decide +kernel)⟩
theorem lw_p19 : lw_okq (⟨"NumberLeases$Pool", "numbersOfIn", "(II)I"⟩, 16) := ⟨⟨by decide +kernel, by decide +kernel⟩, List.mem_of_getElem? (i := 22) (by decide +kernel), List.mem_of_getElem? (i := 536) (by decide +kernel), List.mem_of_getElem? (i := 537) (by decide +kernel)⟩
theorem lw_p20 : lw_okq (⟨"NumberLeases$Pool", "wishesOf", "(I)I"⟩, 16) := ⟨⟨by decide +kernel, by decide +kernel⟩, List.mem_of_getElem? (i := 22) (by decide +kernel), List.mem_of_getElem? (i := 540) (by decide +kernel), List.mem_of_getElem? (i := 541) (by decide +kernel)⟩
theorem lw_p21 : lw_okq (⟨"NumberLeases$Pool", "leastOf", "(I)I"⟩, 16) := ⟨⟨by decide +kernel, by decide +kernel⟩, List.mem_of_getElem? (i := 22) (by decide +kernel), List.mem_of_getElem? (i := 544) (by decide +kernel), List.mem_of_getElem? (i := 545) (by decide +kernel)⟩
theorem lw_p22 : lw_okq (⟨"NumberLeases$Pool", "leastEndOf", "(I)I"⟩, 16) := ⟨⟨by decide +kernel, by decide +kernel⟩, List.mem_of_getElem? (i := 22) (by decide +kernel), List.mem_of_getElem? (i := 548) (by decide +kernel), List.mem_of_getElem? (i := 549) (by decide +kernel)⟩
theorem lw_p23 : lw_okq (⟨"NumberLeases", "timeToFree", "(I)I"⟩, 4) := ⟨⟨by decide +kernel, by decide +kernel⟩, List.mem_of_getElem? (i := 14) (by decide +kernel), List.mem_of_getElem? (i := 559) (by decide +kernel), List.mem_of_getElem? (i := 560) (by decide +kernel)⟩
def lw_privs_2 : List (MethodName × Nat) := [(⟨"NumberLeases$Pool", "freeDue", "()V"⟩, 16), (⟨"NumberLeases", "holderAfter", "(II)I"⟩, 4), (⟨"NumberLeases", "timeToWished", "(II)I"⟩, 4), (⟨"NumberLeases$Pool", "numbersOfIn", "(II)I"⟩, 16), (⟨"NumberLeases$Pool", "wishesOf", "(I)I"⟩, 16), (⟨"NumberLeases$Pool", "leastOf", "(I)I"⟩, 16), (⟨"NumberLeases$Pool", "leastEndOf", "(I)I"⟩, 16), (⟨"NumberLeases", "timeToFree", "(I)I"⟩, 4)]
theorem lw_r2 : ∀ q ∈ lw_privs_2, lw_okq q := List.forall_mem_cons.mpr ⟨lw_p16, List.forall_mem_cons.mpr ⟨lw_p17, List.forall_mem_cons.mpr ⟨lw_p18, List.forall_mem_cons.mpr ⟨lw_p19, List.forall_mem_cons.mpr ⟨lw_p20, List.forall_mem_cons.mpr ⟨lw_p21, List.forall_mem_cons.mpr ⟨lw_p22, List.forall_mem_cons.mpr ⟨lw_p23, fun _ h => absurd h List.not_mem_nil⟩⟩⟩⟩⟩⟩⟩⟩
def lw_privs : List (MethodName × Nat) := lw_privs_1 ++ (lw_privs_2)
def lw_tbl : List Cond := k2_sels lw_privs ++ tables_1
theorem lw_privs_ok : ∀ q ∈ lw_privs, lw_okq q := by
  show ∀ q ∈ lw_privs_1 ++ (lw_privs_2), lw_okq q
  exact List.forall_mem_append.mpr ⟨lw_r1, lw_r2⟩

def RX0 : String := "NumberLeases$Bits"
def TX0 : u_T := fun k => match k with
  | _ => ("", "", "", false)
def tyX0 : Nat → FieldType := fun k => match k with
  | _ => .int
abbrev wsX00 : List Cond := u_ws RX0 TX0 0
theorem nmX0 : ∀ a, a < 0 → ∀ b, b < 0 → a ≠ b → (TX0 a).2.1 ≠ (TX0 b).2.1 := by decide +kernel
theorem tyX0_ok : ∀ k, k < 0 → parseFieldDescriptor (TX0 k).2.2.1 = some (tyX0 k) := by decide +kernel
def RX1 : String := "NumberLeases$Orders"
def TX1 : u_T := fun k => match k with
  | 0 => ("NumberLeases$Orders", "signs", "[I", true)
  | 1 => ("NumberLeases$Orders", "length", "I", false)
  | 2 => ("NumberLeases$Orders", "at", "I", false)
  | 3 => ("NumberLeases$Orders", "stopped", "Z", false)
  | 4 => ("NumberLeases$Orders", "kind", "I", false)
  | 5 => ("NumberLeases$Orders", "holder", "I", false)
  | 6 => ("NumberLeases$Orders", "first", "I", false)
  | _ => ("NumberLeases$Orders", "second", "I", false)
def tyX1 : Nat → FieldType := fun k => match k with
  | 0 => .array .int
  | 1 => .int
  | 2 => .int
  | 3 => .boolean
  | 4 => .int
  | 5 => .int
  | 6 => .int
  | _ => .int
abbrev wsX10 : List Cond := u_ws RX1 TX1 8
theorem nmX1 : ∀ a, a < 8 → ∀ b, b < 8 → a ≠ b → (TX1 a).2.1 ≠ (TX1 b).2.1 := by decide +kernel
theorem tyX1_ok : ∀ k, k < 8 → parseFieldDescriptor (TX1 k).2.2.1 = some (tyX1 k) := by decide +kernel
abbrev cX1_init : ByteArray := prog_3_method_1_code
def yX1_init : MethodName := ⟨RX1, "<init>", "()V"⟩
def RX2 : String := "NumberLeases$Pool"
def TX2 : u_T := fun k => match k with
  | 0 => ("NumberLeases$Pool", "time", "I", false)
  | 1 => ("NumberLeases$Pool", "renewals", "I", false)
  | 2 => ("NumberLeases$Pool", "graceRenewals", "I", false)
  | 3 => ("NumberLeases$Pool", "freed", "I", false)
  | 4 => ("NumberLeases$Pool", "settings", "[I", true)
  | 5 => ("NumberLeases$Pool", "whose", "[I", true)
  | 6 => ("NumberLeases$Pool", "begin", "[I", true)
  | 7 => ("NumberLeases$Pool", "end", "[I", true)
  | 8 => ("NumberLeases$Pool", "last", "[I", true)
  | 9 => ("NumberLeases$Pool", "given", "[I", true)
  | 10 => ("NumberLeases$Pool", "waiting", "[I", true)
  | 11 => ("NumberLeases$Pool", "wishers", "[I", true)
  | 12 => ("NumberLeases$Pool", "wishTerms", "[I", true)
  | 13 => ("NumberLeases$Pool", "leases", "[I", true)
  | 14 => ("NumberLeases$Pool", "lost", "[I", true)
  | _ => ("NumberLeases$Pool", "units", "[I", true)
def tyX2 : Nat → FieldType := fun k => match k with
  | 0 => .int
  | 1 => .int
  | 2 => .int
  | 3 => .int
  | 4 => .array .int
  | 5 => .array .int
  | 6 => .array .int
  | 7 => .array .int
  | 8 => .array .int
  | 9 => .array .int
  | 10 => .array .int
  | 11 => .array .int
  | 12 => .array .int
  | 13 => .array .int
  | 14 => .array .int
  | _ => .array .int
abbrev wsX20 : List Cond := u_ws RX2 TX2 16
theorem nmX2 : ∀ a, a < 16 → ∀ b, b < 16 → a ≠ b → (TX2 a).2.1 ≠ (TX2 b).2.1 := by decide +kernel
theorem tyX2_ok : ∀ k, k < 16 → parseFieldDescriptor (TX2 k).2.2.1 = some (tyX2 k) := by decide +kernel
abbrev cX2_init : ByteArray := prog_4_method_1_code
def yX2_init : MethodName := ⟨RX2, "<init>", "()V"⟩
abbrev cX2_copyFrom : ByteArray := prog_4_method_2_code
def yX2_copyFrom : MethodName := ⟨RX2, "copyFrom", "(LNumberLeases$Pool;)V"⟩
abbrev cX2_copyRow : ByteArray := prog_4_method_3_code
def yX2_copyRow : MethodName := ⟨RX2, "copyRow", "([I[I)V"⟩
abbrev cX2_hasNumber : ByteArray := prog_4_method_4_code
def yX2_hasNumber : MethodName := ⟨RX2, "hasNumber", "(I)Z"⟩
abbrev cX2_mayLease : ByteArray := prog_4_method_5_code
def yX2_mayLease : MethodName := ⟨RX2, "mayLease", "(II)Z"⟩
abbrev cX2_mayWish : ByteArray := prog_4_method_6_code
def yX2_mayWish : MethodName := ⟨RX2, "mayWish", "(II)Z"⟩
abbrev cX2_mayRenew : ByteArray := prog_4_method_7_code
def yX2_mayRenew : MethodName := ⟨RX2, "mayRenew", "(II)Z"⟩
abbrev cX2_hasTimeFor : ByteArray := prog_4_method_8_code
def yX2_hasTimeFor : MethodName := ⟨RX2, "hasTimeFor", "(I)Z"⟩
abbrev cX2_fitsIn : ByteArray := prog_4_method_9_code
def yX2_fitsIn : MethodName := ⟨RX2, "fitsIn", "(I)Z"⟩
abbrev cX2_hasRoom : ByteArray := prog_4_method_10_code
def yX2_hasRoom : MethodName := ⟨RX2, "hasRoom", "(II)Z"⟩
abbrev cX2_leaseRow : ByteArray := prog_4_method_11_code
def yX2_leaseRow : MethodName := ⟨RX2, "leaseRow", "(III)I"⟩
abbrev cX2_lease : ByteArray := prog_4_method_12_code
def yX2_lease : MethodName := ⟨RX2, "lease", "(III)V"⟩
abbrev cX2_prolong : ByteArray := prog_4_method_13_code
def yX2_prolong : MethodName := ⟨RX2, "prolong", "(II)I"⟩
abbrev cX2_freeSpan : ByteArray := prog_4_method_14_code
def yX2_freeSpan : MethodName := ⟨RX2, "freeSpan", "(III)I"⟩
abbrev cX2_free : ByteArray := prog_4_method_15_code
def yX2_free : MethodName := ⟨RX2, "free", "(I)V"⟩
abbrev cX2_addWish : ByteArray := prog_4_method_16_code
def yX2_addWish : MethodName := ⟨RX2, "addWish", "(III)I"⟩
abbrev cX2_placeOfWish : ByteArray := prog_4_method_17_code
def yX2_placeOfWish : MethodName := ⟨RX2, "placeOfWish", "(II)I"⟩
abbrev cX2_dropWish : ByteArray := prog_4_method_18_code
def yX2_dropWish : MethodName := ⟨RX2, "dropWish", "(II)V"⟩
abbrev cX2_passUnits : ByteArray := prog_4_method_19_code
def yX2_passUnits : MethodName := ⟨RX2, "passUnits", "(I)I"⟩
abbrev cX2_leap : ByteArray := prog_4_method_20_code
def yX2_leap : MethodName := ⟨RX2, "leap", "(I)Z"⟩
abbrev cX2_countUnits : ByteArray := prog_4_method_21_code
def yX2_countUnits : MethodName := ⟨RX2, "countUnits", "()V"⟩
abbrev cX2_freeDue : ByteArray := prog_4_method_22_code
def yX2_freeDue : MethodName := ⟨RX2, "freeDue", "()V"⟩
abbrev cX2_stateOf : ByteArray := prog_4_method_23_code
def yX2_stateOf : MethodName := ⟨RX2, "stateOf", "(I)I"⟩
abbrev cX2_ofNumber : ByteArray := prog_4_method_24_code
def yX2_ofNumber : MethodName := ⟨RX2, "ofNumber", "(II)I"⟩
abbrev cX2_ofHolder : ByteArray := prog_4_method_25_code
def yX2_ofHolder : MethodName := ⟨RX2, "ofHolder", "(II)I"⟩
abbrev cX2_ofSpan : ByteArray := prog_4_method_26_code
def yX2_ofSpan : MethodName := ⟨RX2, "ofSpan", "(II)I"⟩
abbrev cX2_ofAll : ByteArray := prog_4_method_27_code
def yX2_ofAll : MethodName := ⟨RX2, "ofAll", "(I)I"⟩
abbrev cX2_freeNumbers : ByteArray := prog_4_method_28_code
def yX2_freeNumbers : MethodName := ⟨RX2, "freeNumbers", "()I"⟩
abbrev cX2_numbersIn : ByteArray := prog_4_method_29_code
def yX2_numbersIn : MethodName := ⟨RX2, "numbersIn", "(I)I"⟩
abbrev cX2_numbersOf : ByteArray := prog_4_method_30_code
def yX2_numbersOf : MethodName := ⟨RX2, "numbersOf", "(I)I"⟩
abbrev cX2_numbersOfIn : ByteArray := prog_4_method_31_code
def yX2_numbersOfIn : MethodName := ⟨RX2, "numbersOfIn", "(II)I"⟩
abbrev cX2_wishesOf : ByteArray := prog_4_method_32_code
def yX2_wishesOf : MethodName := ⟨RX2, "wishesOf", "(I)I"⟩
abbrev cX2_leastOf : ByteArray := prog_4_method_33_code
def yX2_leastOf : MethodName := ⟨RX2, "leastOf", "(I)I"⟩
abbrev cX2_leastEndOf : ByteArray := prog_4_method_34_code
def yX2_leastEndOf : MethodName := ⟨RX2, "leastEndOf", "(I)I"⟩
abbrev cX2_rowFrom : ByteArray := prog_4_method_35_code
def yX2_rowFrom : MethodName := ⟨RX2, "rowFrom", "(I)I"⟩
abbrev cX2_lowestRow : ByteArray := prog_4_method_36_code
def yX2_lowestRow : MethodName := ⟨RX2, "lowestRow", "(I)I"⟩
abbrev cX2_longestRow : ByteArray := prog_4_method_37_code
def yX2_longestRow : MethodName := ⟨RX2, "longestRow", "()I"⟩
abbrev cX2_spans : ByteArray := prog_4_method_38_code
def yX2_spans : MethodName := ⟨RX2, "spans", "()I"⟩
abbrev cX2_startOfSpan : ByteArray := prog_4_method_39_code
def yX2_startOfSpan : MethodName := ⟨RX2, "startOfSpan", "(I)I"⟩
abbrev cX2_startsSpan : ByteArray := prog_4_method_40_code
def yX2_startsSpan : MethodName := ⟨RX2, "startsSpan", "(I)Z"⟩
def RX3 : String := "NumberLeases$Saves"
def TX3 : u_T := fun k => match k with
  | 0 => ("NumberLeases$Saves", "kept", "[LNumberLeases$Pool;", true)
  | _ => ("NumberLeases$Saves", "many", "I", false)
def tyX3 : Nat → FieldType := fun k => match k with
  | 0 => .array (.object "NumberLeases$Pool")
  | _ => .int
abbrev wsX30 : List Cond := u_ws RX3 TX3 2
theorem nmX3 : ∀ a, a < 2 → ∀ b, b < 2 → a ≠ b → (TX3 a).2.1 ≠ (TX3 b).2.1 := by decide +kernel
theorem tyX3_ok : ∀ k, k < 2 → parseFieldDescriptor (TX3 k).2.2.1 = some (tyX3 k) := by decide +kernel
abbrev cX3_init : ByteArray := prog_5_method_1_code
def yX3_init : MethodName := ⟨RX3, "<init>", "()V"⟩
abbrev cX3_keep : ByteArray := prog_5_method_2_code
def yX3_keep : MethodName := ⟨RX3, "keep", "(LNumberLeases$Pool;)V"⟩
abbrev cX3_restore : ByteArray := prog_5_method_3_code
def yX3_restore : MethodName := ⟨RX3, "restore", "(LNumberLeases$Pool;)V"⟩
abbrev cX3_dropOldest : ByteArray := prog_5_method_4_code
def yX3_dropOldest : MethodName := ⟨RX3, "dropOldest", "()V"⟩
def RX4 : String := "NumberLeases"
def TX4 : u_T := fun k => match k with
  | 0 => ("NumberLeases", "pool", "LNumberLeases$Pool;", true)
  | 1 => ("NumberLeases", "ahead", "LNumberLeases$Pool;", true)
  | 2 => ("NumberLeases", "saves", "LNumberLeases$Saves;", true)
  | _ => ("NumberLeases", "orders", "LNumberLeases$Orders;", true)
def tyX4 : Nat → FieldType := fun k => match k with
  | 0 => .object "NumberLeases$Pool"
  | 1 => .object "NumberLeases$Pool"
  | 2 => .object "NumberLeases$Saves"
  | _ => .object "NumberLeases$Orders"
abbrev wsX40 : List Cond := u_ws RX4 TX4 4
theorem nmX4 : ∀ a, a < 4 → ∀ b, b < 4 → a ≠ b → (TX4 a).2.1 ≠ (TX4 b).2.1 := by decide +kernel
theorem tyX4_ok : ∀ k, k < 4 → parseFieldDescriptor (TX4 k).2.2.1 = some (tyX4 k) := by decide +kernel
abbrev cX4_init : ByteArray := prog_1_method_1_code
def yX4_init : MethodName := ⟨RX4, "<init>", "()V"⟩
abbrev cX4_take : ByteArray := prog_1_method_2_code
def yX4_take : MethodName := ⟨RX4, "take", "(II)I"⟩
abbrev cX4_takeSpan : ByteArray := prog_1_method_3_code
def yX4_takeSpan : MethodName := ⟨RX4, "takeSpan", "(III)I"⟩
abbrev cX4_wish : ByteArray := prog_1_method_4_code
def yX4_wish : MethodName := ⟨RX4, "wish", "(III)I"⟩
abbrev cX4_unwish : ByteArray := prog_1_method_5_code
def yX4_unwish : MethodName := ⟨RX4, "unwish", "(II)I"⟩
abbrev cX4_renew : ByteArray := prog_1_method_6_code
def yX4_renew : MethodName := ⟨RX4, "renew", "(III)I"⟩
abbrev cX4_giveBack : ByteArray := prog_1_method_7_code
def yX4_giveBack : MethodName := ⟨RX4, "giveBack", "(III)I"⟩
abbrev cX4_pass : ByteArray := prog_1_method_8_code
def yX4_pass : MethodName := ⟨RX4, "pass", "(I)I"⟩
abbrev cX4_set : ByteArray := prog_1_method_9_code
def yX4_set : MethodName := ⟨RX4, "set", "(II)I"⟩
abbrev cX4_undo : ByteArray := prog_1_method_14_code
def yX4_undo : MethodName := ⟨RX4, "undo", "()I"⟩
abbrev cX4_number : ByteArray := prog_1_method_15_code
def yX4_number : MethodName := ⟨RX4, "number", "(II)I"⟩
abbrev cX4_holder : ByteArray := prog_1_method_16_code
def yX4_holder : MethodName := ⟨RX4, "holder", "(II)I"⟩
abbrev cX4_span : ByteArray := prog_1_method_17_code
def yX4_span : MethodName := ⟨RX4, "span", "(II)I"⟩
abbrev cX4_count : ByteArray := prog_1_method_18_code
def yX4_count : MethodName := ⟨RX4, "count", "(I)I"⟩
abbrev cX4_setting : ByteArray := prog_1_method_19_code
def yX4_setting : MethodName := ⟨RX4, "setting", "(I)I"⟩
abbrev cX4_whoAfter : ByteArray := prog_1_method_20_code
def yX4_whoAfter : MethodName := ⟨RX4, "whoAfter", "(II)I"⟩
abbrev cX4_freeIn : ByteArray := prog_1_method_21_code
def yX4_freeIn : MethodName := ⟨RX4, "freeIn", "(I)I"⟩
abbrev cX4_wishedIn : ByteArray := prog_1_method_22_code
def yX4_wishedIn : MethodName := ⟨RX4, "wishedIn", "(II)I"⟩
abbrev cX4_needHolder : ByteArray := prog_1_method_27_code
def yX4_needHolder : MethodName := ⟨RX4, "needHolder", "(I)V"⟩
abbrev cX4_needNumber : ByteArray := prog_1_method_28_code
def yX4_needNumber : MethodName := ⟨RX4, "needNumber", "(I)V"⟩
abbrev cX4_needSetting : ByteArray := prog_1_method_29_code
def yX4_needSetting : MethodName := ⟨RX4, "needSetting", "(I)V"⟩
abbrev cX4_needRange : ByteArray := prog_1_method_30_code
def yX4_needRange : MethodName := ⟨RX4, "needRange", "(III)V"⟩
abbrev cX4_needState : ByteArray := prog_1_method_31_code
def yX4_needState : MethodName := ⟨RX4, "needState", "(Z)V"⟩
abbrev cX4_leaseLowest : ByteArray := prog_1_method_32_code
def yX4_leaseLowest : MethodName := ⟨RX4, "leaseLowest", "(III)I"⟩
abbrev cX4_countOf : ByteArray := prog_1_method_34_code
def yX4_countOf : MethodName := ⟨RX4, "countOf", "(I)I"⟩
abbrev cX4_holderAfter : ByteArray := prog_1_method_35_code
def yX4_holderAfter : MethodName := ⟨RX4, "holderAfter", "(II)I"⟩
abbrev cX4_timeToFree : ByteArray := prog_1_method_36_code
def yX4_timeToFree : MethodName := ⟨RX4, "timeToFree", "(I)I"⟩
abbrev cX4_timeToWished : ByteArray := prog_1_method_37_code
def yX4_timeToWished : MethodName := ⟨RX4, "timeToWished", "(II)I"⟩
abbrev cX4_sum : ByteArray := prog_1_method_45_code
def yX4_sum : MethodName := ⟨RX4, "sum", "([I)I"⟩
def RX5 : String := "NumberLeasesModel"
def TX5 : u_T := fun k => match k with
  | _ => ("", "", "", false)
def tyX5 : Nat → FieldType := fun k => match k with
  | _ => .int
abbrev wsX50 : List Cond := u_ws RX5 TX5 0
theorem nmX5 : ∀ a, a < 0 → ∀ b, b < 0 → a ≠ b → (TX5 a).2.1 ≠ (TX5 b).2.1 := by decide +kernel
theorem tyX5_ok : ∀ k, k < 0 → parseFieldDescriptor (TX5 k).2.2.1 = some (tyX5 k) := by decide +kernel
def RJ9 : String := "java/lang/Math"
def TJ9 : u_T := fun k => match k with
  | _ => ("", "", "", false)
def tyJ9 : Nat → FieldType := fun k => match k with
  | _ => .int
abbrev wsJ90 : List Cond := u_ws RJ9 TJ9 0
theorem nmJ9 : ∀ a, a < 0 → ∀ b, b < 0 → a ≠ b → (TJ9 a).2.1 ≠ (TJ9 b).2.1 := by decide +kernel
theorem tyJ9_ok : ∀ k, k < 0 → parseFieldDescriptor (TJ9 k).2.2.1 = some (tyJ9 k) := by decide +kernel
abbrev cJ9_max_7cf53 : ByteArray := prog_12_method_65_code
def yJ9_max_7cf53 : MethodName := ⟨RJ9, "max", "(II)I"⟩
abbrev cJ9_min_7cf53 : ByteArray := prog_12_method_69_code
def yJ9_min_7cf53 : MethodName := ⟨RJ9, "min", "(II)I"⟩
def RJ10 : String := "java/lang/System"
def TJ10 : u_T := fun k => match k with
  | _ => ("", "", "", false)
def tyJ10 : Nat → FieldType := fun k => match k with
  | _ => .int
abbrev wsJ100 : List Cond := u_ws RJ10 TJ10 0
theorem nmJ10 : ∀ a, a < 0 → ∀ b, b < 0 → a ≠ b → (TJ10 a).2.1 ≠ (TJ10 b).2.1 := by decide +kernel
theorem tyJ10_ok : ∀ k, k < 0 → parseFieldDescriptor (TJ10 k).2.2.1 = some (tyJ10 k) := by decide +kernel
def RL : String := "NumberLeasesLaw"
abbrev cL_low : ByteArray := method_2_code
def yL_low : MethodName := ⟨RL, "low", "(II)I"⟩
abbrev cL_cell : ByteArray := method_3_code
def yL_cell : MethodName := ⟨RL, "cell", "([II)I"⟩
abbrev cL_take : ByteArray := method_4_code
def yL_take : MethodName := ⟨RL, "take", "(LNumberLeases;II)I"⟩
abbrev cL_span : ByteArray := method_5_code
def yL_span : MethodName := ⟨RL, "span", "(LNumberLeases;III)I"⟩
abbrev cL_wish : ByteArray := method_6_code
def yL_wish : MethodName := ⟨RL, "wish", "(LNumberLeases;III)I"⟩
abbrev cL_unwish : ByteArray := method_7_code
def yL_unwish : MethodName := ⟨RL, "unwish", "(LNumberLeases;II)I"⟩
abbrev cL_renew : ByteArray := method_8_code
def yL_renew : MethodName := ⟨RL, "renew", "(LNumberLeases;III)I"⟩
abbrev cL_set : ByteArray := method_9_code
def yL_set : MethodName := ⟨RL, "set", "(LNumberLeases;II)I"⟩
abbrev cL_act : ByteArray := method_10_code
def yL_act : MethodName := ⟨RL, "act", "(LNumberLeases;[II)I"⟩
abbrev cL_undo : ByteArray := method_11_code
def yL_undo : MethodName := ⟨RL, "undo", "(LNumberLeases;)I"⟩
abbrev cL_numbers : ByteArray := method_12_code
def yL_numbers : MethodName := ⟨RL, "numbers", "(LNumberLeases;)Z"⟩
abbrev cL_holders : ByteArray := method_13_code
def yL_holders : MethodName := ⟨RL, "holders", "(LNumberLeases;)Z"⟩
abbrev cL_spans : ByteArray := method_14_code
def yL_spans : MethodName := ⟨RL, "spans", "(LNumberLeases;)Z"⟩
abbrev cL_law : ByteArray := code
def yL_law : MethodName := ⟨RL, "law", "([I)Z"⟩
abbrev vwCl : List vw_C := [(RX1, TX1, 8), (RX2, TX2, 16), (RX3, TX3, 2), (RX4, TX4, 4)]
end
section
theorem dX1_init_0 : decode cX1_init 0 = .ok (.aload_n 0, 1) := by decide +kernel
theorem dX1_init_1 : decode cX1_init 1 = .ok (.invokespecial 3, 3) := by decide +kernel
theorem dX1_init_4 : decode cX1_init 4 = .ok (.aload_n 0, 1) := by decide +kernel
theorem dX1_init_5 : decode cX1_init 5 = .ok (.bipush 60, 2) := by decide +kernel
theorem dX1_init_7 : decode cX1_init 7 = .ok (.newarray .int, 2) := by decide +kernel
theorem dX1_init_9 : decode cX1_init 9 = .ok (.putfield 9, 3) := by decide +kernel
theorem dX1_init_12 : decode cX1_init 12 = .ok (.return_, 1) := by decide +kernel
theorem dX2_init_0 : decode cX2_init 0 = .ok (.aload_n 0, 1) := by decide +kernel
theorem dX2_init_1 : decode cX2_init 1 = .ok (.invokespecial 3, 3) := by decide +kernel
theorem dX2_init_4 : decode cX2_init 4 = .ok (.aload_n 0, 1) := by decide +kernel
theorem dX2_init_5 : decode cX2_init 5 = .ok (.iconst 4, 1) := by decide +kernel
theorem dX2_init_6 : decode cX2_init 6 = .ok (.newarray .int, 2) := by decide +kernel
theorem dX2_init_8 : decode cX2_init 8 = .ok (.dup, 1) := by decide +kernel
theorem dX2_init_9 : decode cX2_init 9 = .ok (.iconst 0, 1) := by decide +kernel
theorem dX2_init_10 : decode cX2_init 10 = .ok (.iconst 5, 1) := by decide +kernel
theorem dX2_init_11 : decode cX2_init 11 = .ok (.iastore, 1) := by decide +kernel
theorem dX2_init_12 : decode cX2_init 12 = .ok (.dup, 1) := by decide +kernel
theorem dX2_init_13 : decode cX2_init 13 = .ok (.iconst 1, 1) := by decide +kernel
theorem dX2_init_14 : decode cX2_init 14 = .ok (.bipush 16, 2) := by decide +kernel
theorem dX2_init_16 : decode cX2_init 16 = .ok (.iastore, 1) := by decide +kernel
theorem dX2_init_17 : decode cX2_init 17 = .ok (.dup, 1) := by decide +kernel
theorem dX2_init_18 : decode cX2_init 18 = .ok (.iconst 2, 1) := by decide +kernel
theorem dX2_init_19 : decode cX2_init 19 = .ok (.iconst 0, 1) := by decide +kernel
theorem dX2_init_20 : decode cX2_init 20 = .ok (.iastore, 1) := by decide +kernel
theorem dX2_init_21 : decode cX2_init 21 = .ok (.dup, 1) := by decide +kernel
theorem dX2_init_22 : decode cX2_init 22 = .ok (.iconst 3, 1) := by decide +kernel
theorem dX2_init_23 : decode cX2_init 23 = .ok (.bipush 32, 2) := by decide +kernel
theorem dX2_init_25 : decode cX2_init 25 = .ok (.iastore, 1) := by decide +kernel
theorem dX2_init_26 : decode cX2_init 26 = .ok (.putfield 9, 3) := by decide +kernel
theorem dX2_init_29 : decode cX2_init 29 = .ok (.aload_n 0, 1) := by decide +kernel
theorem dX2_init_30 : decode cX2_init 30 = .ok (.bipush 64, 2) := by decide +kernel
theorem dX2_init_32 : decode cX2_init 32 = .ok (.newarray .int, 2) := by decide +kernel
theorem dX2_init_34 : decode cX2_init 34 = .ok (.putfield 15, 3) := by decide +kernel
theorem dX2_init_37 : decode cX2_init 37 = .ok (.aload_n 0, 1) := by decide +kernel
theorem dX2_init_38 : decode cX2_init 38 = .ok (.bipush 64, 2) := by decide +kernel
theorem dX2_init_40 : decode cX2_init 40 = .ok (.newarray .int, 2) := by decide +kernel
theorem dX2_init_42 : decode cX2_init 42 = .ok (.putfield 18, 3) := by decide +kernel
theorem dX2_init_45 : decode cX2_init 45 = .ok (.aload_n 0, 1) := by decide +kernel
theorem dX2_init_46 : decode cX2_init 46 = .ok (.bipush 64, 2) := by decide +kernel
theorem dX2_init_48 : decode cX2_init 48 = .ok (.newarray .int, 2) := by decide +kernel
theorem dX2_init_50 : decode cX2_init 50 = .ok (.putfield 21, 3) := by decide +kernel
theorem dX2_init_53 : decode cX2_init 53 = .ok (.aload_n 0, 1) := by decide +kernel
theorem dX2_init_54 : decode cX2_init 54 = .ok (.bipush 64, 2) := by decide +kernel
theorem dX2_init_56 : decode cX2_init 56 = .ok (.newarray .int, 2) := by decide +kernel
theorem dX2_init_58 : decode cX2_init 58 = .ok (.putfield 24, 3) := by decide +kernel
theorem dX2_init_61 : decode cX2_init 61 = .ok (.aload_n 0, 1) := by decide +kernel
theorem dX2_init_62 : decode cX2_init 62 = .ok (.bipush 64, 2) := by decide +kernel
theorem dX2_init_64 : decode cX2_init 64 = .ok (.newarray .int, 2) := by decide +kernel
theorem dX2_init_66 : decode cX2_init 66 = .ok (.putfield 27, 3) := by decide +kernel
theorem dX2_init_69 : decode cX2_init 69 = .ok (.aload_n 0, 1) := by decide +kernel
theorem dX2_init_70 : decode cX2_init 70 = .ok (.bipush 64, 2) := by decide +kernel
theorem dX2_init_72 : decode cX2_init 72 = .ok (.newarray .int, 2) := by decide +kernel
theorem dX2_init_74 : decode cX2_init 74 = .ok (.putfield 30, 3) := by decide +kernel
theorem dX2_init_77 : decode cX2_init 77 = .ok (.aload_n 0, 1) := by decide +kernel
theorem dX2_init_78 : decode cX2_init 78 = .ok (.sipush 192, 3) := by decide +kernel
theorem dX2_init_81 : decode cX2_init 81 = .ok (.newarray .int, 2) := by decide +kernel
theorem dX2_init_83 : decode cX2_init 83 = .ok (.putfield 33, 3) := by decide +kernel
theorem dX2_init_86 : decode cX2_init 86 = .ok (.aload_n 0, 1) := by decide +kernel
theorem dX2_init_87 : decode cX2_init 87 = .ok (.sipush 192, 3) := by decide +kernel
theorem dX2_init_90 : decode cX2_init 90 = .ok (.newarray .int, 2) := by decide +kernel
theorem dX2_init_92 : decode cX2_init 92 = .ok (.putfield 36, 3) := by decide +kernel
theorem dX2_init_95 : decode cX2_init 95 = .ok (.aload_n 0, 1) := by decide +kernel
theorem dX2_init_96 : decode cX2_init 96 = .ok (.bipush 8, 2) := by decide +kernel
theorem dX2_init_98 : decode cX2_init 98 = .ok (.newarray .int, 2) := by decide +kernel
theorem dX2_init_100 : decode cX2_init 100 = .ok (.putfield 39, 3) := by decide +kernel
theorem dX2_init_103 : decode cX2_init 103 = .ok (.aload_n 0, 1) := by decide +kernel
theorem dX2_init_104 : decode cX2_init 104 = .ok (.bipush 8, 2) := by decide +kernel
theorem dX2_init_106 : decode cX2_init 106 = .ok (.newarray .int, 2) := by decide +kernel
theorem dX2_init_108 : decode cX2_init 108 = .ok (.putfield 42, 3) := by decide +kernel
theorem dX2_init_111 : decode cX2_init 111 = .ok (.aload_n 0, 1) := by decide +kernel
theorem dX2_init_112 : decode cX2_init 112 = .ok (.bipush 8, 2) := by decide +kernel
theorem dX2_init_114 : decode cX2_init 114 = .ok (.newarray .int, 2) := by decide +kernel
theorem dX2_init_116 : decode cX2_init 116 = .ok (.putfield 45, 3) := by decide +kernel
theorem dX2_init_119 : decode cX2_init 119 = .ok (.iconst 0, 1) := by decide +kernel
theorem dX2_init_120 : decode cX2_init 120 = .ok (.istore_n 1, 1) := by decide +kernel
theorem dX2_init_121 : decode cX2_init 121 = .ok (.iload_n 1, 1) := by decide +kernel
theorem dX2_init_122 : decode cX2_init 122 = .ok (.bipush 64, 2) := by decide +kernel
theorem dX2_init_124 : decode cX2_init 124 = .ok (.if_icmp .ge 16, 3) := by decide +kernel
theorem dX2_init_127 : decode cX2_init 127 = .ok (.aload_n 0, 1) := by decide +kernel
theorem dX2_init_128 : decode cX2_init 128 = .ok (.getfield 15, 3) := by decide +kernel
theorem dX2_init_131 : decode cX2_init 131 = .ok (.iload_n 1, 1) := by decide +kernel
theorem dX2_init_132 : decode cX2_init 132 = .ok (.iconst (-1), 1) := by decide +kernel
theorem dX2_init_133 : decode cX2_init 133 = .ok (.iastore, 1) := by decide +kernel
theorem dX2_init_134 : decode cX2_init 134 = .ok (.iinc 1 1, 3) := by decide +kernel
theorem dX2_init_137 : decode cX2_init 137 = .ok (.goto (-16), 3) := by decide +kernel
theorem dX2_init_140 : decode cX2_init 140 = .ok (.return_, 1) := by decide +kernel
theorem dX2_copyFrom_0 : decode cX2_copyFrom 0 = .ok (.aload_n 0, 1) := by decide +kernel
theorem dX2_copyFrom_1 : decode cX2_copyFrom 1 = .ok (.aload_n 1, 1) := by decide +kernel
theorem dX2_copyFrom_2 : decode cX2_copyFrom 2 = .ok (.getfield 48, 3) := by decide +kernel
theorem dX2_copyFrom_5 : decode cX2_copyFrom 5 = .ok (.putfield 48, 3) := by decide +kernel
theorem dX2_copyFrom_8 : decode cX2_copyFrom 8 = .ok (.aload_n 0, 1) := by decide +kernel
theorem dX2_copyFrom_9 : decode cX2_copyFrom 9 = .ok (.aload_n 1, 1) := by decide +kernel
theorem dX2_copyFrom_10 : decode cX2_copyFrom 10 = .ok (.getfield 52, 3) := by decide +kernel
theorem dX2_copyFrom_13 : decode cX2_copyFrom 13 = .ok (.putfield 52, 3) := by decide +kernel
theorem dX2_copyFrom_16 : decode cX2_copyFrom 16 = .ok (.aload_n 0, 1) := by decide +kernel
theorem dX2_copyFrom_17 : decode cX2_copyFrom 17 = .ok (.aload_n 1, 1) := by decide +kernel
theorem dX2_copyFrom_18 : decode cX2_copyFrom 18 = .ok (.getfield 55, 3) := by decide +kernel
theorem dX2_copyFrom_21 : decode cX2_copyFrom 21 = .ok (.putfield 55, 3) := by decide +kernel
theorem dX2_copyFrom_24 : decode cX2_copyFrom 24 = .ok (.aload_n 0, 1) := by decide +kernel
theorem dX2_copyFrom_25 : decode cX2_copyFrom 25 = .ok (.aload_n 1, 1) := by decide +kernel
theorem dX2_copyFrom_26 : decode cX2_copyFrom 26 = .ok (.getfield 58, 3) := by decide +kernel
theorem dX2_copyFrom_29 : decode cX2_copyFrom 29 = .ok (.putfield 58, 3) := by decide +kernel
theorem dX2_copyFrom_32 : decode cX2_copyFrom 32 = .ok (.aload_n 1, 1) := by decide +kernel
theorem dX2_copyFrom_33 : decode cX2_copyFrom 33 = .ok (.getfield 9, 3) := by decide +kernel
theorem dX2_copyFrom_36 : decode cX2_copyFrom 36 = .ok (.aload_n 0, 1) := by decide +kernel
theorem dX2_copyFrom_37 : decode cX2_copyFrom 37 = .ok (.getfield 9, 3) := by decide +kernel
theorem dX2_copyFrom_40 : decode cX2_copyFrom 40 = .ok (.invokestatic 61, 3) := by decide +kernel
theorem dX2_copyFrom_43 : decode cX2_copyFrom 43 = .ok (.aload_n 1, 1) := by decide +kernel
theorem dX2_copyFrom_44 : decode cX2_copyFrom 44 = .ok (.getfield 15, 3) := by decide +kernel
theorem dX2_copyFrom_47 : decode cX2_copyFrom 47 = .ok (.aload_n 0, 1) := by decide +kernel
theorem dX2_copyFrom_48 : decode cX2_copyFrom 48 = .ok (.getfield 15, 3) := by decide +kernel
theorem dX2_copyFrom_51 : decode cX2_copyFrom 51 = .ok (.invokestatic 61, 3) := by decide +kernel
theorem dX2_copyFrom_54 : decode cX2_copyFrom 54 = .ok (.aload_n 1, 1) := by decide +kernel
theorem dX2_copyFrom_55 : decode cX2_copyFrom 55 = .ok (.getfield 18, 3) := by decide +kernel
theorem dX2_copyFrom_58 : decode cX2_copyFrom 58 = .ok (.aload_n 0, 1) := by decide +kernel
theorem dX2_copyFrom_59 : decode cX2_copyFrom 59 = .ok (.getfield 18, 3) := by decide +kernel
theorem dX2_copyFrom_62 : decode cX2_copyFrom 62 = .ok (.invokestatic 61, 3) := by decide +kernel
theorem dX2_copyFrom_65 : decode cX2_copyFrom 65 = .ok (.aload_n 1, 1) := by decide +kernel
theorem dX2_copyFrom_66 : decode cX2_copyFrom 66 = .ok (.getfield 21, 3) := by decide +kernel
theorem dX2_copyFrom_69 : decode cX2_copyFrom 69 = .ok (.aload_n 0, 1) := by decide +kernel
theorem dX2_copyFrom_70 : decode cX2_copyFrom 70 = .ok (.getfield 21, 3) := by decide +kernel
theorem dX2_copyFrom_73 : decode cX2_copyFrom 73 = .ok (.invokestatic 61, 3) := by decide +kernel
theorem dX2_copyFrom_76 : decode cX2_copyFrom 76 = .ok (.aload_n 1, 1) := by decide +kernel
theorem dX2_copyFrom_77 : decode cX2_copyFrom 77 = .ok (.getfield 24, 3) := by decide +kernel
theorem dX2_copyFrom_80 : decode cX2_copyFrom 80 = .ok (.aload_n 0, 1) := by decide +kernel
theorem dX2_copyFrom_81 : decode cX2_copyFrom 81 = .ok (.getfield 24, 3) := by decide +kernel
theorem dX2_copyFrom_84 : decode cX2_copyFrom 84 = .ok (.invokestatic 61, 3) := by decide +kernel
theorem dX2_copyFrom_87 : decode cX2_copyFrom 87 = .ok (.aload_n 1, 1) := by decide +kernel
theorem dX2_copyFrom_88 : decode cX2_copyFrom 88 = .ok (.getfield 27, 3) := by decide +kernel
theorem dX2_copyFrom_91 : decode cX2_copyFrom 91 = .ok (.aload_n 0, 1) := by decide +kernel
theorem dX2_copyFrom_92 : decode cX2_copyFrom 92 = .ok (.getfield 27, 3) := by decide +kernel
theorem dX2_copyFrom_95 : decode cX2_copyFrom 95 = .ok (.invokestatic 61, 3) := by decide +kernel
theorem dX2_copyFrom_98 : decode cX2_copyFrom 98 = .ok (.aload_n 1, 1) := by decide +kernel
theorem dX2_copyFrom_99 : decode cX2_copyFrom 99 = .ok (.getfield 30, 3) := by decide +kernel
theorem dX2_copyFrom_102 : decode cX2_copyFrom 102 = .ok (.aload_n 0, 1) := by decide +kernel
theorem dX2_copyFrom_103 : decode cX2_copyFrom 103 = .ok (.getfield 30, 3) := by decide +kernel
theorem dX2_copyFrom_106 : decode cX2_copyFrom 106 = .ok (.invokestatic 61, 3) := by decide +kernel
theorem dX2_copyFrom_109 : decode cX2_copyFrom 109 = .ok (.aload_n 1, 1) := by decide +kernel
theorem dX2_copyFrom_110 : decode cX2_copyFrom 110 = .ok (.getfield 33, 3) := by decide +kernel
theorem dX2_copyFrom_113 : decode cX2_copyFrom 113 = .ok (.aload_n 0, 1) := by decide +kernel
theorem dX2_copyFrom_114 : decode cX2_copyFrom 114 = .ok (.getfield 33, 3) := by decide +kernel
theorem dX2_copyFrom_117 : decode cX2_copyFrom 117 = .ok (.invokestatic 61, 3) := by decide +kernel
theorem dX2_copyFrom_120 : decode cX2_copyFrom 120 = .ok (.aload_n 1, 1) := by decide +kernel
theorem dX2_copyFrom_121 : decode cX2_copyFrom 121 = .ok (.getfield 36, 3) := by decide +kernel
theorem dX2_copyFrom_124 : decode cX2_copyFrom 124 = .ok (.aload_n 0, 1) := by decide +kernel
theorem dX2_copyFrom_125 : decode cX2_copyFrom 125 = .ok (.getfield 36, 3) := by decide +kernel
theorem dX2_copyFrom_128 : decode cX2_copyFrom 128 = .ok (.invokestatic 61, 3) := by decide +kernel
theorem dX2_copyFrom_131 : decode cX2_copyFrom 131 = .ok (.aload_n 1, 1) := by decide +kernel
theorem dX2_copyFrom_132 : decode cX2_copyFrom 132 = .ok (.getfield 39, 3) := by decide +kernel
theorem dX2_copyFrom_135 : decode cX2_copyFrom 135 = .ok (.aload_n 0, 1) := by decide +kernel
theorem dX2_copyFrom_136 : decode cX2_copyFrom 136 = .ok (.getfield 39, 3) := by decide +kernel
theorem dX2_copyFrom_139 : decode cX2_copyFrom 139 = .ok (.invokestatic 61, 3) := by decide +kernel
theorem dX2_copyFrom_142 : decode cX2_copyFrom 142 = .ok (.aload_n 1, 1) := by decide +kernel
theorem dX2_copyFrom_143 : decode cX2_copyFrom 143 = .ok (.getfield 42, 3) := by decide +kernel
theorem dX2_copyFrom_146 : decode cX2_copyFrom 146 = .ok (.aload_n 0, 1) := by decide +kernel
theorem dX2_copyFrom_147 : decode cX2_copyFrom 147 = .ok (.getfield 42, 3) := by decide +kernel
theorem dX2_copyFrom_150 : decode cX2_copyFrom 150 = .ok (.invokestatic 61, 3) := by decide +kernel
theorem dX2_copyFrom_153 : decode cX2_copyFrom 153 = .ok (.aload_n 1, 1) := by decide +kernel
theorem dX2_copyFrom_154 : decode cX2_copyFrom 154 = .ok (.getfield 45, 3) := by decide +kernel
theorem dX2_copyFrom_157 : decode cX2_copyFrom 157 = .ok (.aload_n 0, 1) := by decide +kernel
theorem dX2_copyFrom_158 : decode cX2_copyFrom 158 = .ok (.getfield 45, 3) := by decide +kernel
theorem dX2_copyFrom_161 : decode cX2_copyFrom 161 = .ok (.invokestatic 61, 3) := by decide +kernel
theorem dX2_copyFrom_164 : decode cX2_copyFrom 164 = .ok (.return_, 1) := by decide +kernel
theorem dX2_copyRow_0 : decode cX2_copyRow 0 = .ok (.aload_n 0, 1) := by decide +kernel
theorem dX2_copyRow_1 : decode cX2_copyRow 1 = .ok (.iconst 0, 1) := by decide +kernel
theorem dX2_copyRow_2 : decode cX2_copyRow 2 = .ok (.aload_n 1, 1) := by decide +kernel
theorem dX2_copyRow_3 : decode cX2_copyRow 3 = .ok (.iconst 0, 1) := by decide +kernel
theorem dX2_copyRow_4 : decode cX2_copyRow 4 = .ok (.aload_n 0, 1) := by decide +kernel
theorem dX2_copyRow_5 : decode cX2_copyRow 5 = .ok (.arraylength, 1) := by decide +kernel
theorem dX2_copyRow_6 : decode cX2_copyRow 6 = .ok (.aload_n 1, 1) := by decide +kernel
theorem dX2_copyRow_7 : decode cX2_copyRow 7 = .ok (.arraylength, 1) := by decide +kernel
theorem dX2_copyRow_8 : decode cX2_copyRow 8 = .ok (.invokestatic 65, 3) := by decide +kernel
theorem dX2_copyRow_11 : decode cX2_copyRow 11 = .ok (.invokestatic 71, 3) := by decide +kernel
theorem dX2_copyRow_14 : decode cX2_copyRow 14 = .ok (.return_, 1) := by decide +kernel
theorem dX2_hasNumber_0 : decode cX2_hasNumber 0 = .ok (.iload_n 1, 1) := by decide +kernel
theorem dX2_hasNumber_1 : decode cX2_hasNumber 1 = .ok (.ifCond .lt 17, 3) := by decide +kernel
theorem dX2_hasNumber_4 : decode cX2_hasNumber 4 = .ok (.iload_n 1, 1) := by decide +kernel
theorem dX2_hasNumber_5 : decode cX2_hasNumber 5 = .ok (.aload_n 0, 1) := by decide +kernel
theorem dX2_hasNumber_6 : decode cX2_hasNumber 6 = .ok (.getfield 9, 3) := by decide +kernel
theorem dX2_hasNumber_9 : decode cX2_hasNumber 9 = .ok (.iconst 3, 1) := by decide +kernel
theorem dX2_hasNumber_10 : decode cX2_hasNumber 10 = .ok (.iaload, 1) := by decide +kernel
theorem dX2_hasNumber_11 : decode cX2_hasNumber 11 = .ok (.if_icmp .ge 7, 3) := by decide +kernel
theorem dX2_hasNumber_14 : decode cX2_hasNumber 14 = .ok (.iconst 1, 1) := by decide +kernel
theorem dX2_hasNumber_15 : decode cX2_hasNumber 15 = .ok (.goto 4, 3) := by decide +kernel
theorem dX2_hasNumber_18 : decode cX2_hasNumber 18 = .ok (.iconst 0, 1) := by decide +kernel
theorem dX2_hasNumber_19 : decode cX2_hasNumber 19 = .ok (.ireturn, 1) := by decide +kernel
theorem dX2_mayLease_0 : decode cX2_mayLease 0 = .ok (.aload_n 0, 1) := by decide +kernel
theorem dX2_mayLease_1 : decode cX2_mayLease 1 = .ok (.iload_n 1, 1) := by decide +kernel
theorem dX2_mayLease_2 : decode cX2_mayLease 2 = .ok (.iload_n 2, 1) := by decide +kernel
theorem dX2_mayLease_3 : decode cX2_mayLease 3 = .ok (.invokevirtual 77, 3) := by decide +kernel
theorem dX2_mayLease_6 : decode cX2_mayLease 6 = .ok (.ifCond .eq 16, 3) := by decide +kernel
theorem dX2_mayLease_9 : decode cX2_mayLease 9 = .ok (.aload_n 0, 1) := by decide +kernel
theorem dX2_mayLease_10 : decode cX2_mayLease 10 = .ok (.iload_n 2, 1) := by decide +kernel
theorem dX2_mayLease_11 : decode cX2_mayLease 11 = .ok (.invokevirtual 81, 3) := by decide +kernel
theorem dX2_mayLease_14 : decode cX2_mayLease 14 = .ok (.iconst (-1), 1) := by decide +kernel
theorem dX2_mayLease_15 : decode cX2_mayLease 15 = .ok (.if_icmp .eq 7, 3) := by decide +kernel
theorem dX2_mayLease_18 : decode cX2_mayLease 18 = .ok (.iconst 1, 1) := by decide +kernel
theorem dX2_mayLease_19 : decode cX2_mayLease 19 = .ok (.goto 4, 3) := by decide +kernel
theorem dX2_mayLease_22 : decode cX2_mayLease 22 = .ok (.iconst 0, 1) := by decide +kernel
theorem dX2_mayLease_23 : decode cX2_mayLease 23 = .ok (.ireturn, 1) := by decide +kernel
theorem dX2_mayWish_0 : decode cX2_mayWish 0 = .ok (.aload_n 0, 1) := by decide +kernel
theorem dX2_mayWish_1 : decode cX2_mayWish 1 = .ok (.getfield 15, 3) := by decide +kernel
theorem dX2_mayWish_4 : decode cX2_mayWish 4 = .ok (.iload_n 2, 1) := by decide +kernel
theorem dX2_mayWish_5 : decode cX2_mayWish 5 = .ok (.iaload, 1) := by decide +kernel
theorem dX2_mayWish_6 : decode cX2_mayWish 6 = .ok (.iconst (-1), 1) := by decide +kernel
theorem dX2_mayWish_7 : decode cX2_mayWish 7 = .ok (.if_icmp .ne 10, 3) := by decide +kernel
theorem dX2_mayWish_10 : decode cX2_mayWish 10 = .ok (.aload_n 0, 1) := by decide +kernel
theorem dX2_mayWish_11 : decode cX2_mayWish 11 = .ok (.iload_n 1, 1) := by decide +kernel
theorem dX2_mayWish_12 : decode cX2_mayWish 12 = .ok (.iconst 1, 1) := by decide +kernel
theorem dX2_mayWish_13 : decode cX2_mayWish 13 = .ok (.invokevirtual 77, 3) := by decide +kernel
theorem dX2_mayWish_16 : decode cX2_mayWish 16 = .ok (.ireturn, 1) := by decide +kernel
theorem dX2_mayWish_17 : decode cX2_mayWish 17 = .ok (.aload_n 0, 1) := by decide +kernel
theorem dX2_mayWish_18 : decode cX2_mayWish 18 = .ok (.getfield 30, 3) := by decide +kernel
theorem dX2_mayWish_21 : decode cX2_mayWish 21 = .ok (.iload_n 2, 1) := by decide +kernel
theorem dX2_mayWish_22 : decode cX2_mayWish 22 = .ok (.iaload, 1) := by decide +kernel
theorem dX2_mayWish_23 : decode cX2_mayWish 23 = .ok (.iconst 3, 1) := by decide +kernel
theorem dX2_mayWish_24 : decode cX2_mayWish 24 = .ok (.if_icmp .ge 27, 3) := by decide +kernel
theorem dX2_mayWish_27 : decode cX2_mayWish 27 = .ok (.aload_n 0, 1) := by decide +kernel
theorem dX2_mayWish_28 : decode cX2_mayWish 28 = .ok (.getfield 15, 3) := by decide +kernel
theorem dX2_mayWish_31 : decode cX2_mayWish 31 = .ok (.iload_n 2, 1) := by decide +kernel
theorem dX2_mayWish_32 : decode cX2_mayWish 32 = .ok (.iaload, 1) := by decide +kernel
theorem dX2_mayWish_33 : decode cX2_mayWish 33 = .ok (.iload_n 1, 1) := by decide +kernel
theorem dX2_mayWish_34 : decode cX2_mayWish 34 = .ok (.if_icmp .eq 17, 3) := by decide +kernel
theorem dX2_mayWish_37 : decode cX2_mayWish 37 = .ok (.aload_n 0, 1) := by decide +kernel
theorem dX2_mayWish_38 : decode cX2_mayWish 38 = .ok (.iload_n 1, 1) := by decide +kernel
theorem dX2_mayWish_39 : decode cX2_mayWish 39 = .ok (.iload_n 2, 1) := by decide +kernel
theorem dX2_mayWish_40 : decode cX2_mayWish 40 = .ok (.invokevirtual 85, 3) := by decide +kernel
theorem dX2_mayWish_43 : decode cX2_mayWish 43 = .ok (.iconst (-1), 1) := by decide +kernel
theorem dX2_mayWish_44 : decode cX2_mayWish 44 = .ok (.if_icmp .ne 7, 3) := by decide +kernel
theorem dX2_mayWish_47 : decode cX2_mayWish 47 = .ok (.iconst 1, 1) := by decide +kernel
theorem dX2_mayWish_48 : decode cX2_mayWish 48 = .ok (.goto 4, 3) := by decide +kernel
theorem dX2_mayWish_51 : decode cX2_mayWish 51 = .ok (.iconst 0, 1) := by decide +kernel
theorem dX2_mayWish_52 : decode cX2_mayWish 52 = .ok (.ireturn, 1) := by decide +kernel
theorem dX2_mayRenew_0 : decode cX2_mayRenew 0 = .ok (.aload_n 0, 1) := by decide +kernel
theorem dX2_mayRenew_1 : decode cX2_mayRenew 1 = .ok (.getfield 15, 3) := by decide +kernel
theorem dX2_mayRenew_4 : decode cX2_mayRenew 4 = .ok (.iload_n 2, 1) := by decide +kernel
theorem dX2_mayRenew_5 : decode cX2_mayRenew 5 = .ok (.iaload, 1) := by decide +kernel
theorem dX2_mayRenew_6 : decode cX2_mayRenew 6 = .ok (.iload_n 1, 1) := by decide +kernel
theorem dX2_mayRenew_7 : decode cX2_mayRenew 7 = .ok (.if_icmp .ne 25, 3) := by decide +kernel
theorem dX2_mayRenew_10 : decode cX2_mayRenew 10 = .ok (.aload_n 0, 1) := by decide +kernel
theorem dX2_mayRenew_11 : decode cX2_mayRenew 11 = .ok (.getfield 9, 3) := by decide +kernel
theorem dX2_mayRenew_14 : decode cX2_mayRenew 14 = .ok (.iconst 2, 1) := by decide +kernel
theorem dX2_mayRenew_15 : decode cX2_mayRenew 15 = .ok (.iaload, 1) := by decide +kernel
theorem dX2_mayRenew_16 : decode cX2_mayRenew 16 = .ok (.ifCond .eq 12, 3) := by decide +kernel
theorem dX2_mayRenew_19 : decode cX2_mayRenew 19 = .ok (.aload_n 0, 1) := by decide +kernel
theorem dX2_mayRenew_20 : decode cX2_mayRenew 20 = .ok (.getfield 30, 3) := by decide +kernel
theorem dX2_mayRenew_23 : decode cX2_mayRenew 23 = .ok (.iload_n 2, 1) := by decide +kernel
theorem dX2_mayRenew_24 : decode cX2_mayRenew 24 = .ok (.iaload, 1) := by decide +kernel
theorem dX2_mayRenew_25 : decode cX2_mayRenew 25 = .ok (.ifCond .ne 7, 3) := by decide +kernel
theorem dX2_mayRenew_28 : decode cX2_mayRenew 28 = .ok (.iconst 1, 1) := by decide +kernel
theorem dX2_mayRenew_29 : decode cX2_mayRenew 29 = .ok (.goto 4, 3) := by decide +kernel
theorem dX2_mayRenew_32 : decode cX2_mayRenew 32 = .ok (.iconst 0, 1) := by decide +kernel
theorem dX2_mayRenew_33 : decode cX2_mayRenew 33 = .ok (.ireturn, 1) := by decide +kernel
theorem dX2_hasTimeFor_0 : decode cX2_hasTimeFor 0 = .ok (.aload_n 0, 1) := by decide +kernel
theorem dX2_hasTimeFor_1 : decode cX2_hasTimeFor 1 = .ok (.getfield 48, 3) := by decide +kernel
theorem dX2_hasTimeFor_4 : decode cX2_hasTimeFor 4 = .ok (.iload_n 1, 1) := by decide +kernel
theorem dX2_hasTimeFor_5 : decode cX2_hasTimeFor 5 = .ok (.iadd, 1) := by decide +kernel
theorem dX2_hasTimeFor_6 : decode cX2_hasTimeFor 6 = .ok (.sipush 9999, 3) := by decide +kernel
theorem dX2_hasTimeFor_9 : decode cX2_hasTimeFor 9 = .ok (.if_icmp .gt 7, 3) := by decide +kernel
theorem dX2_hasTimeFor_12 : decode cX2_hasTimeFor 12 = .ok (.iconst 1, 1) := by decide +kernel
theorem dX2_hasTimeFor_13 : decode cX2_hasTimeFor 13 = .ok (.goto 4, 3) := by decide +kernel
theorem dX2_hasTimeFor_16 : decode cX2_hasTimeFor 16 = .ok (.iconst 0, 1) := by decide +kernel
theorem dX2_hasTimeFor_17 : decode cX2_hasTimeFor 17 = .ok (.ireturn, 1) := by decide +kernel
theorem dX2_fitsIn_0 : decode cX2_fitsIn 0 = .ok (.iload_n 1, 1) := by decide +kernel
theorem dX2_fitsIn_1 : decode cX2_fitsIn 1 = .ok (.istore_n 2, 1) := by decide +kernel
theorem dX2_fitsIn_2 : decode cX2_fitsIn 2 = .ok (.iload_n 2, 1) := by decide +kernel
theorem dX2_fitsIn_3 : decode cX2_fitsIn 3 = .ok (.bipush 64, 2) := by decide +kernel
theorem dX2_fitsIn_5 : decode cX2_fitsIn 5 = .ok (.if_icmp .ge 21, 3) := by decide +kernel
theorem dX2_fitsIn_8 : decode cX2_fitsIn 8 = .ok (.aload_n 0, 1) := by decide +kernel
theorem dX2_fitsIn_9 : decode cX2_fitsIn 9 = .ok (.getfield 15, 3) := by decide +kernel
theorem dX2_fitsIn_12 : decode cX2_fitsIn 12 = .ok (.iload_n 2, 1) := by decide +kernel
theorem dX2_fitsIn_13 : decode cX2_fitsIn 13 = .ok (.iaload, 1) := by decide +kernel
theorem dX2_fitsIn_14 : decode cX2_fitsIn 14 = .ok (.iconst (-1), 1) := by decide +kernel
theorem dX2_fitsIn_15 : decode cX2_fitsIn 15 = .ok (.if_icmp .eq 5, 3) := by decide +kernel
theorem dX2_fitsIn_18 : decode cX2_fitsIn 18 = .ok (.iconst 0, 1) := by decide +kernel
theorem dX2_fitsIn_19 : decode cX2_fitsIn 19 = .ok (.ireturn, 1) := by decide +kernel
theorem dX2_fitsIn_20 : decode cX2_fitsIn 20 = .ok (.iinc 2 1, 3) := by decide +kernel
theorem dX2_fitsIn_23 : decode cX2_fitsIn 23 = .ok (.goto (-21), 3) := by decide +kernel
theorem dX2_fitsIn_26 : decode cX2_fitsIn 26 = .ok (.iconst 1, 1) := by decide +kernel
theorem dX2_fitsIn_27 : decode cX2_fitsIn 27 = .ok (.ireturn, 1) := by decide +kernel
theorem dX2_hasRoom_0 : decode cX2_hasRoom 0 = .ok (.aload_n 0, 1) := by decide +kernel
theorem dX2_hasRoom_1 : decode cX2_hasRoom 1 = .ok (.iload_n 1, 1) := by decide +kernel
theorem dX2_hasRoom_2 : decode cX2_hasRoom 2 = .ok (.invokevirtual 88, 3) := by decide +kernel
theorem dX2_hasRoom_5 : decode cX2_hasRoom 5 = .ok (.iload_n 2, 1) := by decide +kernel
theorem dX2_hasRoom_6 : decode cX2_hasRoom 6 = .ok (.iadd, 1) := by decide +kernel
theorem dX2_hasRoom_7 : decode cX2_hasRoom 7 = .ok (.aload_n 0, 1) := by decide +kernel
theorem dX2_hasRoom_8 : decode cX2_hasRoom 8 = .ok (.getfield 9, 3) := by decide +kernel
theorem dX2_hasRoom_11 : decode cX2_hasRoom 11 = .ok (.iconst 1, 1) := by decide +kernel
theorem dX2_hasRoom_12 : decode cX2_hasRoom 12 = .ok (.iaload, 1) := by decide +kernel
theorem dX2_hasRoom_13 : decode cX2_hasRoom 13 = .ok (.if_icmp .gt 7, 3) := by decide +kernel
theorem dX2_hasRoom_16 : decode cX2_hasRoom 16 = .ok (.iconst 1, 1) := by decide +kernel
theorem dX2_hasRoom_17 : decode cX2_hasRoom 17 = .ok (.goto 4, 3) := by decide +kernel
theorem dX2_hasRoom_20 : decode cX2_hasRoom 20 = .ok (.iconst 0, 1) := by decide +kernel
theorem dX2_hasRoom_21 : decode cX2_hasRoom 21 = .ok (.ireturn, 1) := by decide +kernel
theorem dX2_leaseRow_0 : decode cX2_leaseRow 0 = .ok (.aload_n 0, 1) := by decide +kernel
theorem dX2_leaseRow_1 : decode cX2_leaseRow 1 = .ok (.iload_n 2, 1) := by decide +kernel
theorem dX2_leaseRow_2 : decode cX2_leaseRow 2 = .ok (.invokevirtual 81, 3) := by decide +kernel
theorem dX2_leaseRow_5 : decode cX2_leaseRow 5 = .ok (.istore 4, 2) := by decide +kernel
theorem dX2_leaseRow_7 : decode cX2_leaseRow 7 = .ok (.iload 4, 2) := by decide +kernel
theorem dX2_leaseRow_9 : decode cX2_leaseRow 9 = .ok (.iconst (-1), 1) := by decide +kernel
theorem dX2_leaseRow_10 : decode cX2_leaseRow 10 = .ok (.if_icmp .ne 5, 3) := by decide +kernel
theorem dX2_leaseRow_13 : decode cX2_leaseRow 13 = .ok (.iconst (-1), 1) := by decide +kernel
theorem dX2_leaseRow_14 : decode cX2_leaseRow 14 = .ok (.ireturn, 1) := by decide +kernel
theorem dX2_leaseRow_15 : decode cX2_leaseRow 15 = .ok (.iload 4, 2) := by decide +kernel
theorem dX2_leaseRow_17 : decode cX2_leaseRow 17 = .ok (.istore 5, 2) := by decide +kernel
theorem dX2_leaseRow_19 : decode cX2_leaseRow 19 = .ok (.iload 5, 2) := by decide +kernel
theorem dX2_leaseRow_21 : decode cX2_leaseRow 21 = .ok (.iload 4, 2) := by decide +kernel
theorem dX2_leaseRow_23 : decode cX2_leaseRow 23 = .ok (.iload_n 2, 1) := by decide +kernel
theorem dX2_leaseRow_24 : decode cX2_leaseRow 24 = .ok (.iadd, 1) := by decide +kernel
theorem dX2_leaseRow_25 : decode cX2_leaseRow 25 = .ok (.if_icmp .ge 17, 3) := by decide +kernel
theorem dX2_leaseRow_28 : decode cX2_leaseRow 28 = .ok (.aload_n 0, 1) := by decide +kernel
theorem dX2_leaseRow_29 : decode cX2_leaseRow 29 = .ok (.iload_n 1, 1) := by decide +kernel
theorem dX2_leaseRow_30 : decode cX2_leaseRow 30 = .ok (.iload 5, 2) := by decide +kernel
theorem dX2_leaseRow_32 : decode cX2_leaseRow 32 = .ok (.iload_n 3, 1) := by decide +kernel
theorem dX2_leaseRow_33 : decode cX2_leaseRow 33 = .ok (.invokevirtual 91, 3) := by decide +kernel
theorem dX2_leaseRow_36 : decode cX2_leaseRow 36 = .ok (.iinc 5 1, 3) := by decide +kernel
theorem dX2_leaseRow_39 : decode cX2_leaseRow 39 = .ok (.goto (-20), 3) := by decide +kernel
theorem dX2_leaseRow_42 : decode cX2_leaseRow 42 = .ok (.iload 4, 2) := by decide +kernel
theorem dX2_leaseRow_44 : decode cX2_leaseRow 44 = .ok (.ireturn, 1) := by decide +kernel
theorem dX2_lease_0 : decode cX2_lease 0 = .ok (.aload_n 0, 1) := by decide +kernel
theorem dX2_lease_1 : decode cX2_lease 1 = .ok (.getfield 15, 3) := by decide +kernel
theorem dX2_lease_4 : decode cX2_lease 4 = .ok (.iload_n 2, 1) := by decide +kernel
theorem dX2_lease_5 : decode cX2_lease 5 = .ok (.iload_n 1, 1) := by decide +kernel
theorem dX2_lease_6 : decode cX2_lease 6 = .ok (.iastore, 1) := by decide +kernel
theorem dX2_lease_7 : decode cX2_lease 7 = .ok (.aload_n 0, 1) := by decide +kernel
theorem dX2_lease_8 : decode cX2_lease 8 = .ok (.getfield 18, 3) := by decide +kernel
theorem dX2_lease_11 : decode cX2_lease 11 = .ok (.iload_n 2, 1) := by decide +kernel
theorem dX2_lease_12 : decode cX2_lease 12 = .ok (.aload_n 0, 1) := by decide +kernel
theorem dX2_lease_13 : decode cX2_lease 13 = .ok (.getfield 48, 3) := by decide +kernel
theorem dX2_lease_16 : decode cX2_lease 16 = .ok (.iastore, 1) := by decide +kernel
theorem dX2_lease_17 : decode cX2_lease 17 = .ok (.aload_n 0, 1) := by decide +kernel
theorem dX2_lease_18 : decode cX2_lease 18 = .ok (.getfield 21, 3) := by decide +kernel
theorem dX2_lease_21 : decode cX2_lease 21 = .ok (.iload_n 2, 1) := by decide +kernel
theorem dX2_lease_22 : decode cX2_lease 22 = .ok (.aload_n 0, 1) := by decide +kernel
theorem dX2_lease_23 : decode cX2_lease 23 = .ok (.getfield 48, 3) := by decide +kernel
theorem dX2_lease_26 : decode cX2_lease 26 = .ok (.iload_n 3, 1) := by decide +kernel
theorem dX2_lease_27 : decode cX2_lease 27 = .ok (.iadd, 1) := by decide +kernel
theorem dX2_lease_28 : decode cX2_lease 28 = .ok (.iastore, 1) := by decide +kernel
theorem dX2_lease_29 : decode cX2_lease 29 = .ok (.aload_n 0, 1) := by decide +kernel
theorem dX2_lease_30 : decode cX2_lease 30 = .ok (.getfield 24, 3) := by decide +kernel
theorem dX2_lease_33 : decode cX2_lease 33 = .ok (.iload_n 2, 1) := by decide +kernel
theorem dX2_lease_34 : decode cX2_lease 34 = .ok (.aload_n 0, 1) := by decide +kernel
theorem dX2_lease_35 : decode cX2_lease 35 = .ok (.getfield 21, 3) := by decide +kernel
theorem dX2_lease_38 : decode cX2_lease 38 = .ok (.iload_n 2, 1) := by decide +kernel
theorem dX2_lease_39 : decode cX2_lease 39 = .ok (.iaload, 1) := by decide +kernel
theorem dX2_lease_40 : decode cX2_lease 40 = .ok (.aload_n 0, 1) := by decide +kernel
theorem dX2_lease_41 : decode cX2_lease 41 = .ok (.getfield 9, 3) := by decide +kernel
theorem dX2_lease_44 : decode cX2_lease 44 = .ok (.iconst 0, 1) := by decide +kernel
theorem dX2_lease_45 : decode cX2_lease 45 = .ok (.iaload, 1) := by decide +kernel
theorem dX2_lease_46 : decode cX2_lease 46 = .ok (.iadd, 1) := by decide +kernel
theorem dX2_lease_47 : decode cX2_lease 47 = .ok (.iastore, 1) := by decide +kernel
theorem dX2_lease_48 : decode cX2_lease 48 = .ok (.aload_n 0, 1) := by decide +kernel
theorem dX2_lease_49 : decode cX2_lease 49 = .ok (.getfield 27, 3) := by decide +kernel
theorem dX2_lease_52 : decode cX2_lease 52 = .ok (.iload_n 2, 1) := by decide +kernel
theorem dX2_lease_53 : decode cX2_lease 53 = .ok (.dup2, 1) := by decide +kernel
theorem dX2_lease_54 : decode cX2_lease 54 = .ok (.iaload, 1) := by decide +kernel
theorem dX2_lease_55 : decode cX2_lease 55 = .ok (.iconst 1, 1) := by decide +kernel
theorem dX2_lease_56 : decode cX2_lease 56 = .ok (.iadd, 1) := by decide +kernel
theorem dX2_lease_57 : decode cX2_lease 57 = .ok (.iastore, 1) := by decide +kernel
theorem dX2_lease_58 : decode cX2_lease 58 = .ok (.aload_n 0, 1) := by decide +kernel
theorem dX2_lease_59 : decode cX2_lease 59 = .ok (.getfield 39, 3) := by decide +kernel
theorem dX2_lease_62 : decode cX2_lease 62 = .ok (.iload_n 1, 1) := by decide +kernel
theorem dX2_lease_63 : decode cX2_lease 63 = .ok (.dup2, 1) := by decide +kernel
theorem dX2_lease_64 : decode cX2_lease 64 = .ok (.iaload, 1) := by decide +kernel
theorem dX2_lease_65 : decode cX2_lease 65 = .ok (.iconst 1, 1) := by decide +kernel
theorem dX2_lease_66 : decode cX2_lease 66 = .ok (.iadd, 1) := by decide +kernel
theorem dX2_lease_67 : decode cX2_lease 67 = .ok (.iastore, 1) := by decide +kernel
theorem dX2_lease_68 : decode cX2_lease 68 = .ok (.return_, 1) := by decide +kernel
theorem dX2_prolong_0 : decode cX2_prolong 0 = .ok (.aload_n 0, 1) := by decide +kernel
theorem dX2_prolong_1 : decode cX2_prolong 1 = .ok (.getfield 21, 3) := by decide +kernel
theorem dX2_prolong_4 : decode cX2_prolong 4 = .ok (.iload_n 1, 1) := by decide +kernel
theorem dX2_prolong_5 : decode cX2_prolong 5 = .ok (.iaload, 1) := by decide +kernel
theorem dX2_prolong_6 : decode cX2_prolong 6 = .ok (.istore_n 3, 1) := by decide +kernel
theorem dX2_prolong_7 : decode cX2_prolong 7 = .ok (.aload_n 0, 1) := by decide +kernel
theorem dX2_prolong_8 : decode cX2_prolong 8 = .ok (.dup, 1) := by decide +kernel
theorem dX2_prolong_9 : decode cX2_prolong 9 = .ok (.getfield 52, 3) := by decide +kernel
theorem dX2_prolong_12 : decode cX2_prolong 12 = .ok (.iconst 1, 1) := by decide +kernel
theorem dX2_prolong_13 : decode cX2_prolong 13 = .ok (.iadd, 1) := by decide +kernel
theorem dX2_prolong_14 : decode cX2_prolong 14 = .ok (.putfield 52, 3) := by decide +kernel
theorem dX2_prolong_17 : decode cX2_prolong 17 = .ok (.aload_n 0, 1) := by decide +kernel
theorem dX2_prolong_18 : decode cX2_prolong 18 = .ok (.iload_n 1, 1) := by decide +kernel
theorem dX2_prolong_19 : decode cX2_prolong 19 = .ok (.invokevirtual 95, 3) := by decide +kernel
theorem dX2_prolong_22 : decode cX2_prolong 22 = .ok (.iconst 2, 1) := by decide +kernel
theorem dX2_prolong_23 : decode cX2_prolong 23 = .ok (.if_icmp .ne 13, 3) := by decide +kernel
theorem dX2_prolong_26 : decode cX2_prolong 26 = .ok (.aload_n 0, 1) := by decide +kernel
theorem dX2_prolong_27 : decode cX2_prolong 27 = .ok (.dup, 1) := by decide +kernel
theorem dX2_prolong_28 : decode cX2_prolong 28 = .ok (.getfield 55, 3) := by decide +kernel
theorem dX2_prolong_31 : decode cX2_prolong 31 = .ok (.iconst 1, 1) := by decide +kernel
theorem dX2_prolong_32 : decode cX2_prolong 32 = .ok (.iadd, 1) := by decide +kernel
theorem dX2_prolong_33 : decode cX2_prolong 33 = .ok (.putfield 55, 3) := by decide +kernel
theorem dX2_prolong_36 : decode cX2_prolong 36 = .ok (.aload_n 0, 1) := by decide +kernel
theorem dX2_prolong_37 : decode cX2_prolong 37 = .ok (.getfield 21, 3) := by decide +kernel
theorem dX2_prolong_40 : decode cX2_prolong 40 = .ok (.iload_n 1, 1) := by decide +kernel
theorem dX2_prolong_41 : decode cX2_prolong 41 = .ok (.aload_n 0, 1) := by decide +kernel
theorem dX2_prolong_42 : decode cX2_prolong 42 = .ok (.getfield 48, 3) := by decide +kernel
theorem dX2_prolong_45 : decode cX2_prolong 45 = .ok (.iload_n 2, 1) := by decide +kernel
theorem dX2_prolong_46 : decode cX2_prolong 46 = .ok (.iadd, 1) := by decide +kernel
theorem dX2_prolong_47 : decode cX2_prolong 47 = .ok (.iastore, 1) := by decide +kernel
theorem dX2_prolong_48 : decode cX2_prolong 48 = .ok (.aload_n 0, 1) := by decide +kernel
theorem dX2_prolong_49 : decode cX2_prolong 49 = .ok (.getfield 24, 3) := by decide +kernel
theorem dX2_prolong_52 : decode cX2_prolong 52 = .ok (.iload_n 1, 1) := by decide +kernel
theorem dX2_prolong_53 : decode cX2_prolong 53 = .ok (.aload_n 0, 1) := by decide +kernel
theorem dX2_prolong_54 : decode cX2_prolong 54 = .ok (.getfield 21, 3) := by decide +kernel
theorem dX2_prolong_57 : decode cX2_prolong 57 = .ok (.iload_n 1, 1) := by decide +kernel
theorem dX2_prolong_58 : decode cX2_prolong 58 = .ok (.iaload, 1) := by decide +kernel
theorem dX2_prolong_59 : decode cX2_prolong 59 = .ok (.aload_n 0, 1) := by decide +kernel
theorem dX2_prolong_60 : decode cX2_prolong 60 = .ok (.getfield 9, 3) := by decide +kernel
theorem dX2_prolong_63 : decode cX2_prolong 63 = .ok (.iconst 0, 1) := by decide +kernel
theorem dX2_prolong_64 : decode cX2_prolong 64 = .ok (.iaload, 1) := by decide +kernel
theorem dX2_prolong_65 : decode cX2_prolong 65 = .ok (.iadd, 1) := by decide +kernel
theorem dX2_prolong_66 : decode cX2_prolong 66 = .ok (.iastore, 1) := by decide +kernel
theorem dX2_prolong_67 : decode cX2_prolong 67 = .ok (.iload_n 3, 1) := by decide +kernel
theorem dX2_prolong_68 : decode cX2_prolong 68 = .ok (.ireturn, 1) := by decide +kernel
theorem dX2_freeSpan_0 : decode cX2_freeSpan 0 = .ok (.iconst 0, 1) := by decide +kernel
theorem dX2_freeSpan_1 : decode cX2_freeSpan 1 = .ok (.istore 4, 2) := by decide +kernel
theorem dX2_freeSpan_3 : decode cX2_freeSpan 3 = .ok (.iload_n 2, 1) := by decide +kernel
theorem dX2_freeSpan_4 : decode cX2_freeSpan 4 = .ok (.istore 5, 2) := by decide +kernel
theorem dX2_freeSpan_6 : decode cX2_freeSpan 6 = .ok (.iload 5, 2) := by decide +kernel
theorem dX2_freeSpan_8 : decode cX2_freeSpan 8 = .ok (.iload_n 3, 1) := by decide +kernel
theorem dX2_freeSpan_9 : decode cX2_freeSpan 9 = .ok (.if_icmp .gt 29, 3) := by decide +kernel
theorem dX2_freeSpan_12 : decode cX2_freeSpan 12 = .ok (.aload_n 0, 1) := by decide +kernel
theorem dX2_freeSpan_13 : decode cX2_freeSpan 13 = .ok (.getfield 15, 3) := by decide +kernel
theorem dX2_freeSpan_16 : decode cX2_freeSpan 16 = .ok (.iload 5, 2) := by decide +kernel
theorem dX2_freeSpan_18 : decode cX2_freeSpan 18 = .ok (.iaload, 1) := by decide +kernel
theorem dX2_freeSpan_19 : decode cX2_freeSpan 19 = .ok (.iload_n 1, 1) := by decide +kernel
theorem dX2_freeSpan_20 : decode cX2_freeSpan 20 = .ok (.if_icmp .ne 12, 3) := by decide +kernel
theorem dX2_freeSpan_23 : decode cX2_freeSpan 23 = .ok (.iinc 4 1, 3) := by decide +kernel
theorem dX2_freeSpan_26 : decode cX2_freeSpan 26 = .ok (.aload_n 0, 1) := by decide +kernel
theorem dX2_freeSpan_27 : decode cX2_freeSpan 27 = .ok (.iload 5, 2) := by decide +kernel
theorem dX2_freeSpan_29 : decode cX2_freeSpan 29 = .ok (.invokevirtual 98, 3) := by decide +kernel
theorem dX2_freeSpan_32 : decode cX2_freeSpan 32 = .ok (.iinc 5 1, 3) := by decide +kernel
theorem dX2_freeSpan_35 : decode cX2_freeSpan 35 = .ok (.goto (-29), 3) := by decide +kernel
theorem dX2_freeSpan_38 : decode cX2_freeSpan 38 = .ok (.iload 4, 2) := by decide +kernel
theorem dX2_freeSpan_40 : decode cX2_freeSpan 40 = .ok (.ireturn, 1) := by decide +kernel
theorem dX2_free_0 : decode cX2_free 0 = .ok (.aload_n 0, 1) := by decide +kernel
theorem dX2_free_1 : decode cX2_free 1 = .ok (.getfield 15, 3) := by decide +kernel
theorem dX2_free_4 : decode cX2_free 4 = .ok (.iload_n 1, 1) := by decide +kernel
theorem dX2_free_5 : decode cX2_free 5 = .ok (.iconst (-1), 1) := by decide +kernel
theorem dX2_free_6 : decode cX2_free 6 = .ok (.iastore, 1) := by decide +kernel
theorem dX2_free_7 : decode cX2_free 7 = .ok (.aload_n 0, 1) := by decide +kernel
theorem dX2_free_8 : decode cX2_free 8 = .ok (.dup, 1) := by decide +kernel
theorem dX2_free_9 : decode cX2_free 9 = .ok (.getfield 58, 3) := by decide +kernel
theorem dX2_free_12 : decode cX2_free 12 = .ok (.iconst 1, 1) := by decide +kernel
theorem dX2_free_13 : decode cX2_free 13 = .ok (.iadd, 1) := by decide +kernel
theorem dX2_free_14 : decode cX2_free 14 = .ok (.putfield 58, 3) := by decide +kernel
theorem dX2_free_17 : decode cX2_free 17 = .ok (.iconst 0, 1) := by decide +kernel
theorem dX2_free_18 : decode cX2_free 18 = .ok (.istore_n 2, 1) := by decide +kernel
theorem dX2_free_19 : decode cX2_free 19 = .ok (.iload_n 2, 1) := by decide +kernel
theorem dX2_free_20 : decode cX2_free 20 = .ok (.iconst 3, 1) := by decide +kernel
theorem dX2_free_21 : decode cX2_free 21 = .ok (.if_icmp .ge 88, 3) := by decide +kernel
theorem dX2_free_24 : decode cX2_free 24 = .ok (.aload_n 0, 1) := by decide +kernel
theorem dX2_free_25 : decode cX2_free 25 = .ok (.getfield 15, 3) := by decide +kernel
theorem dX2_free_28 : decode cX2_free 28 = .ok (.iload_n 1, 1) := by decide +kernel
theorem dX2_free_29 : decode cX2_free 29 = .ok (.iaload, 1) := by decide +kernel
theorem dX2_free_30 : decode cX2_free 30 = .ok (.iconst (-1), 1) := by decide +kernel
theorem dX2_free_31 : decode cX2_free 31 = .ok (.if_icmp .ne 78, 3) := by decide +kernel
theorem dX2_free_34 : decode cX2_free 34 = .ok (.aload_n 0, 1) := by decide +kernel
theorem dX2_free_35 : decode cX2_free 35 = .ok (.getfield 30, 3) := by decide +kernel
theorem dX2_free_38 : decode cX2_free 38 = .ok (.iload_n 1, 1) := by decide +kernel
theorem dX2_free_39 : decode cX2_free 39 = .ok (.iaload, 1) := by decide +kernel
theorem dX2_free_40 : decode cX2_free 40 = .ok (.ifCond .le 69, 3) := by decide +kernel
theorem dX2_free_43 : decode cX2_free 43 = .ok (.aload_n 0, 1) := by decide +kernel
theorem dX2_free_44 : decode cX2_free 44 = .ok (.getfield 33, 3) := by decide +kernel
theorem dX2_free_47 : decode cX2_free 47 = .ok (.iload_n 1, 1) := by decide +kernel
theorem dX2_free_48 : decode cX2_free 48 = .ok (.iconst 3, 1) := by decide +kernel
theorem dX2_free_49 : decode cX2_free 49 = .ok (.imul, 1) := by decide +kernel
theorem dX2_free_50 : decode cX2_free 50 = .ok (.iaload, 1) := by decide +kernel
theorem dX2_free_51 : decode cX2_free 51 = .ok (.istore_n 3, 1) := by decide +kernel
theorem dX2_free_52 : decode cX2_free 52 = .ok (.aload_n 0, 1) := by decide +kernel
theorem dX2_free_53 : decode cX2_free 53 = .ok (.getfield 36, 3) := by decide +kernel
theorem dX2_free_56 : decode cX2_free 56 = .ok (.iload_n 1, 1) := by decide +kernel
theorem dX2_free_57 : decode cX2_free 57 = .ok (.iconst 3, 1) := by decide +kernel
theorem dX2_free_58 : decode cX2_free 58 = .ok (.imul, 1) := by decide +kernel
theorem dX2_free_59 : decode cX2_free 59 = .ok (.iaload, 1) := by decide +kernel
theorem dX2_free_60 : decode cX2_free 60 = .ok (.istore 4, 2) := by decide +kernel
theorem dX2_free_62 : decode cX2_free 62 = .ok (.aload_n 0, 1) := by decide +kernel
theorem dX2_free_63 : decode cX2_free 63 = .ok (.iload_n 1, 1) := by decide +kernel
theorem dX2_free_64 : decode cX2_free 64 = .ok (.iconst 0, 1) := by decide +kernel
theorem dX2_free_65 : decode cX2_free 65 = .ok (.invokevirtual 102, 3) := by decide +kernel
theorem dX2_free_68 : decode cX2_free 68 = .ok (.aload_n 0, 1) := by decide +kernel
theorem dX2_free_69 : decode cX2_free 69 = .ok (.iload_n 3, 1) := by decide +kernel
theorem dX2_free_70 : decode cX2_free 70 = .ok (.invokevirtual 88, 3) := by decide +kernel
theorem dX2_free_73 : decode cX2_free 73 = .ok (.aload_n 0, 1) := by decide +kernel
theorem dX2_free_74 : decode cX2_free 74 = .ok (.getfield 9, 3) := by decide +kernel
theorem dX2_free_77 : decode cX2_free 77 = .ok (.iconst 1, 1) := by decide +kernel
theorem dX2_free_78 : decode cX2_free 78 = .ok (.iaload, 1) := by decide +kernel
theorem dX2_free_79 : decode cX2_free 79 = .ok (.if_icmp .ge 14, 3) := by decide +kernel
theorem dX2_free_82 : decode cX2_free 82 = .ok (.aload_n 0, 1) := by decide +kernel
theorem dX2_free_83 : decode cX2_free 83 = .ok (.iload_n 3, 1) := by decide +kernel
theorem dX2_free_84 : decode cX2_free 84 = .ok (.iload_n 1, 1) := by decide +kernel
theorem dX2_free_85 : decode cX2_free 85 = .ok (.iload 4, 2) := by decide +kernel
theorem dX2_free_87 : decode cX2_free 87 = .ok (.invokevirtual 91, 3) := by decide +kernel
theorem dX2_free_90 : decode cX2_free 90 = .ok (.goto 13, 3) := by decide +kernel
theorem dX2_free_93 : decode cX2_free 93 = .ok (.aload_n 0, 1) := by decide +kernel
theorem dX2_free_94 : decode cX2_free 94 = .ok (.getfield 42, 3) := by decide +kernel
theorem dX2_free_97 : decode cX2_free 97 = .ok (.iload_n 3, 1) := by decide +kernel
theorem dX2_free_98 : decode cX2_free 98 = .ok (.dup2, 1) := by decide +kernel
theorem dX2_free_99 : decode cX2_free 99 = .ok (.iaload, 1) := by decide +kernel
theorem dX2_free_100 : decode cX2_free 100 = .ok (.iconst 1, 1) := by decide +kernel
theorem dX2_free_101 : decode cX2_free 101 = .ok (.iadd, 1) := by decide +kernel
theorem dX2_free_102 : decode cX2_free 102 = .ok (.iastore, 1) := by decide +kernel
theorem dX2_free_103 : decode cX2_free 103 = .ok (.iinc 2 1, 3) := by decide +kernel
theorem dX2_free_106 : decode cX2_free 106 = .ok (.goto (-87), 3) := by decide +kernel
theorem dX2_free_109 : decode cX2_free 109 = .ok (.return_, 1) := by decide +kernel
theorem dX2_addWish_0 : decode cX2_addWish 0 = .ok (.aload_n 0, 1) := by decide +kernel
theorem dX2_addWish_1 : decode cX2_addWish 1 = .ok (.getfield 15, 3) := by decide +kernel
theorem dX2_addWish_4 : decode cX2_addWish 4 = .ok (.iload_n 2, 1) := by decide +kernel
theorem dX2_addWish_5 : decode cX2_addWish 5 = .ok (.iaload, 1) := by decide +kernel
theorem dX2_addWish_6 : decode cX2_addWish 6 = .ok (.iconst (-1), 1) := by decide +kernel
theorem dX2_addWish_7 : decode cX2_addWish 7 = .ok (.if_icmp .ne 12, 3) := by decide +kernel
theorem dX2_addWish_10 : decode cX2_addWish 10 = .ok (.aload_n 0, 1) := by decide +kernel
theorem dX2_addWish_11 : decode cX2_addWish 11 = .ok (.iload_n 1, 1) := by decide +kernel
theorem dX2_addWish_12 : decode cX2_addWish 12 = .ok (.iload_n 2, 1) := by decide +kernel
theorem dX2_addWish_13 : decode cX2_addWish 13 = .ok (.iload_n 3, 1) := by decide +kernel
theorem dX2_addWish_14 : decode cX2_addWish 14 = .ok (.invokevirtual 91, 3) := by decide +kernel
theorem dX2_addWish_17 : decode cX2_addWish 17 = .ok (.iconst 0, 1) := by decide +kernel
theorem dX2_addWish_18 : decode cX2_addWish 18 = .ok (.ireturn, 1) := by decide +kernel
theorem dX2_addWish_19 : decode cX2_addWish 19 = .ok (.aload_n 0, 1) := by decide +kernel
theorem dX2_addWish_20 : decode cX2_addWish 20 = .ok (.getfield 30, 3) := by decide +kernel
theorem dX2_addWish_23 : decode cX2_addWish 23 = .ok (.iload_n 2, 1) := by decide +kernel
theorem dX2_addWish_24 : decode cX2_addWish 24 = .ok (.iaload, 1) := by decide +kernel
theorem dX2_addWish_25 : decode cX2_addWish 25 = .ok (.iconst 3, 1) := by decide +kernel
theorem dX2_addWish_26 : decode cX2_addWish 26 = .ok (.if_icmp .ge 41, 3) := by decide +kernel
theorem dX2_addWish_29 : decode cX2_addWish 29 = .ok (.iload_n 2, 1) := by decide +kernel
theorem dX2_addWish_30 : decode cX2_addWish 30 = .ok (.iconst 3, 1) := by decide +kernel
theorem dX2_addWish_31 : decode cX2_addWish 31 = .ok (.imul, 1) := by decide +kernel
theorem dX2_addWish_32 : decode cX2_addWish 32 = .ok (.aload_n 0, 1) := by decide +kernel
theorem dX2_addWish_33 : decode cX2_addWish 33 = .ok (.getfield 30, 3) := by decide +kernel
theorem dX2_addWish_36 : decode cX2_addWish 36 = .ok (.iload_n 2, 1) := by decide +kernel
theorem dX2_addWish_37 : decode cX2_addWish 37 = .ok (.iaload, 1) := by decide +kernel
theorem dX2_addWish_38 : decode cX2_addWish 38 = .ok (.iadd, 1) := by decide +kernel
theorem dX2_addWish_39 : decode cX2_addWish 39 = .ok (.istore 4, 2) := by decide +kernel
theorem dX2_addWish_41 : decode cX2_addWish 41 = .ok (.aload_n 0, 1) := by decide +kernel
theorem dX2_addWish_42 : decode cX2_addWish 42 = .ok (.getfield 33, 3) := by decide +kernel
theorem dX2_addWish_45 : decode cX2_addWish 45 = .ok (.iload 4, 2) := by decide +kernel
theorem dX2_addWish_47 : decode cX2_addWish 47 = .ok (.iload_n 1, 1) := by decide +kernel
theorem dX2_addWish_48 : decode cX2_addWish 48 = .ok (.iastore, 1) := by decide +kernel
theorem dX2_addWish_49 : decode cX2_addWish 49 = .ok (.aload_n 0, 1) := by decide +kernel
theorem dX2_addWish_50 : decode cX2_addWish 50 = .ok (.getfield 36, 3) := by decide +kernel
theorem dX2_addWish_53 : decode cX2_addWish 53 = .ok (.iload 4, 2) := by decide +kernel
theorem dX2_addWish_55 : decode cX2_addWish 55 = .ok (.iload_n 3, 1) := by decide +kernel
theorem dX2_addWish_56 : decode cX2_addWish 56 = .ok (.iastore, 1) := by decide +kernel
theorem dX2_addWish_57 : decode cX2_addWish 57 = .ok (.aload_n 0, 1) := by decide +kernel
theorem dX2_addWish_58 : decode cX2_addWish 58 = .ok (.getfield 30, 3) := by decide +kernel
theorem dX2_addWish_61 : decode cX2_addWish 61 = .ok (.iload_n 2, 1) := by decide +kernel
theorem dX2_addWish_62 : decode cX2_addWish 62 = .ok (.dup2, 1) := by decide +kernel
theorem dX2_addWish_63 : decode cX2_addWish 63 = .ok (.iaload, 1) := by decide +kernel
theorem dX2_addWish_64 : decode cX2_addWish 64 = .ok (.iconst 1, 1) := by decide +kernel
theorem dX2_addWish_65 : decode cX2_addWish 65 = .ok (.iadd, 1) := by decide +kernel
theorem dX2_addWish_66 : decode cX2_addWish 66 = .ok (.iastore, 1) := by decide +kernel
theorem dX2_addWish_67 : decode cX2_addWish 67 = .ok (.aload_n 0, 1) := by decide +kernel
theorem dX2_addWish_68 : decode cX2_addWish 68 = .ok (.getfield 30, 3) := by decide +kernel
theorem dX2_addWish_71 : decode cX2_addWish 71 = .ok (.iload_n 2, 1) := by decide +kernel
theorem dX2_addWish_72 : decode cX2_addWish 72 = .ok (.iaload, 1) := by decide +kernel
theorem dX2_addWish_73 : decode cX2_addWish 73 = .ok (.ireturn, 1) := by decide +kernel
theorem dX2_placeOfWish_0 : decode cX2_placeOfWish 0 = .ok (.iconst 0, 1) := by decide +kernel
theorem dX2_placeOfWish_1 : decode cX2_placeOfWish 1 = .ok (.istore_n 3, 1) := by decide +kernel
theorem dX2_placeOfWish_2 : decode cX2_placeOfWish 2 = .ok (.iload_n 3, 1) := by decide +kernel
theorem dX2_placeOfWish_3 : decode cX2_placeOfWish 3 = .ok (.aload_n 0, 1) := by decide +kernel
theorem dX2_placeOfWish_4 : decode cX2_placeOfWish 4 = .ok (.getfield 30, 3) := by decide +kernel
theorem dX2_placeOfWish_7 : decode cX2_placeOfWish 7 = .ok (.iload_n 2, 1) := by decide +kernel
theorem dX2_placeOfWish_8 : decode cX2_placeOfWish 8 = .ok (.iaload, 1) := by decide +kernel
theorem dX2_placeOfWish_9 : decode cX2_placeOfWish 9 = .ok (.if_icmp .ge 25, 3) := by decide +kernel
theorem dX2_placeOfWish_12 : decode cX2_placeOfWish 12 = .ok (.aload_n 0, 1) := by decide +kernel
theorem dX2_placeOfWish_13 : decode cX2_placeOfWish 13 = .ok (.getfield 33, 3) := by decide +kernel
theorem dX2_placeOfWish_16 : decode cX2_placeOfWish 16 = .ok (.iload_n 2, 1) := by decide +kernel
theorem dX2_placeOfWish_17 : decode cX2_placeOfWish 17 = .ok (.iconst 3, 1) := by decide +kernel
theorem dX2_placeOfWish_18 : decode cX2_placeOfWish 18 = .ok (.imul, 1) := by decide +kernel
theorem dX2_placeOfWish_19 : decode cX2_placeOfWish 19 = .ok (.iload_n 3, 1) := by decide +kernel
theorem dX2_placeOfWish_20 : decode cX2_placeOfWish 20 = .ok (.iadd, 1) := by decide +kernel
theorem dX2_placeOfWish_21 : decode cX2_placeOfWish 21 = .ok (.iaload, 1) := by decide +kernel
theorem dX2_placeOfWish_22 : decode cX2_placeOfWish 22 = .ok (.iload_n 1, 1) := by decide +kernel
theorem dX2_placeOfWish_23 : decode cX2_placeOfWish 23 = .ok (.if_icmp .ne 5, 3) := by decide +kernel
theorem dX2_placeOfWish_26 : decode cX2_placeOfWish 26 = .ok (.iload_n 3, 1) := by decide +kernel
theorem dX2_placeOfWish_27 : decode cX2_placeOfWish 27 = .ok (.ireturn, 1) := by decide +kernel
theorem dX2_placeOfWish_28 : decode cX2_placeOfWish 28 = .ok (.iinc 3 1, 3) := by decide +kernel
theorem dX2_placeOfWish_31 : decode cX2_placeOfWish 31 = .ok (.goto (-29), 3) := by decide +kernel
theorem dX2_placeOfWish_34 : decode cX2_placeOfWish 34 = .ok (.iconst (-1), 1) := by decide +kernel
theorem dX2_placeOfWish_35 : decode cX2_placeOfWish 35 = .ok (.ireturn, 1) := by decide +kernel
theorem dX2_dropWish_0 : decode cX2_dropWish 0 = .ok (.iload_n 2, 1) := by decide +kernel
theorem dX2_dropWish_1 : decode cX2_dropWish 1 = .ok (.istore_n 3, 1) := by decide +kernel
theorem dX2_dropWish_2 : decode cX2_dropWish 2 = .ok (.iload_n 3, 1) := by decide +kernel
theorem dX2_dropWish_3 : decode cX2_dropWish 3 = .ok (.aload_n 0, 1) := by decide +kernel
theorem dX2_dropWish_4 : decode cX2_dropWish 4 = .ok (.getfield 30, 3) := by decide +kernel
theorem dX2_dropWish_7 : decode cX2_dropWish 7 = .ok (.iload_n 1, 1) := by decide +kernel
theorem dX2_dropWish_8 : decode cX2_dropWish 8 = .ok (.iaload, 1) := by decide +kernel
theorem dX2_dropWish_9 : decode cX2_dropWish 9 = .ok (.iconst 1, 1) := by decide +kernel
theorem dX2_dropWish_10 : decode cX2_dropWish 10 = .ok (.isub, 1) := by decide +kernel
theorem dX2_dropWish_11 : decode cX2_dropWish 11 = .ok (.if_icmp .ge 48, 3) := by decide +kernel
theorem dX2_dropWish_14 : decode cX2_dropWish 14 = .ok (.iload_n 1, 1) := by decide +kernel
theorem dX2_dropWish_15 : decode cX2_dropWish 15 = .ok (.iconst 3, 1) := by decide +kernel
theorem dX2_dropWish_16 : decode cX2_dropWish 16 = .ok (.imul, 1) := by decide +kernel
theorem dX2_dropWish_17 : decode cX2_dropWish 17 = .ok (.iload_n 3, 1) := by decide +kernel
theorem dX2_dropWish_18 : decode cX2_dropWish 18 = .ok (.iadd, 1) := by decide +kernel
theorem dX2_dropWish_19 : decode cX2_dropWish 19 = .ok (.istore 4, 2) := by decide +kernel
theorem dX2_dropWish_21 : decode cX2_dropWish 21 = .ok (.aload_n 0, 1) := by decide +kernel
theorem dX2_dropWish_22 : decode cX2_dropWish 22 = .ok (.getfield 33, 3) := by decide +kernel
theorem dX2_dropWish_25 : decode cX2_dropWish 25 = .ok (.iload 4, 2) := by decide +kernel
theorem dX2_dropWish_27 : decode cX2_dropWish 27 = .ok (.aload_n 0, 1) := by decide +kernel
theorem dX2_dropWish_28 : decode cX2_dropWish 28 = .ok (.getfield 33, 3) := by decide +kernel
theorem dX2_dropWish_31 : decode cX2_dropWish 31 = .ok (.iload 4, 2) := by decide +kernel
theorem dX2_dropWish_33 : decode cX2_dropWish 33 = .ok (.iconst 1, 1) := by decide +kernel
theorem dX2_dropWish_34 : decode cX2_dropWish 34 = .ok (.iadd, 1) := by decide +kernel
theorem dX2_dropWish_35 : decode cX2_dropWish 35 = .ok (.iaload, 1) := by decide +kernel
theorem dX2_dropWish_36 : decode cX2_dropWish 36 = .ok (.iastore, 1) := by decide +kernel
theorem dX2_dropWish_37 : decode cX2_dropWish 37 = .ok (.aload_n 0, 1) := by decide +kernel
theorem dX2_dropWish_38 : decode cX2_dropWish 38 = .ok (.getfield 36, 3) := by decide +kernel
theorem dX2_dropWish_41 : decode cX2_dropWish 41 = .ok (.iload 4, 2) := by decide +kernel
theorem dX2_dropWish_43 : decode cX2_dropWish 43 = .ok (.aload_n 0, 1) := by decide +kernel
theorem dX2_dropWish_44 : decode cX2_dropWish 44 = .ok (.getfield 36, 3) := by decide +kernel
theorem dX2_dropWish_47 : decode cX2_dropWish 47 = .ok (.iload 4, 2) := by decide +kernel
theorem dX2_dropWish_49 : decode cX2_dropWish 49 = .ok (.iconst 1, 1) := by decide +kernel
theorem dX2_dropWish_50 : decode cX2_dropWish 50 = .ok (.iadd, 1) := by decide +kernel
theorem dX2_dropWish_51 : decode cX2_dropWish 51 = .ok (.iaload, 1) := by decide +kernel
theorem dX2_dropWish_52 : decode cX2_dropWish 52 = .ok (.iastore, 1) := by decide +kernel
theorem dX2_dropWish_53 : decode cX2_dropWish 53 = .ok (.iinc 3 1, 3) := by decide +kernel
theorem dX2_dropWish_56 : decode cX2_dropWish 56 = .ok (.goto (-54), 3) := by decide +kernel
theorem dX2_dropWish_59 : decode cX2_dropWish 59 = .ok (.aload_n 0, 1) := by decide +kernel
theorem dX2_dropWish_60 : decode cX2_dropWish 60 = .ok (.getfield 30, 3) := by decide +kernel
theorem dX2_dropWish_63 : decode cX2_dropWish 63 = .ok (.iload_n 1, 1) := by decide +kernel
theorem dX2_dropWish_64 : decode cX2_dropWish 64 = .ok (.dup2, 1) := by decide +kernel
theorem dX2_dropWish_65 : decode cX2_dropWish 65 = .ok (.iaload, 1) := by decide +kernel
theorem dX2_dropWish_66 : decode cX2_dropWish 66 = .ok (.iconst 1, 1) := by decide +kernel
theorem dX2_dropWish_67 : decode cX2_dropWish 67 = .ok (.isub, 1) := by decide +kernel
theorem dX2_dropWish_68 : decode cX2_dropWish 68 = .ok (.iastore, 1) := by decide +kernel
theorem dX2_dropWish_69 : decode cX2_dropWish 69 = .ok (.return_, 1) := by decide +kernel
theorem dX2_passUnits_0 : decode cX2_passUnits 0 = .ok (.aload_n 0, 1) := by decide +kernel
theorem dX2_passUnits_1 : decode cX2_passUnits 1 = .ok (.getfield 58, 3) := by decide +kernel
theorem dX2_passUnits_4 : decode cX2_passUnits 4 = .ok (.istore_n 2, 1) := by decide +kernel
theorem dX2_passUnits_5 : decode cX2_passUnits 5 = .ok (.iconst 0, 1) := by decide +kernel
theorem dX2_passUnits_6 : decode cX2_passUnits 6 = .ok (.istore_n 3, 1) := by decide +kernel
theorem dX2_passUnits_7 : decode cX2_passUnits 7 = .ok (.iload_n 3, 1) := by decide +kernel
theorem dX2_passUnits_8 : decode cX2_passUnits 8 = .ok (.iload_n 1, 1) := by decide +kernel
theorem dX2_passUnits_9 : decode cX2_passUnits 9 = .ok (.if_icmp .ge 27, 3) := by decide +kernel
theorem dX2_passUnits_12 : decode cX2_passUnits 12 = .ok (.aload_n 0, 1) := by decide +kernel
theorem dX2_passUnits_13 : decode cX2_passUnits 13 = .ok (.invokevirtual 106, 3) := by decide +kernel
theorem dX2_passUnits_16 : decode cX2_passUnits 16 = .ok (.aload_n 0, 1) := by decide +kernel
theorem dX2_passUnits_17 : decode cX2_passUnits 17 = .ok (.dup, 1) := by decide +kernel
theorem dX2_passUnits_18 : decode cX2_passUnits 18 = .ok (.getfield 48, 3) := by decide +kernel
theorem dX2_passUnits_21 : decode cX2_passUnits 21 = .ok (.iconst 1, 1) := by decide +kernel
theorem dX2_passUnits_22 : decode cX2_passUnits 22 = .ok (.iadd, 1) := by decide +kernel
theorem dX2_passUnits_23 : decode cX2_passUnits 23 = .ok (.putfield 48, 3) := by decide +kernel
theorem dX2_passUnits_26 : decode cX2_passUnits 26 = .ok (.aload_n 0, 1) := by decide +kernel
theorem dX2_passUnits_27 : decode cX2_passUnits 27 = .ok (.invokevirtual 109, 3) := by decide +kernel
theorem dX2_passUnits_30 : decode cX2_passUnits 30 = .ok (.iinc 3 1, 3) := by decide +kernel
theorem dX2_passUnits_33 : decode cX2_passUnits 33 = .ok (.goto (-26), 3) := by decide +kernel
theorem dX2_passUnits_36 : decode cX2_passUnits 36 = .ok (.aload_n 0, 1) := by decide +kernel
theorem dX2_passUnits_37 : decode cX2_passUnits 37 = .ok (.getfield 58, 3) := by decide +kernel
theorem dX2_passUnits_40 : decode cX2_passUnits 40 = .ok (.iload_n 2, 1) := by decide +kernel
theorem dX2_passUnits_41 : decode cX2_passUnits 41 = .ok (.isub, 1) := by decide +kernel
theorem dX2_passUnits_42 : decode cX2_passUnits 42 = .ok (.ireturn, 1) := by decide +kernel
theorem dX2_leap_0 : decode cX2_leap 0 = .ok (.iload_n 1, 1) := by decide +kernel
theorem dX2_leap_1 : decode cX2_leap 1 = .ok (.iconst 1, 1) := by decide +kernel
theorem dX2_leap_2 : decode cX2_leap 2 = .ok (.iadd, 1) := by decide +kernel
theorem dX2_leap_3 : decode cX2_leap 3 = .ok (.istore_n 2, 1) := by decide +kernel
theorem dX2_leap_4 : decode cX2_leap 4 = .ok (.iconst 0, 1) := by decide +kernel
theorem dX2_leap_5 : decode cX2_leap 5 = .ok (.istore_n 3, 1) := by decide +kernel
theorem dX2_leap_6 : decode cX2_leap 6 = .ok (.iload_n 3, 1) := by decide +kernel
theorem dX2_leap_7 : decode cX2_leap 7 = .ok (.bipush 64, 2) := by decide +kernel
theorem dX2_leap_9 : decode cX2_leap 9 = .ok (.if_icmp .ge 36, 3) := by decide +kernel
theorem dX2_leap_12 : decode cX2_leap 12 = .ok (.aload_n 0, 1) := by decide +kernel
theorem dX2_leap_13 : decode cX2_leap 13 = .ok (.getfield 15, 3) := by decide +kernel
theorem dX2_leap_16 : decode cX2_leap 16 = .ok (.iload_n 3, 1) := by decide +kernel
theorem dX2_leap_17 : decode cX2_leap 17 = .ok (.iaload, 1) := by decide +kernel
theorem dX2_leap_18 : decode cX2_leap 18 = .ok (.iconst (-1), 1) := by decide +kernel
theorem dX2_leap_19 : decode cX2_leap 19 = .ok (.if_icmp .eq 20, 3) := by decide +kernel
theorem dX2_leap_22 : decode cX2_leap 22 = .ok (.aload_n 0, 1) := by decide +kernel
theorem dX2_leap_23 : decode cX2_leap 23 = .ok (.getfield 24, 3) := by decide +kernel
theorem dX2_leap_26 : decode cX2_leap 26 = .ok (.iload_n 3, 1) := by decide +kernel
theorem dX2_leap_27 : decode cX2_leap 27 = .ok (.iaload, 1) := by decide +kernel
theorem dX2_leap_28 : decode cX2_leap 28 = .ok (.iload_n 2, 1) := by decide +kernel
theorem dX2_leap_29 : decode cX2_leap 29 = .ok (.if_icmp .ge 10, 3) := by decide +kernel
theorem dX2_leap_32 : decode cX2_leap 32 = .ok (.aload_n 0, 1) := by decide +kernel
theorem dX2_leap_33 : decode cX2_leap 33 = .ok (.getfield 24, 3) := by decide +kernel
theorem dX2_leap_36 : decode cX2_leap 36 = .ok (.iload_n 3, 1) := by decide +kernel
theorem dX2_leap_37 : decode cX2_leap 37 = .ok (.iaload, 1) := by decide +kernel
theorem dX2_leap_38 : decode cX2_leap 38 = .ok (.istore_n 2, 1) := by decide +kernel
theorem dX2_leap_39 : decode cX2_leap 39 = .ok (.iinc 3 1, 3) := by decide +kernel
theorem dX2_leap_42 : decode cX2_leap 42 = .ok (.goto (-36), 3) := by decide +kernel
theorem dX2_leap_45 : decode cX2_leap 45 = .ok (.iload_n 2, 1) := by decide +kernel
theorem dX2_leap_46 : decode cX2_leap 46 = .ok (.iload_n 1, 1) := by decide +kernel
theorem dX2_leap_47 : decode cX2_leap 47 = .ok (.if_icmp .le 5, 3) := by decide +kernel
theorem dX2_leap_50 : decode cX2_leap 50 = .ok (.iconst 0, 1) := by decide +kernel
theorem dX2_leap_51 : decode cX2_leap 51 = .ok (.ireturn, 1) := by decide +kernel
theorem dX2_leap_52 : decode cX2_leap 52 = .ok (.aload_n 0, 1) := by decide +kernel
theorem dX2_leap_53 : decode cX2_leap 53 = .ok (.iload_n 2, 1) := by decide +kernel
theorem dX2_leap_54 : decode cX2_leap 54 = .ok (.putfield 48, 3) := by decide +kernel
theorem dX2_leap_57 : decode cX2_leap 57 = .ok (.aload_n 0, 1) := by decide +kernel
theorem dX2_leap_58 : decode cX2_leap 58 = .ok (.invokevirtual 109, 3) := by decide +kernel
theorem dX2_leap_61 : decode cX2_leap 61 = .ok (.iconst 1, 1) := by decide +kernel
theorem dX2_leap_62 : decode cX2_leap 62 = .ok (.ireturn, 1) := by decide +kernel
theorem dX2_countUnits_0 : decode cX2_countUnits 0 = .ok (.iconst 0, 1) := by decide +kernel
theorem dX2_countUnits_1 : decode cX2_countUnits 1 = .ok (.istore_n 1, 1) := by decide +kernel
theorem dX2_countUnits_2 : decode cX2_countUnits 2 = .ok (.iload_n 1, 1) := by decide +kernel
theorem dX2_countUnits_3 : decode cX2_countUnits 3 = .ok (.bipush 64, 2) := by decide +kernel
theorem dX2_countUnits_5 : decode cX2_countUnits 5 = .ok (.if_icmp .ge 33, 3) := by decide +kernel
theorem dX2_countUnits_8 : decode cX2_countUnits 8 = .ok (.aload_n 0, 1) := by decide +kernel
theorem dX2_countUnits_9 : decode cX2_countUnits 9 = .ok (.iload_n 1, 1) := by decide +kernel
theorem dX2_countUnits_10 : decode cX2_countUnits 10 = .ok (.invokevirtual 95, 3) := by decide +kernel
theorem dX2_countUnits_13 : decode cX2_countUnits 13 = .ok (.iconst 1, 1) := by decide +kernel
theorem dX2_countUnits_14 : decode cX2_countUnits 14 = .ok (.if_icmp .ne 18, 3) := by decide +kernel
theorem dX2_countUnits_17 : decode cX2_countUnits 17 = .ok (.aload_n 0, 1) := by decide +kernel
theorem dX2_countUnits_18 : decode cX2_countUnits 18 = .ok (.getfield 45, 3) := by decide +kernel
theorem dX2_countUnits_21 : decode cX2_countUnits 21 = .ok (.aload_n 0, 1) := by decide +kernel
theorem dX2_countUnits_22 : decode cX2_countUnits 22 = .ok (.getfield 15, 3) := by decide +kernel
theorem dX2_countUnits_25 : decode cX2_countUnits 25 = .ok (.iload_n 1, 1) := by decide +kernel
theorem dX2_countUnits_26 : decode cX2_countUnits 26 = .ok (.iaload, 1) := by decide +kernel
theorem dX2_countUnits_27 : decode cX2_countUnits 27 = .ok (.dup2, 1) := by decide +kernel
theorem dX2_countUnits_28 : decode cX2_countUnits 28 = .ok (.iaload, 1) := by decide +kernel
theorem dX2_countUnits_29 : decode cX2_countUnits 29 = .ok (.iconst 1, 1) := by decide +kernel
theorem dX2_countUnits_30 : decode cX2_countUnits 30 = .ok (.iadd, 1) := by decide +kernel
theorem dX2_countUnits_31 : decode cX2_countUnits 31 = .ok (.iastore, 1) := by decide +kernel
theorem dX2_countUnits_32 : decode cX2_countUnits 32 = .ok (.iinc 1 1, 3) := by decide +kernel
theorem dX2_countUnits_35 : decode cX2_countUnits 35 = .ok (.goto (-33), 3) := by decide +kernel
theorem dX2_countUnits_38 : decode cX2_countUnits 38 = .ok (.return_, 1) := by decide +kernel
theorem dX2_freeDue_0 : decode cX2_freeDue 0 = .ok (.iconst 0, 1) := by decide +kernel
theorem dX2_freeDue_1 : decode cX2_freeDue 1 = .ok (.istore_n 1, 1) := by decide +kernel
theorem dX2_freeDue_2 : decode cX2_freeDue 2 = .ok (.iload_n 1, 1) := by decide +kernel
theorem dX2_freeDue_3 : decode cX2_freeDue 3 = .ok (.bipush 64, 2) := by decide +kernel
theorem dX2_freeDue_5 : decode cX2_freeDue 5 = .ok (.if_icmp .ge 37, 3) := by decide +kernel
theorem dX2_freeDue_8 : decode cX2_freeDue 8 = .ok (.aload_n 0, 1) := by decide +kernel
theorem dX2_freeDue_9 : decode cX2_freeDue 9 = .ok (.getfield 15, 3) := by decide +kernel
theorem dX2_freeDue_12 : decode cX2_freeDue 12 = .ok (.iload_n 1, 1) := by decide +kernel
theorem dX2_freeDue_13 : decode cX2_freeDue 13 = .ok (.iaload, 1) := by decide +kernel
theorem dX2_freeDue_14 : decode cX2_freeDue 14 = .ok (.iconst (-1), 1) := by decide +kernel
theorem dX2_freeDue_15 : decode cX2_freeDue 15 = .ok (.if_icmp .eq 21, 3) := by decide +kernel
theorem dX2_freeDue_18 : decode cX2_freeDue 18 = .ok (.aload_n 0, 1) := by decide +kernel
theorem dX2_freeDue_19 : decode cX2_freeDue 19 = .ok (.getfield 24, 3) := by decide +kernel
theorem dX2_freeDue_22 : decode cX2_freeDue 22 = .ok (.iload_n 1, 1) := by decide +kernel
theorem dX2_freeDue_23 : decode cX2_freeDue 23 = .ok (.iaload, 1) := by decide +kernel
theorem dX2_freeDue_24 : decode cX2_freeDue 24 = .ok (.aload_n 0, 1) := by decide +kernel
theorem dX2_freeDue_25 : decode cX2_freeDue 25 = .ok (.getfield 48, 3) := by decide +kernel
theorem dX2_freeDue_28 : decode cX2_freeDue 28 = .ok (.if_icmp .ne 8, 3) := by decide +kernel
theorem dX2_freeDue_31 : decode cX2_freeDue 31 = .ok (.aload_n 0, 1) := by decide +kernel
theorem dX2_freeDue_32 : decode cX2_freeDue 32 = .ok (.iload_n 1, 1) := by decide +kernel
theorem dX2_freeDue_33 : decode cX2_freeDue 33 = .ok (.invokevirtual 98, 3) := by decide +kernel
theorem dX2_freeDue_36 : decode cX2_freeDue 36 = .ok (.iinc 1 1, 3) := by decide +kernel
theorem dX2_freeDue_39 : decode cX2_freeDue 39 = .ok (.goto (-37), 3) := by decide +kernel
theorem dX2_freeDue_42 : decode cX2_freeDue 42 = .ok (.return_, 1) := by decide +kernel
theorem dX2_stateOf_0 : decode cX2_stateOf 0 = .ok (.aload_n 0, 1) := by decide +kernel
theorem dX2_stateOf_1 : decode cX2_stateOf 1 = .ok (.getfield 15, 3) := by decide +kernel
theorem dX2_stateOf_4 : decode cX2_stateOf 4 = .ok (.iload_n 1, 1) := by decide +kernel
theorem dX2_stateOf_5 : decode cX2_stateOf 5 = .ok (.iaload, 1) := by decide +kernel
theorem dX2_stateOf_6 : decode cX2_stateOf 6 = .ok (.iconst (-1), 1) := by decide +kernel
theorem dX2_stateOf_7 : decode cX2_stateOf 7 = .ok (.if_icmp .ne 5, 3) := by decide +kernel
theorem dX2_stateOf_10 : decode cX2_stateOf 10 = .ok (.iconst 0, 1) := by decide +kernel
theorem dX2_stateOf_11 : decode cX2_stateOf 11 = .ok (.ireturn, 1) := by decide +kernel
theorem dX2_stateOf_12 : decode cX2_stateOf 12 = .ok (.aload_n 0, 1) := by decide +kernel
theorem dX2_stateOf_13 : decode cX2_stateOf 13 = .ok (.getfield 48, 3) := by decide +kernel
theorem dX2_stateOf_16 : decode cX2_stateOf 16 = .ok (.aload_n 0, 1) := by decide +kernel
theorem dX2_stateOf_17 : decode cX2_stateOf 17 = .ok (.getfield 21, 3) := by decide +kernel
theorem dX2_stateOf_20 : decode cX2_stateOf 20 = .ok (.iload_n 1, 1) := by decide +kernel
theorem dX2_stateOf_21 : decode cX2_stateOf 21 = .ok (.iaload, 1) := by decide +kernel
theorem dX2_stateOf_22 : decode cX2_stateOf 22 = .ok (.if_icmp .ge 7, 3) := by decide +kernel
theorem dX2_stateOf_25 : decode cX2_stateOf 25 = .ok (.iconst 1, 1) := by decide +kernel
theorem dX2_stateOf_26 : decode cX2_stateOf 26 = .ok (.goto 4, 3) := by decide +kernel
theorem dX2_stateOf_29 : decode cX2_stateOf 29 = .ok (.iconst 2, 1) := by decide +kernel
theorem dX2_stateOf_30 : decode cX2_stateOf 30 = .ok (.ireturn, 1) := by decide +kernel
theorem dX2_ofNumber_0 : decode cX2_ofNumber 0 = .ok (.aload_n 0, 1) := by decide +kernel
theorem dX2_ofNumber_1 : decode cX2_ofNumber 1 = .ok (.getfield 15, 3) := by decide +kernel
theorem dX2_ofNumber_4 : decode cX2_ofNumber 4 = .ok (.iload_n 1, 1) := by decide +kernel
theorem dX2_ofNumber_5 : decode cX2_ofNumber 5 = .ok (.iaload, 1) := by decide +kernel
theorem dX2_ofNumber_6 : decode cX2_ofNumber 6 = .ok (.iconst (-1), 1) := by decide +kernel
theorem dX2_ofNumber_7 : decode cX2_ofNumber 7 = .ok (.if_icmp .ne 7, 3) := by decide +kernel
theorem dX2_ofNumber_10 : decode cX2_ofNumber 10 = .ok (.iconst 1, 1) := by decide +kernel
theorem dX2_ofNumber_11 : decode cX2_ofNumber 11 = .ok (.goto 4, 3) := by decide +kernel
theorem dX2_ofNumber_14 : decode cX2_ofNumber 14 = .ok (.iconst 0, 1) := by decide +kernel
theorem dX2_ofNumber_15 : decode cX2_ofNumber 15 = .ok (.istore_n 3, 1) := by decide +kernel
theorem dX2_ofNumber_16 : decode cX2_ofNumber 16 = .ok (.aload_n 0, 1) := by decide +kernel
theorem dX2_ofNumber_17 : decode cX2_ofNumber 17 = .ok (.getfield 30, 3) := by decide +kernel
theorem dX2_ofNumber_20 : decode cX2_ofNumber 20 = .ok (.iload_n 1, 1) := by decide +kernel
theorem dX2_ofNumber_21 : decode cX2_ofNumber 21 = .ok (.iaload, 1) := by decide +kernel
theorem dX2_ofNumber_22 : decode cX2_ofNumber 22 = .ok (.ifCond .le 7, 3) := by decide +kernel
theorem dX2_ofNumber_25 : decode cX2_ofNumber 25 = .ok (.iconst 1, 1) := by decide +kernel
theorem dX2_ofNumber_26 : decode cX2_ofNumber 26 = .ok (.goto 4, 3) := by decide +kernel
theorem dX2_ofNumber_29 : decode cX2_ofNumber 29 = .ok (.iconst 0, 1) := by decide +kernel
theorem dX2_ofNumber_30 : decode cX2_ofNumber 30 = .ok (.istore 4, 2) := by decide +kernel
theorem dX2_ofNumber_32 : decode cX2_ofNumber 32 = .ok (.iload_n 2, 1) := by decide +kernel
theorem dX2_ofNumber_33 : decode cX2_ofNumber 33 = .ok (.tableswitch 148 0 7 #[47, 53, 60, 75, 90, 105, 112, 130], 47) := by decide +kernel
theorem dX2_ofNumber_80 : decode cX2_ofNumber 80 = .ok (.aload_n 0, 1) := by decide +kernel
theorem dX2_ofNumber_81 : decode cX2_ofNumber 81 = .ok (.iload_n 1, 1) := by decide +kernel
theorem dX2_ofNumber_82 : decode cX2_ofNumber 82 = .ok (.invokevirtual 95, 3) := by decide +kernel
theorem dX2_ofNumber_85 : decode cX2_ofNumber 85 = .ok (.ireturn, 1) := by decide +kernel
theorem dX2_ofNumber_86 : decode cX2_ofNumber 86 = .ok (.aload_n 0, 1) := by decide +kernel
theorem dX2_ofNumber_87 : decode cX2_ofNumber 87 = .ok (.getfield 15, 3) := by decide +kernel
theorem dX2_ofNumber_90 : decode cX2_ofNumber 90 = .ok (.iload_n 1, 1) := by decide +kernel
theorem dX2_ofNumber_91 : decode cX2_ofNumber 91 = .ok (.iaload, 1) := by decide +kernel
theorem dX2_ofNumber_92 : decode cX2_ofNumber 92 = .ok (.ireturn, 1) := by decide +kernel
theorem dX2_ofNumber_93 : decode cX2_ofNumber 93 = .ok (.iload_n 3, 1) := by decide +kernel
theorem dX2_ofNumber_94 : decode cX2_ofNumber 94 = .ok (.ifCond .eq 7, 3) := by decide +kernel
theorem dX2_ofNumber_97 : decode cX2_ofNumber 97 = .ok (.iconst (-1), 1) := by decide +kernel
theorem dX2_ofNumber_98 : decode cX2_ofNumber 98 = .ok (.goto 9, 3) := by decide +kernel
theorem dX2_ofNumber_101 : decode cX2_ofNumber 101 = .ok (.aload_n 0, 1) := by decide +kernel
theorem dX2_ofNumber_102 : decode cX2_ofNumber 102 = .ok (.getfield 18, 3) := by decide +kernel
theorem dX2_ofNumber_105 : decode cX2_ofNumber 105 = .ok (.iload_n 1, 1) := by decide +kernel
theorem dX2_ofNumber_106 : decode cX2_ofNumber 106 = .ok (.iaload, 1) := by decide +kernel
theorem dX2_ofNumber_107 : decode cX2_ofNumber 107 = .ok (.ireturn, 1) := by decide +kernel
theorem dX2_ofNumber_108 : decode cX2_ofNumber 108 = .ok (.iload_n 3, 1) := by decide +kernel
theorem dX2_ofNumber_109 : decode cX2_ofNumber 109 = .ok (.ifCond .eq 7, 3) := by decide +kernel
theorem dX2_ofNumber_112 : decode cX2_ofNumber 112 = .ok (.iconst (-1), 1) := by decide +kernel
theorem dX2_ofNumber_113 : decode cX2_ofNumber 113 = .ok (.goto 9, 3) := by decide +kernel
theorem dX2_ofNumber_116 : decode cX2_ofNumber 116 = .ok (.aload_n 0, 1) := by decide +kernel
theorem dX2_ofNumber_117 : decode cX2_ofNumber 117 = .ok (.getfield 21, 3) := by decide +kernel
theorem dX2_ofNumber_120 : decode cX2_ofNumber 120 = .ok (.iload_n 1, 1) := by decide +kernel
theorem dX2_ofNumber_121 : decode cX2_ofNumber 121 = .ok (.iaload, 1) := by decide +kernel
theorem dX2_ofNumber_122 : decode cX2_ofNumber 122 = .ok (.ireturn, 1) := by decide +kernel
theorem dX2_ofNumber_123 : decode cX2_ofNumber 123 = .ok (.iload_n 3, 1) := by decide +kernel
theorem dX2_ofNumber_124 : decode cX2_ofNumber 124 = .ok (.ifCond .eq 7, 3) := by decide +kernel
theorem dX2_ofNumber_127 : decode cX2_ofNumber 127 = .ok (.iconst (-1), 1) := by decide +kernel
theorem dX2_ofNumber_128 : decode cX2_ofNumber 128 = .ok (.goto 9, 3) := by decide +kernel
theorem dX2_ofNumber_131 : decode cX2_ofNumber 131 = .ok (.aload_n 0, 1) := by decide +kernel
theorem dX2_ofNumber_132 : decode cX2_ofNumber 132 = .ok (.getfield 24, 3) := by decide +kernel
theorem dX2_ofNumber_135 : decode cX2_ofNumber 135 = .ok (.iload_n 1, 1) := by decide +kernel
theorem dX2_ofNumber_136 : decode cX2_ofNumber 136 = .ok (.iaload, 1) := by decide +kernel
theorem dX2_ofNumber_137 : decode cX2_ofNumber 137 = .ok (.ireturn, 1) := by decide +kernel
theorem dX2_ofNumber_138 : decode cX2_ofNumber 138 = .ok (.aload_n 0, 1) := by decide +kernel
theorem dX2_ofNumber_139 : decode cX2_ofNumber 139 = .ok (.getfield 30, 3) := by decide +kernel
theorem dX2_ofNumber_142 : decode cX2_ofNumber 142 = .ok (.iload_n 1, 1) := by decide +kernel
theorem dX2_ofNumber_143 : decode cX2_ofNumber 143 = .ok (.iaload, 1) := by decide +kernel
theorem dX2_ofNumber_144 : decode cX2_ofNumber 144 = .ok (.ireturn, 1) := by decide +kernel
theorem dX2_ofNumber_145 : decode cX2_ofNumber 145 = .ok (.iload 4, 2) := by decide +kernel
theorem dX2_ofNumber_147 : decode cX2_ofNumber 147 = .ok (.ifCond .eq 14, 3) := by decide +kernel
theorem dX2_ofNumber_150 : decode cX2_ofNumber 150 = .ok (.aload_n 0, 1) := by decide +kernel
theorem dX2_ofNumber_151 : decode cX2_ofNumber 151 = .ok (.getfield 33, 3) := by decide +kernel
theorem dX2_ofNumber_154 : decode cX2_ofNumber 154 = .ok (.iload_n 1, 1) := by decide +kernel
theorem dX2_ofNumber_155 : decode cX2_ofNumber 155 = .ok (.iconst 3, 1) := by decide +kernel
theorem dX2_ofNumber_156 : decode cX2_ofNumber 156 = .ok (.imul, 1) := by decide +kernel
theorem dX2_ofNumber_157 : decode cX2_ofNumber 157 = .ok (.iaload, 1) := by decide +kernel
theorem dX2_ofNumber_158 : decode cX2_ofNumber 158 = .ok (.goto 4, 3) := by decide +kernel
theorem dX2_ofNumber_161 : decode cX2_ofNumber 161 = .ok (.iconst (-1), 1) := by decide +kernel
theorem dX2_ofNumber_162 : decode cX2_ofNumber 162 = .ok (.ireturn, 1) := by decide +kernel
theorem dX2_ofNumber_163 : decode cX2_ofNumber 163 = .ok (.iload 4, 2) := by decide +kernel
theorem dX2_ofNumber_165 : decode cX2_ofNumber 165 = .ok (.ifCond .eq 14, 3) := by decide +kernel
theorem dX2_ofNumber_168 : decode cX2_ofNumber 168 = .ok (.aload_n 0, 1) := by decide +kernel
theorem dX2_ofNumber_169 : decode cX2_ofNumber 169 = .ok (.getfield 36, 3) := by decide +kernel
theorem dX2_ofNumber_172 : decode cX2_ofNumber 172 = .ok (.iload_n 1, 1) := by decide +kernel
theorem dX2_ofNumber_173 : decode cX2_ofNumber 173 = .ok (.iconst 3, 1) := by decide +kernel
theorem dX2_ofNumber_174 : decode cX2_ofNumber 174 = .ok (.imul, 1) := by decide +kernel
theorem dX2_ofNumber_175 : decode cX2_ofNumber 175 = .ok (.iaload, 1) := by decide +kernel
theorem dX2_ofNumber_176 : decode cX2_ofNumber 176 = .ok (.goto 4, 3) := by decide +kernel
theorem dX2_ofNumber_179 : decode cX2_ofNumber 179 = .ok (.iconst (-1), 1) := by decide +kernel
theorem dX2_ofNumber_180 : decode cX2_ofNumber 180 = .ok (.ireturn, 1) := by decide +kernel
theorem dX2_ofNumber_181 : decode cX2_ofNumber 181 = .ok (.aload_n 0, 1) := by decide +kernel
theorem dX2_ofNumber_182 : decode cX2_ofNumber 182 = .ok (.getfield 27, 3) := by decide +kernel
theorem dX2_ofNumber_185 : decode cX2_ofNumber 185 = .ok (.iload_n 1, 1) := by decide +kernel
theorem dX2_ofNumber_186 : decode cX2_ofNumber 186 = .ok (.iaload, 1) := by decide +kernel
theorem dX2_ofNumber_187 : decode cX2_ofNumber 187 = .ok (.ireturn, 1) := by decide +kernel
theorem dX2_ofHolder_0 : decode cX2_ofHolder 0 = .ok (.iload_n 2, 1) := by decide +kernel
theorem dX2_ofHolder_1 : decode cX2_ofHolder 1 = .ok (.tableswitch 89 0 6 #[43, 50, 57, 63, 69, 75, 82], 43) := by decide +kernel
theorem dX2_ofHolder_44 : decode cX2_ofHolder 44 = .ok (.aload_n 0, 1) := by decide +kernel
theorem dX2_ofHolder_45 : decode cX2_ofHolder 45 = .ok (.iload_n 1, 1) := by decide +kernel
theorem dX2_ofHolder_46 : decode cX2_ofHolder 46 = .ok (.iconst 1, 1) := by decide +kernel
theorem dX2_ofHolder_47 : decode cX2_ofHolder 47 = .ok (.invokevirtual 112, 3) := by decide +kernel
theorem dX2_ofHolder_50 : decode cX2_ofHolder 50 = .ok (.ireturn, 1) := by decide +kernel
theorem dX2_ofHolder_51 : decode cX2_ofHolder 51 = .ok (.aload_n 0, 1) := by decide +kernel
theorem dX2_ofHolder_52 : decode cX2_ofHolder 52 = .ok (.iload_n 1, 1) := by decide +kernel
theorem dX2_ofHolder_53 : decode cX2_ofHolder 53 = .ok (.iconst 2, 1) := by decide +kernel
theorem dX2_ofHolder_54 : decode cX2_ofHolder 54 = .ok (.invokevirtual 112, 3) := by decide +kernel
theorem dX2_ofHolder_57 : decode cX2_ofHolder 57 = .ok (.ireturn, 1) := by decide +kernel
theorem dX2_ofHolder_58 : decode cX2_ofHolder 58 = .ok (.aload_n 0, 1) := by decide +kernel
theorem dX2_ofHolder_59 : decode cX2_ofHolder 59 = .ok (.iload_n 1, 1) := by decide +kernel
theorem dX2_ofHolder_60 : decode cX2_ofHolder 60 = .ok (.invokevirtual 115, 3) := by decide +kernel
theorem dX2_ofHolder_63 : decode cX2_ofHolder 63 = .ok (.ireturn, 1) := by decide +kernel
theorem dX2_ofHolder_64 : decode cX2_ofHolder 64 = .ok (.aload_n 0, 1) := by decide +kernel
theorem dX2_ofHolder_65 : decode cX2_ofHolder 65 = .ok (.iload_n 1, 1) := by decide +kernel
theorem dX2_ofHolder_66 : decode cX2_ofHolder 66 = .ok (.invokevirtual 118, 3) := by decide +kernel
theorem dX2_ofHolder_69 : decode cX2_ofHolder 69 = .ok (.ireturn, 1) := by decide +kernel
theorem dX2_ofHolder_70 : decode cX2_ofHolder 70 = .ok (.aload_n 0, 1) := by decide +kernel
theorem dX2_ofHolder_71 : decode cX2_ofHolder 71 = .ok (.iload_n 1, 1) := by decide +kernel
theorem dX2_ofHolder_72 : decode cX2_ofHolder 72 = .ok (.invokevirtual 121, 3) := by decide +kernel
theorem dX2_ofHolder_75 : decode cX2_ofHolder 75 = .ok (.ireturn, 1) := by decide +kernel
theorem dX2_ofHolder_76 : decode cX2_ofHolder 76 = .ok (.aload_n 0, 1) := by decide +kernel
theorem dX2_ofHolder_77 : decode cX2_ofHolder 77 = .ok (.getfield 39, 3) := by decide +kernel
theorem dX2_ofHolder_80 : decode cX2_ofHolder 80 = .ok (.iload_n 1, 1) := by decide +kernel
theorem dX2_ofHolder_81 : decode cX2_ofHolder 81 = .ok (.iaload, 1) := by decide +kernel
theorem dX2_ofHolder_82 : decode cX2_ofHolder 82 = .ok (.ireturn, 1) := by decide +kernel
theorem dX2_ofHolder_83 : decode cX2_ofHolder 83 = .ok (.aload_n 0, 1) := by decide +kernel
theorem dX2_ofHolder_84 : decode cX2_ofHolder 84 = .ok (.getfield 42, 3) := by decide +kernel
theorem dX2_ofHolder_87 : decode cX2_ofHolder 87 = .ok (.iload_n 1, 1) := by decide +kernel
theorem dX2_ofHolder_88 : decode cX2_ofHolder 88 = .ok (.iaload, 1) := by decide +kernel
theorem dX2_ofHolder_89 : decode cX2_ofHolder 89 = .ok (.ireturn, 1) := by decide +kernel
theorem dX2_ofHolder_90 : decode cX2_ofHolder 90 = .ok (.aload_n 0, 1) := by decide +kernel
theorem dX2_ofHolder_91 : decode cX2_ofHolder 91 = .ok (.getfield 45, 3) := by decide +kernel
theorem dX2_ofHolder_94 : decode cX2_ofHolder 94 = .ok (.iload_n 1, 1) := by decide +kernel
theorem dX2_ofHolder_95 : decode cX2_ofHolder 95 = .ok (.iaload, 1) := by decide +kernel
theorem dX2_ofHolder_96 : decode cX2_ofHolder 96 = .ok (.ireturn, 1) := by decide +kernel
theorem dX2_ofSpan_0 : decode cX2_ofSpan 0 = .ok (.aload_n 0, 1) := by decide +kernel
theorem dX2_ofSpan_1 : decode cX2_ofSpan 1 = .ok (.iload_n 1, 1) := by decide +kernel
theorem dX2_ofSpan_2 : decode cX2_ofSpan 2 = .ok (.invokevirtual 124, 3) := by decide +kernel
theorem dX2_ofSpan_5 : decode cX2_ofSpan 5 = .ok (.istore_n 3, 1) := by decide +kernel
theorem dX2_ofSpan_6 : decode cX2_ofSpan 6 = .ok (.iload_n 3, 1) := by decide +kernel
theorem dX2_ofSpan_7 : decode cX2_ofSpan 7 = .ok (.iconst (-1), 1) := by decide +kernel
theorem dX2_ofSpan_8 : decode cX2_ofSpan 8 = .ok (.if_icmp .eq 7, 3) := by decide +kernel
theorem dX2_ofSpan_11 : decode cX2_ofSpan 11 = .ok (.iload_n 2, 1) := by decide +kernel
theorem dX2_ofSpan_12 : decode cX2_ofSpan 12 = .ok (.ifCond .ne 5, 3) := by decide +kernel
theorem dX2_ofSpan_15 : decode cX2_ofSpan 15 = .ok (.iload_n 3, 1) := by decide +kernel
theorem dX2_ofSpan_16 : decode cX2_ofSpan 16 = .ok (.ireturn, 1) := by decide +kernel
theorem dX2_ofSpan_17 : decode cX2_ofSpan 17 = .ok (.aload_n 0, 1) := by decide +kernel
theorem dX2_ofSpan_18 : decode cX2_ofSpan 18 = .ok (.iload_n 3, 1) := by decide +kernel
theorem dX2_ofSpan_19 : decode cX2_ofSpan 19 = .ok (.invokevirtual 127, 3) := by decide +kernel
theorem dX2_ofSpan_22 : decode cX2_ofSpan 22 = .ok (.ireturn, 1) := by decide +kernel
theorem dX2_ofAll_0 : decode cX2_ofAll 0 = .ok (.iload_n 1, 1) := by decide +kernel
theorem dX2_ofAll_1 : decode cX2_ofAll 1 = .ok (.tableswitch 125 0 10 #[59, 64, 69, 75, 81, 89, 97, 102, 107, 112, 120], 59) := by decide +kernel
theorem dX2_ofAll_60 : decode cX2_ofAll 60 = .ok (.aload_n 0, 1) := by decide +kernel
theorem dX2_ofAll_61 : decode cX2_ofAll 61 = .ok (.getfield 48, 3) := by decide +kernel
theorem dX2_ofAll_64 : decode cX2_ofAll 64 = .ok (.ireturn, 1) := by decide +kernel
theorem dX2_ofAll_65 : decode cX2_ofAll 65 = .ok (.aload_n 0, 1) := by decide +kernel
theorem dX2_ofAll_66 : decode cX2_ofAll 66 = .ok (.invokevirtual 130, 3) := by decide +kernel
theorem dX2_ofAll_69 : decode cX2_ofAll 69 = .ok (.ireturn, 1) := by decide +kernel
theorem dX2_ofAll_70 : decode cX2_ofAll 70 = .ok (.aload_n 0, 1) := by decide +kernel
theorem dX2_ofAll_71 : decode cX2_ofAll 71 = .ok (.iconst 1, 1) := by decide +kernel
theorem dX2_ofAll_72 : decode cX2_ofAll 72 = .ok (.invokevirtual 134, 3) := by decide +kernel
theorem dX2_ofAll_75 : decode cX2_ofAll 75 = .ok (.ireturn, 1) := by decide +kernel
theorem dX2_ofAll_76 : decode cX2_ofAll 76 = .ok (.aload_n 0, 1) := by decide +kernel
theorem dX2_ofAll_77 : decode cX2_ofAll 77 = .ok (.iconst 2, 1) := by decide +kernel
theorem dX2_ofAll_78 : decode cX2_ofAll 78 = .ok (.invokevirtual 134, 3) := by decide +kernel
theorem dX2_ofAll_81 : decode cX2_ofAll 81 = .ok (.ireturn, 1) := by decide +kernel
theorem dX2_ofAll_82 : decode cX2_ofAll 82 = .ok (.aload_n 0, 1) := by decide +kernel
theorem dX2_ofAll_83 : decode cX2_ofAll 83 = .ok (.getfield 30, 3) := by decide +kernel
theorem dX2_ofAll_86 : decode cX2_ofAll 86 = .ok (.invokestatic 137, 3) := by decide +kernel
theorem dX2_ofAll_89 : decode cX2_ofAll 89 = .ok (.ireturn, 1) := by decide +kernel
theorem dX2_ofAll_90 : decode cX2_ofAll 90 = .ok (.aload_n 0, 1) := by decide +kernel
theorem dX2_ofAll_91 : decode cX2_ofAll 91 = .ok (.getfield 39, 3) := by decide +kernel
theorem dX2_ofAll_94 : decode cX2_ofAll 94 = .ok (.invokestatic 137, 3) := by decide +kernel
theorem dX2_ofAll_97 : decode cX2_ofAll 97 = .ok (.ireturn, 1) := by decide +kernel
theorem dX2_ofAll_98 : decode cX2_ofAll 98 = .ok (.aload_n 0, 1) := by decide +kernel
theorem dX2_ofAll_99 : decode cX2_ofAll 99 = .ok (.getfield 52, 3) := by decide +kernel
theorem dX2_ofAll_102 : decode cX2_ofAll 102 = .ok (.ireturn, 1) := by decide +kernel
theorem dX2_ofAll_103 : decode cX2_ofAll 103 = .ok (.aload_n 0, 1) := by decide +kernel
theorem dX2_ofAll_104 : decode cX2_ofAll 104 = .ok (.getfield 55, 3) := by decide +kernel
theorem dX2_ofAll_107 : decode cX2_ofAll 107 = .ok (.ireturn, 1) := by decide +kernel
theorem dX2_ofAll_108 : decode cX2_ofAll 108 = .ok (.aload_n 0, 1) := by decide +kernel
theorem dX2_ofAll_109 : decode cX2_ofAll 109 = .ok (.getfield 58, 3) := by decide +kernel
theorem dX2_ofAll_112 : decode cX2_ofAll 112 = .ok (.ireturn, 1) := by decide +kernel
theorem dX2_ofAll_113 : decode cX2_ofAll 113 = .ok (.aload_n 0, 1) := by decide +kernel
theorem dX2_ofAll_114 : decode cX2_ofAll 114 = .ok (.getfield 42, 3) := by decide +kernel
theorem dX2_ofAll_117 : decode cX2_ofAll 117 = .ok (.invokestatic 137, 3) := by decide +kernel
theorem dX2_ofAll_120 : decode cX2_ofAll 120 = .ok (.ireturn, 1) := by decide +kernel
theorem dX2_ofAll_121 : decode cX2_ofAll 121 = .ok (.aload_n 0, 1) := by decide +kernel
theorem dX2_ofAll_122 : decode cX2_ofAll 122 = .ok (.invokevirtual 141, 3) := by decide +kernel
theorem dX2_ofAll_125 : decode cX2_ofAll 125 = .ok (.ireturn, 1) := by decide +kernel
theorem dX2_ofAll_126 : decode cX2_ofAll 126 = .ok (.aload_n 0, 1) := by decide +kernel
theorem dX2_ofAll_127 : decode cX2_ofAll 127 = .ok (.invokevirtual 144, 3) := by decide +kernel
theorem dX2_ofAll_130 : decode cX2_ofAll 130 = .ok (.ireturn, 1) := by decide +kernel
theorem dX2_freeNumbers_0 : decode cX2_freeNumbers 0 = .ok (.aload_n 0, 1) := by decide +kernel
theorem dX2_freeNumbers_1 : decode cX2_freeNumbers 1 = .ok (.iconst 0, 1) := by decide +kernel
theorem dX2_freeNumbers_2 : decode cX2_freeNumbers 2 = .ok (.invokevirtual 134, 3) := by decide +kernel
theorem dX2_freeNumbers_5 : decode cX2_freeNumbers 5 = .ok (.ireturn, 1) := by decide +kernel
theorem dX2_numbersIn_0 : decode cX2_numbersIn 0 = .ok (.iconst 0, 1) := by decide +kernel
theorem dX2_numbersIn_1 : decode cX2_numbersIn 1 = .ok (.istore_n 2, 1) := by decide +kernel
theorem dX2_numbersIn_2 : decode cX2_numbersIn 2 = .ok (.iconst 0, 1) := by decide +kernel
theorem dX2_numbersIn_3 : decode cX2_numbersIn 3 = .ok (.istore_n 3, 1) := by decide +kernel
theorem dX2_numbersIn_4 : decode cX2_numbersIn 4 = .ok (.iload_n 3, 1) := by decide +kernel
theorem dX2_numbersIn_5 : decode cX2_numbersIn 5 = .ok (.aload_n 0, 1) := by decide +kernel
theorem dX2_numbersIn_6 : decode cX2_numbersIn 6 = .ok (.getfield 9, 3) := by decide +kernel
theorem dX2_numbersIn_9 : decode cX2_numbersIn 9 = .ok (.iconst 3, 1) := by decide +kernel
theorem dX2_numbersIn_10 : decode cX2_numbersIn 10 = .ok (.iaload, 1) := by decide +kernel
theorem dX2_numbersIn_11 : decode cX2_numbersIn 11 = .ok (.if_icmp .ge 21, 3) := by decide +kernel
theorem dX2_numbersIn_14 : decode cX2_numbersIn 14 = .ok (.aload_n 0, 1) := by decide +kernel
theorem dX2_numbersIn_15 : decode cX2_numbersIn 15 = .ok (.iload_n 3, 1) := by decide +kernel
theorem dX2_numbersIn_16 : decode cX2_numbersIn 16 = .ok (.invokevirtual 95, 3) := by decide +kernel
theorem dX2_numbersIn_19 : decode cX2_numbersIn 19 = .ok (.iload_n 1, 1) := by decide +kernel
theorem dX2_numbersIn_20 : decode cX2_numbersIn 20 = .ok (.if_icmp .ne 6, 3) := by decide +kernel
theorem dX2_numbersIn_23 : decode cX2_numbersIn 23 = .ok (.iinc 2 1, 3) := by decide +kernel
theorem dX2_numbersIn_26 : decode cX2_numbersIn 26 = .ok (.iinc 3 1, 3) := by decide +kernel
theorem dX2_numbersIn_29 : decode cX2_numbersIn 29 = .ok (.goto (-25), 3) := by decide +kernel
theorem dX2_numbersIn_32 : decode cX2_numbersIn 32 = .ok (.iload_n 2, 1) := by decide +kernel
theorem dX2_numbersIn_33 : decode cX2_numbersIn 33 = .ok (.ireturn, 1) := by decide +kernel
theorem dX2_numbersOf_0 : decode cX2_numbersOf 0 = .ok (.iconst 0, 1) := by decide +kernel
theorem dX2_numbersOf_1 : decode cX2_numbersOf 1 = .ok (.istore_n 2, 1) := by decide +kernel
theorem dX2_numbersOf_2 : decode cX2_numbersOf 2 = .ok (.iconst 0, 1) := by decide +kernel
theorem dX2_numbersOf_3 : decode cX2_numbersOf 3 = .ok (.istore_n 3, 1) := by decide +kernel
theorem dX2_numbersOf_4 : decode cX2_numbersOf 4 = .ok (.iload_n 3, 1) := by decide +kernel
theorem dX2_numbersOf_5 : decode cX2_numbersOf 5 = .ok (.bipush 64, 2) := by decide +kernel
theorem dX2_numbersOf_7 : decode cX2_numbersOf 7 = .ok (.if_icmp .ge 22, 3) := by decide +kernel
theorem dX2_numbersOf_10 : decode cX2_numbersOf 10 = .ok (.aload_n 0, 1) := by decide +kernel
theorem dX2_numbersOf_11 : decode cX2_numbersOf 11 = .ok (.getfield 15, 3) := by decide +kernel
theorem dX2_numbersOf_14 : decode cX2_numbersOf 14 = .ok (.iload_n 3, 1) := by decide +kernel
theorem dX2_numbersOf_15 : decode cX2_numbersOf 15 = .ok (.iaload, 1) := by decide +kernel
theorem dX2_numbersOf_16 : decode cX2_numbersOf 16 = .ok (.iload_n 1, 1) := by decide +kernel
theorem dX2_numbersOf_17 : decode cX2_numbersOf 17 = .ok (.if_icmp .ne 6, 3) := by decide +kernel
theorem dX2_numbersOf_20 : decode cX2_numbersOf 20 = .ok (.iinc 2 1, 3) := by decide +kernel
theorem dX2_numbersOf_23 : decode cX2_numbersOf 23 = .ok (.iinc 3 1, 3) := by decide +kernel
theorem dX2_numbersOf_26 : decode cX2_numbersOf 26 = .ok (.goto (-22), 3) := by decide +kernel
theorem dX2_numbersOf_29 : decode cX2_numbersOf 29 = .ok (.iload_n 2, 1) := by decide +kernel
theorem dX2_numbersOf_30 : decode cX2_numbersOf 30 = .ok (.ireturn, 1) := by decide +kernel
theorem dX2_numbersOfIn_0 : decode cX2_numbersOfIn 0 = .ok (.iconst 0, 1) := by decide +kernel
theorem dX2_numbersOfIn_1 : decode cX2_numbersOfIn 1 = .ok (.istore_n 3, 1) := by decide +kernel
theorem dX2_numbersOfIn_2 : decode cX2_numbersOfIn 2 = .ok (.iconst 0, 1) := by decide +kernel
theorem dX2_numbersOfIn_3 : decode cX2_numbersOfIn 3 = .ok (.istore 4, 2) := by decide +kernel
theorem dX2_numbersOfIn_5 : decode cX2_numbersOfIn 5 = .ok (.iload 4, 2) := by decide +kernel
theorem dX2_numbersOfIn_7 : decode cX2_numbersOfIn 7 = .ok (.bipush 64, 2) := by decide +kernel
theorem dX2_numbersOfIn_9 : decode cX2_numbersOfIn 9 = .ok (.if_icmp .ge 33, 3) := by decide +kernel
theorem dX2_numbersOfIn_12 : decode cX2_numbersOfIn 12 = .ok (.aload_n 0, 1) := by decide +kernel
theorem dX2_numbersOfIn_13 : decode cX2_numbersOfIn 13 = .ok (.getfield 15, 3) := by decide +kernel
theorem dX2_numbersOfIn_16 : decode cX2_numbersOfIn 16 = .ok (.iload 4, 2) := by decide +kernel
theorem dX2_numbersOfIn_18 : decode cX2_numbersOfIn 18 = .ok (.iaload, 1) := by decide +kernel
theorem dX2_numbersOfIn_19 : decode cX2_numbersOfIn 19 = .ok (.iload_n 1, 1) := by decide +kernel
theorem dX2_numbersOfIn_20 : decode cX2_numbersOfIn 20 = .ok (.if_icmp .ne 16, 3) := by decide +kernel
theorem dX2_numbersOfIn_23 : decode cX2_numbersOfIn 23 = .ok (.aload_n 0, 1) := by decide +kernel
theorem dX2_numbersOfIn_24 : decode cX2_numbersOfIn 24 = .ok (.iload 4, 2) := by decide +kernel
theorem dX2_numbersOfIn_26 : decode cX2_numbersOfIn 26 = .ok (.invokevirtual 95, 3) := by decide +kernel
theorem dX2_numbersOfIn_29 : decode cX2_numbersOfIn 29 = .ok (.iload_n 2, 1) := by decide +kernel
theorem dX2_numbersOfIn_30 : decode cX2_numbersOfIn 30 = .ok (.if_icmp .ne 6, 3) := by decide +kernel
theorem dX2_numbersOfIn_33 : decode cX2_numbersOfIn 33 = .ok (.iinc 3 1, 3) := by decide +kernel
theorem dX2_numbersOfIn_36 : decode cX2_numbersOfIn 36 = .ok (.iinc 4 1, 3) := by decide +kernel
theorem dX2_numbersOfIn_39 : decode cX2_numbersOfIn 39 = .ok (.goto (-34), 3) := by decide +kernel
theorem dX2_numbersOfIn_42 : decode cX2_numbersOfIn 42 = .ok (.iload_n 3, 1) := by decide +kernel
theorem dX2_numbersOfIn_43 : decode cX2_numbersOfIn 43 = .ok (.ireturn, 1) := by decide +kernel
theorem dX2_wishesOf_0 : decode cX2_wishesOf 0 = .ok (.iconst 0, 1) := by decide +kernel
theorem dX2_wishesOf_1 : decode cX2_wishesOf 1 = .ok (.istore_n 2, 1) := by decide +kernel
theorem dX2_wishesOf_2 : decode cX2_wishesOf 2 = .ok (.iconst 0, 1) := by decide +kernel
theorem dX2_wishesOf_3 : decode cX2_wishesOf 3 = .ok (.istore_n 3, 1) := by decide +kernel
theorem dX2_wishesOf_4 : decode cX2_wishesOf 4 = .ok (.iload_n 3, 1) := by decide +kernel
theorem dX2_wishesOf_5 : decode cX2_wishesOf 5 = .ok (.bipush 64, 2) := by decide +kernel
theorem dX2_wishesOf_7 : decode cX2_wishesOf 7 = .ok (.if_icmp .ge 22, 3) := by decide +kernel
theorem dX2_wishesOf_10 : decode cX2_wishesOf 10 = .ok (.aload_n 0, 1) := by decide +kernel
theorem dX2_wishesOf_11 : decode cX2_wishesOf 11 = .ok (.iload_n 1, 1) := by decide +kernel
theorem dX2_wishesOf_12 : decode cX2_wishesOf 12 = .ok (.iload_n 3, 1) := by decide +kernel
theorem dX2_wishesOf_13 : decode cX2_wishesOf 13 = .ok (.invokevirtual 85, 3) := by decide +kernel
theorem dX2_wishesOf_16 : decode cX2_wishesOf 16 = .ok (.iconst (-1), 1) := by decide +kernel
theorem dX2_wishesOf_17 : decode cX2_wishesOf 17 = .ok (.if_icmp .eq 6, 3) := by decide +kernel
theorem dX2_wishesOf_20 : decode cX2_wishesOf 20 = .ok (.iinc 2 1, 3) := by decide +kernel
theorem dX2_wishesOf_23 : decode cX2_wishesOf 23 = .ok (.iinc 3 1, 3) := by decide +kernel
theorem dX2_wishesOf_26 : decode cX2_wishesOf 26 = .ok (.goto (-22), 3) := by decide +kernel
theorem dX2_wishesOf_29 : decode cX2_wishesOf 29 = .ok (.iload_n 2, 1) := by decide +kernel
theorem dX2_wishesOf_30 : decode cX2_wishesOf 30 = .ok (.ireturn, 1) := by decide +kernel
theorem dX2_leastOf_0 : decode cX2_leastOf 0 = .ok (.iconst 0, 1) := by decide +kernel
theorem dX2_leastOf_1 : decode cX2_leastOf 1 = .ok (.istore_n 2, 1) := by decide +kernel
theorem dX2_leastOf_2 : decode cX2_leastOf 2 = .ok (.iload_n 2, 1) := by decide +kernel
theorem dX2_leastOf_3 : decode cX2_leastOf 3 = .ok (.bipush 64, 2) := by decide +kernel
theorem dX2_leastOf_5 : decode cX2_leastOf 5 = .ok (.if_icmp .ge 21, 3) := by decide +kernel
theorem dX2_leastOf_8 : decode cX2_leastOf 8 = .ok (.aload_n 0, 1) := by decide +kernel
theorem dX2_leastOf_9 : decode cX2_leastOf 9 = .ok (.getfield 15, 3) := by decide +kernel
theorem dX2_leastOf_12 : decode cX2_leastOf 12 = .ok (.iload_n 2, 1) := by decide +kernel
theorem dX2_leastOf_13 : decode cX2_leastOf 13 = .ok (.iaload, 1) := by decide +kernel
theorem dX2_leastOf_14 : decode cX2_leastOf 14 = .ok (.iload_n 1, 1) := by decide +kernel
theorem dX2_leastOf_15 : decode cX2_leastOf 15 = .ok (.if_icmp .ne 5, 3) := by decide +kernel
theorem dX2_leastOf_18 : decode cX2_leastOf 18 = .ok (.iload_n 2, 1) := by decide +kernel
theorem dX2_leastOf_19 : decode cX2_leastOf 19 = .ok (.ireturn, 1) := by decide +kernel
theorem dX2_leastOf_20 : decode cX2_leastOf 20 = .ok (.iinc 2 1, 3) := by decide +kernel
theorem dX2_leastOf_23 : decode cX2_leastOf 23 = .ok (.goto (-21), 3) := by decide +kernel
theorem dX2_leastOf_26 : decode cX2_leastOf 26 = .ok (.iconst (-1), 1) := by decide +kernel
theorem dX2_leastOf_27 : decode cX2_leastOf 27 = .ok (.ireturn, 1) := by decide +kernel
theorem dX2_leastEndOf_0 : decode cX2_leastEndOf 0 = .ok (.iconst (-1), 1) := by decide +kernel
theorem dX2_leastEndOf_1 : decode cX2_leastEndOf 1 = .ok (.istore_n 2, 1) := by decide +kernel
theorem dX2_leastEndOf_2 : decode cX2_leastEndOf 2 = .ok (.iconst 0, 1) := by decide +kernel
theorem dX2_leastEndOf_3 : decode cX2_leastEndOf 3 = .ok (.istore_n 3, 1) := by decide +kernel
theorem dX2_leastEndOf_4 : decode cX2_leastEndOf 4 = .ok (.iload_n 3, 1) := by decide +kernel
theorem dX2_leastEndOf_5 : decode cX2_leastEndOf 5 = .ok (.bipush 64, 2) := by decide +kernel
theorem dX2_leastEndOf_7 : decode cX2_leastEndOf 7 = .ok (.if_icmp .ge 50, 3) := by decide +kernel
theorem dX2_leastEndOf_10 : decode cX2_leastEndOf 10 = .ok (.aload_n 0, 1) := by decide +kernel
theorem dX2_leastEndOf_11 : decode cX2_leastEndOf 11 = .ok (.getfield 15, 3) := by decide +kernel
theorem dX2_leastEndOf_14 : decode cX2_leastEndOf 14 = .ok (.iload_n 3, 1) := by decide +kernel
theorem dX2_leastEndOf_15 : decode cX2_leastEndOf 15 = .ok (.iaload, 1) := by decide +kernel
theorem dX2_leastEndOf_16 : decode cX2_leastEndOf 16 = .ok (.iload_n 1, 1) := by decide +kernel
theorem dX2_leastEndOf_17 : decode cX2_leastEndOf 17 = .ok (.if_icmp .ne 34, 3) := by decide +kernel
theorem dX2_leastEndOf_20 : decode cX2_leastEndOf 20 = .ok (.aload_n 0, 1) := by decide +kernel
theorem dX2_leastEndOf_21 : decode cX2_leastEndOf 21 = .ok (.iload_n 3, 1) := by decide +kernel
theorem dX2_leastEndOf_22 : decode cX2_leastEndOf 22 = .ok (.invokevirtual 95, 3) := by decide +kernel
theorem dX2_leastEndOf_25 : decode cX2_leastEndOf 25 = .ok (.iconst 1, 1) := by decide +kernel
theorem dX2_leastEndOf_26 : decode cX2_leastEndOf 26 = .ok (.if_icmp .ne 25, 3) := by decide +kernel
theorem dX2_leastEndOf_29 : decode cX2_leastEndOf 29 = .ok (.iload_n 2, 1) := by decide +kernel
theorem dX2_leastEndOf_30 : decode cX2_leastEndOf 30 = .ok (.iconst (-1), 1) := by decide +kernel
theorem dX2_leastEndOf_31 : decode cX2_leastEndOf 31 = .ok (.if_icmp .eq 13, 3) := by decide +kernel
theorem dX2_leastEndOf_34 : decode cX2_leastEndOf 34 = .ok (.aload_n 0, 1) := by decide +kernel
theorem dX2_leastEndOf_35 : decode cX2_leastEndOf 35 = .ok (.getfield 21, 3) := by decide +kernel
theorem dX2_leastEndOf_38 : decode cX2_leastEndOf 38 = .ok (.iload_n 3, 1) := by decide +kernel
theorem dX2_leastEndOf_39 : decode cX2_leastEndOf 39 = .ok (.iaload, 1) := by decide +kernel
theorem dX2_leastEndOf_40 : decode cX2_leastEndOf 40 = .ok (.iload_n 2, 1) := by decide +kernel
theorem dX2_leastEndOf_41 : decode cX2_leastEndOf 41 = .ok (.if_icmp .ge 10, 3) := by decide +kernel
theorem dX2_leastEndOf_44 : decode cX2_leastEndOf 44 = .ok (.aload_n 0, 1) := by decide +kernel
theorem dX2_leastEndOf_45 : decode cX2_leastEndOf 45 = .ok (.getfield 21, 3) := by decide +kernel
theorem dX2_leastEndOf_48 : decode cX2_leastEndOf 48 = .ok (.iload_n 3, 1) := by decide +kernel
theorem dX2_leastEndOf_49 : decode cX2_leastEndOf 49 = .ok (.iaload, 1) := by decide +kernel
theorem dX2_leastEndOf_50 : decode cX2_leastEndOf 50 = .ok (.istore_n 2, 1) := by decide +kernel
theorem dX2_leastEndOf_51 : decode cX2_leastEndOf 51 = .ok (.iinc 3 1, 3) := by decide +kernel
theorem dX2_leastEndOf_54 : decode cX2_leastEndOf 54 = .ok (.goto (-50), 3) := by decide +kernel
theorem dX2_leastEndOf_57 : decode cX2_leastEndOf 57 = .ok (.iload_n 2, 1) := by decide +kernel
theorem dX2_leastEndOf_58 : decode cX2_leastEndOf 58 = .ok (.ireturn, 1) := by decide +kernel
theorem dX2_rowFrom_0 : decode cX2_rowFrom 0 = .ok (.iload_n 1, 1) := by decide +kernel
theorem dX2_rowFrom_1 : decode cX2_rowFrom 1 = .ok (.istore_n 2, 1) := by decide +kernel
theorem dX2_rowFrom_2 : decode cX2_rowFrom 2 = .ok (.iload_n 2, 1) := by decide +kernel
theorem dX2_rowFrom_3 : decode cX2_rowFrom 3 = .ok (.aload_n 0, 1) := by decide +kernel
theorem dX2_rowFrom_4 : decode cX2_rowFrom 4 = .ok (.getfield 9, 3) := by decide +kernel
theorem dX2_rowFrom_7 : decode cX2_rowFrom 7 = .ok (.iconst 3, 1) := by decide +kernel
theorem dX2_rowFrom_8 : decode cX2_rowFrom 8 = .ok (.iaload, 1) := by decide +kernel
theorem dX2_rowFrom_9 : decode cX2_rowFrom 9 = .ok (.if_icmp .ge 19, 3) := by decide +kernel
theorem dX2_rowFrom_12 : decode cX2_rowFrom 12 = .ok (.aload_n 0, 1) := by decide +kernel
theorem dX2_rowFrom_13 : decode cX2_rowFrom 13 = .ok (.getfield 15, 3) := by decide +kernel
theorem dX2_rowFrom_16 : decode cX2_rowFrom 16 = .ok (.iload_n 2, 1) := by decide +kernel
theorem dX2_rowFrom_17 : decode cX2_rowFrom 17 = .ok (.iaload, 1) := by decide +kernel
theorem dX2_rowFrom_18 : decode cX2_rowFrom 18 = .ok (.iconst (-1), 1) := by decide +kernel
theorem dX2_rowFrom_19 : decode cX2_rowFrom 19 = .ok (.if_icmp .ne 9, 3) := by decide +kernel
theorem dX2_rowFrom_22 : decode cX2_rowFrom 22 = .ok (.iinc 2 1, 3) := by decide +kernel
theorem dX2_rowFrom_25 : decode cX2_rowFrom 25 = .ok (.goto (-23), 3) := by decide +kernel
theorem dX2_rowFrom_28 : decode cX2_rowFrom 28 = .ok (.iload_n 2, 1) := by decide +kernel
theorem dX2_rowFrom_29 : decode cX2_rowFrom 29 = .ok (.iload_n 1, 1) := by decide +kernel
theorem dX2_rowFrom_30 : decode cX2_rowFrom 30 = .ok (.isub, 1) := by decide +kernel
theorem dX2_rowFrom_31 : decode cX2_rowFrom 31 = .ok (.ireturn, 1) := by decide +kernel
theorem dX2_lowestRow_0 : decode cX2_lowestRow 0 = .ok (.iconst 0, 1) := by decide +kernel
theorem dX2_lowestRow_1 : decode cX2_lowestRow 1 = .ok (.istore_n 2, 1) := by decide +kernel
theorem dX2_lowestRow_2 : decode cX2_lowestRow 2 = .ok (.iload_n 2, 1) := by decide +kernel
theorem dX2_lowestRow_3 : decode cX2_lowestRow 3 = .ok (.aload_n 0, 1) := by decide +kernel
theorem dX2_lowestRow_4 : decode cX2_lowestRow 4 = .ok (.getfield 9, 3) := by decide +kernel
theorem dX2_lowestRow_7 : decode cX2_lowestRow 7 = .ok (.iconst 3, 1) := by decide +kernel
theorem dX2_lowestRow_8 : decode cX2_lowestRow 8 = .ok (.iaload, 1) := by decide +kernel
theorem dX2_lowestRow_9 : decode cX2_lowestRow 9 = .ok (.if_icmp .ge 20, 3) := by decide +kernel
theorem dX2_lowestRow_12 : decode cX2_lowestRow 12 = .ok (.aload_n 0, 1) := by decide +kernel
theorem dX2_lowestRow_13 : decode cX2_lowestRow 13 = .ok (.iload_n 2, 1) := by decide +kernel
theorem dX2_lowestRow_14 : decode cX2_lowestRow 14 = .ok (.invokevirtual 127, 3) := by decide +kernel
theorem dX2_lowestRow_17 : decode cX2_lowestRow 17 = .ok (.iload_n 1, 1) := by decide +kernel
theorem dX2_lowestRow_18 : decode cX2_lowestRow 18 = .ok (.if_icmp .lt 5, 3) := by decide +kernel
theorem dX2_lowestRow_21 : decode cX2_lowestRow 21 = .ok (.iload_n 2, 1) := by decide +kernel
theorem dX2_lowestRow_22 : decode cX2_lowestRow 22 = .ok (.ireturn, 1) := by decide +kernel
theorem dX2_lowestRow_23 : decode cX2_lowestRow 23 = .ok (.iinc 2 1, 3) := by decide +kernel
theorem dX2_lowestRow_26 : decode cX2_lowestRow 26 = .ok (.goto (-24), 3) := by decide +kernel
theorem dX2_lowestRow_29 : decode cX2_lowestRow 29 = .ok (.iconst (-1), 1) := by decide +kernel
theorem dX2_lowestRow_30 : decode cX2_lowestRow 30 = .ok (.ireturn, 1) := by decide +kernel
theorem dX2_longestRow_0 : decode cX2_longestRow 0 = .ok (.iconst 0, 1) := by decide +kernel
theorem dX2_longestRow_1 : decode cX2_longestRow 1 = .ok (.istore_n 1, 1) := by decide +kernel
theorem dX2_longestRow_2 : decode cX2_longestRow 2 = .ok (.iconst 0, 1) := by decide +kernel
theorem dX2_longestRow_3 : decode cX2_longestRow 3 = .ok (.istore_n 2, 1) := by decide +kernel
theorem dX2_longestRow_4 : decode cX2_longestRow 4 = .ok (.iload_n 2, 1) := by decide +kernel
theorem dX2_longestRow_5 : decode cX2_longestRow 5 = .ok (.aload_n 0, 1) := by decide +kernel
theorem dX2_longestRow_6 : decode cX2_longestRow 6 = .ok (.getfield 9, 3) := by decide +kernel
theorem dX2_longestRow_9 : decode cX2_longestRow 9 = .ok (.iconst 3, 1) := by decide +kernel
theorem dX2_longestRow_10 : decode cX2_longestRow 10 = .ok (.iaload, 1) := by decide +kernel
theorem dX2_longestRow_11 : decode cX2_longestRow 11 = .ok (.if_icmp .ge 19, 3) := by decide +kernel
theorem dX2_longestRow_14 : decode cX2_longestRow 14 = .ok (.iload_n 1, 1) := by decide +kernel
theorem dX2_longestRow_15 : decode cX2_longestRow 15 = .ok (.aload_n 0, 1) := by decide +kernel
theorem dX2_longestRow_16 : decode cX2_longestRow 16 = .ok (.iload_n 2, 1) := by decide +kernel
theorem dX2_longestRow_17 : decode cX2_longestRow 17 = .ok (.invokevirtual 127, 3) := by decide +kernel
theorem dX2_longestRow_20 : decode cX2_longestRow 20 = .ok (.invokestatic 147, 3) := by decide +kernel
theorem dX2_longestRow_23 : decode cX2_longestRow 23 = .ok (.istore_n 1, 1) := by decide +kernel
theorem dX2_longestRow_24 : decode cX2_longestRow 24 = .ok (.iinc 2 1, 3) := by decide +kernel
theorem dX2_longestRow_27 : decode cX2_longestRow 27 = .ok (.goto (-23), 3) := by decide +kernel
theorem dX2_longestRow_30 : decode cX2_longestRow 30 = .ok (.iload_n 1, 1) := by decide +kernel
theorem dX2_longestRow_31 : decode cX2_longestRow 31 = .ok (.ireturn, 1) := by decide +kernel
theorem dX2_spans_0 : decode cX2_spans 0 = .ok (.iconst 0, 1) := by decide +kernel
theorem dX2_spans_1 : decode cX2_spans 1 = .ok (.istore_n 1, 1) := by decide +kernel
theorem dX2_spans_2 : decode cX2_spans 2 = .ok (.iconst 0, 1) := by decide +kernel
theorem dX2_spans_3 : decode cX2_spans 3 = .ok (.istore_n 2, 1) := by decide +kernel
theorem dX2_spans_4 : decode cX2_spans 4 = .ok (.iload_n 2, 1) := by decide +kernel
theorem dX2_spans_5 : decode cX2_spans 5 = .ok (.aload_n 0, 1) := by decide +kernel
theorem dX2_spans_6 : decode cX2_spans 6 = .ok (.getfield 9, 3) := by decide +kernel
theorem dX2_spans_9 : decode cX2_spans 9 = .ok (.iconst 3, 1) := by decide +kernel
theorem dX2_spans_10 : decode cX2_spans 10 = .ok (.iaload, 1) := by decide +kernel
theorem dX2_spans_11 : decode cX2_spans 11 = .ok (.if_icmp .ge 20, 3) := by decide +kernel
theorem dX2_spans_14 : decode cX2_spans 14 = .ok (.aload_n 0, 1) := by decide +kernel
theorem dX2_spans_15 : decode cX2_spans 15 = .ok (.iload_n 2, 1) := by decide +kernel
theorem dX2_spans_16 : decode cX2_spans 16 = .ok (.invokevirtual 150, 3) := by decide +kernel
theorem dX2_spans_19 : decode cX2_spans 19 = .ok (.ifCond .eq 6, 3) := by decide +kernel
theorem dX2_spans_22 : decode cX2_spans 22 = .ok (.iinc 1 1, 3) := by decide +kernel
theorem dX2_spans_25 : decode cX2_spans 25 = .ok (.iinc 2 1, 3) := by decide +kernel
theorem dX2_spans_28 : decode cX2_spans 28 = .ok (.goto (-24), 3) := by decide +kernel
theorem dX2_spans_31 : decode cX2_spans 31 = .ok (.iload_n 1, 1) := by decide +kernel
theorem dX2_spans_32 : decode cX2_spans 32 = .ok (.ireturn, 1) := by decide +kernel
theorem dX2_startOfSpan_0 : decode cX2_startOfSpan 0 = .ok (.iconst 0, 1) := by decide +kernel
theorem dX2_startOfSpan_1 : decode cX2_startOfSpan 1 = .ok (.istore_n 2, 1) := by decide +kernel
theorem dX2_startOfSpan_2 : decode cX2_startOfSpan 2 = .ok (.iconst 0, 1) := by decide +kernel
theorem dX2_startOfSpan_3 : decode cX2_startOfSpan 3 = .ok (.istore_n 3, 1) := by decide +kernel
theorem dX2_startOfSpan_4 : decode cX2_startOfSpan 4 = .ok (.iload_n 3, 1) := by decide +kernel
theorem dX2_startOfSpan_5 : decode cX2_startOfSpan 5 = .ok (.aload_n 0, 1) := by decide +kernel
theorem dX2_startOfSpan_6 : decode cX2_startOfSpan 6 = .ok (.getfield 9, 3) := by decide +kernel
theorem dX2_startOfSpan_9 : decode cX2_startOfSpan 9 = .ok (.iconst 3, 1) := by decide +kernel
theorem dX2_startOfSpan_10 : decode cX2_startOfSpan 10 = .ok (.iaload, 1) := by decide +kernel
theorem dX2_startOfSpan_11 : decode cX2_startOfSpan 11 = .ok (.if_icmp .ge 27, 3) := by decide +kernel
theorem dX2_startOfSpan_14 : decode cX2_startOfSpan 14 = .ok (.aload_n 0, 1) := by decide +kernel
theorem dX2_startOfSpan_15 : decode cX2_startOfSpan 15 = .ok (.iload_n 3, 1) := by decide +kernel
theorem dX2_startOfSpan_16 : decode cX2_startOfSpan 16 = .ok (.invokevirtual 150, 3) := by decide +kernel
theorem dX2_startOfSpan_19 : decode cX2_startOfSpan 19 = .ok (.ifCond .eq 13, 3) := by decide +kernel
theorem dX2_startOfSpan_22 : decode cX2_startOfSpan 22 = .ok (.iload_n 2, 1) := by decide +kernel
theorem dX2_startOfSpan_23 : decode cX2_startOfSpan 23 = .ok (.iload_n 1, 1) := by decide +kernel
theorem dX2_startOfSpan_24 : decode cX2_startOfSpan 24 = .ok (.if_icmp .ne 5, 3) := by decide +kernel
theorem dX2_startOfSpan_27 : decode cX2_startOfSpan 27 = .ok (.iload_n 3, 1) := by decide +kernel
theorem dX2_startOfSpan_28 : decode cX2_startOfSpan 28 = .ok (.ireturn, 1) := by decide +kernel
theorem dX2_startOfSpan_29 : decode cX2_startOfSpan 29 = .ok (.iinc 2 1, 3) := by decide +kernel
theorem dX2_startOfSpan_32 : decode cX2_startOfSpan 32 = .ok (.iinc 3 1, 3) := by decide +kernel
theorem dX2_startOfSpan_35 : decode cX2_startOfSpan 35 = .ok (.goto (-31), 3) := by decide +kernel
theorem dX2_startOfSpan_38 : decode cX2_startOfSpan 38 = .ok (.iconst (-1), 1) := by decide +kernel
theorem dX2_startOfSpan_39 : decode cX2_startOfSpan 39 = .ok (.ireturn, 1) := by decide +kernel
theorem dX2_startsSpan_0 : decode cX2_startsSpan 0 = .ok (.aload_n 0, 1) := by decide +kernel
theorem dX2_startsSpan_1 : decode cX2_startsSpan 1 = .ok (.getfield 15, 3) := by decide +kernel
theorem dX2_startsSpan_4 : decode cX2_startsSpan 4 = .ok (.iload_n 1, 1) := by decide +kernel
theorem dX2_startsSpan_5 : decode cX2_startsSpan 5 = .ok (.iaload, 1) := by decide +kernel
theorem dX2_startsSpan_6 : decode cX2_startsSpan 6 = .ok (.iconst (-1), 1) := by decide +kernel
theorem dX2_startsSpan_7 : decode cX2_startsSpan 7 = .ok (.if_icmp .ne 23, 3) := by decide +kernel
theorem dX2_startsSpan_10 : decode cX2_startsSpan 10 = .ok (.iload_n 1, 1) := by decide +kernel
theorem dX2_startsSpan_11 : decode cX2_startsSpan 11 = .ok (.ifCond .eq 15, 3) := by decide +kernel
theorem dX2_startsSpan_14 : decode cX2_startsSpan 14 = .ok (.aload_n 0, 1) := by decide +kernel
theorem dX2_startsSpan_15 : decode cX2_startsSpan 15 = .ok (.getfield 15, 3) := by decide +kernel
theorem dX2_startsSpan_18 : decode cX2_startsSpan 18 = .ok (.iload_n 1, 1) := by decide +kernel
theorem dX2_startsSpan_19 : decode cX2_startsSpan 19 = .ok (.iconst 1, 1) := by decide +kernel
theorem dX2_startsSpan_20 : decode cX2_startsSpan 20 = .ok (.isub, 1) := by decide +kernel
theorem dX2_startsSpan_21 : decode cX2_startsSpan 21 = .ok (.iaload, 1) := by decide +kernel
theorem dX2_startsSpan_22 : decode cX2_startsSpan 22 = .ok (.iconst (-1), 1) := by decide +kernel
theorem dX2_startsSpan_23 : decode cX2_startsSpan 23 = .ok (.if_icmp .eq 7, 3) := by decide +kernel
theorem dX2_startsSpan_26 : decode cX2_startsSpan 26 = .ok (.iconst 1, 1) := by decide +kernel
theorem dX2_startsSpan_27 : decode cX2_startsSpan 27 = .ok (.goto 4, 3) := by decide +kernel
theorem dX2_startsSpan_30 : decode cX2_startsSpan 30 = .ok (.iconst 0, 1) := by decide +kernel
theorem dX2_startsSpan_31 : decode cX2_startsSpan 31 = .ok (.ireturn, 1) := by decide +kernel
theorem dX3_init_0 : decode cX3_init 0 = .ok (.aload_n 0, 1) := by decide +kernel
theorem dX3_init_1 : decode cX3_init 1 = .ok (.invokespecial 3, 3) := by decide +kernel
theorem dX3_init_4 : decode cX3_init 4 = .ok (.aload_n 0, 1) := by decide +kernel
theorem dX3_init_5 : decode cX3_init 5 = .ok (.bipush 6, 2) := by decide +kernel
theorem dX3_init_7 : decode cX3_init 7 = .ok (.anewarray 9, 3) := by decide +kernel
theorem dX3_init_10 : decode cX3_init 10 = .ok (.putfield 11, 3) := by decide +kernel
theorem dX3_init_13 : decode cX3_init 13 = .ok (.iconst 0, 1) := by decide +kernel
theorem dX3_init_14 : decode cX3_init 14 = .ok (.istore_n 1, 1) := by decide +kernel
theorem dX3_init_15 : decode cX3_init 15 = .ok (.iload_n 1, 1) := by decide +kernel
theorem dX3_init_16 : decode cX3_init 16 = .ok (.bipush 6, 2) := by decide +kernel
theorem dX3_init_18 : decode cX3_init 18 = .ok (.if_icmp .ge 22, 3) := by decide +kernel
theorem dX3_init_21 : decode cX3_init 21 = .ok (.aload_n 0, 1) := by decide +kernel
theorem dX3_init_22 : decode cX3_init 22 = .ok (.getfield 11, 3) := by decide +kernel
theorem dX3_init_25 : decode cX3_init 25 = .ok (.iload_n 1, 1) := by decide +kernel
theorem dX3_init_26 : decode cX3_init 26 = .ok (.new 9, 3) := by decide +kernel
theorem dX3_init_29 : decode cX3_init 29 = .ok (.dup, 1) := by decide +kernel
theorem dX3_init_30 : decode cX3_init 30 = .ok (.invokespecial 17, 3) := by decide +kernel
theorem dX3_init_33 : decode cX3_init 33 = .ok (.aastore, 1) := by decide +kernel
theorem dX3_init_34 : decode cX3_init 34 = .ok (.iinc 1 1, 3) := by decide +kernel
theorem dX3_init_37 : decode cX3_init 37 = .ok (.goto (-22), 3) := by decide +kernel
theorem dX3_init_40 : decode cX3_init 40 = .ok (.return_, 1) := by decide +kernel
theorem dX3_keep_0 : decode cX3_keep 0 = .ok (.aload_n 0, 1) := by decide +kernel
theorem dX3_keep_1 : decode cX3_keep 1 = .ok (.getfield 18, 3) := by decide +kernel
theorem dX3_keep_4 : decode cX3_keep 4 = .ok (.bipush 6, 2) := by decide +kernel
theorem dX3_keep_6 : decode cX3_keep 6 = .ok (.if_icmp .ne 7, 3) := by decide +kernel
theorem dX3_keep_9 : decode cX3_keep 9 = .ok (.aload_n 0, 1) := by decide +kernel
theorem dX3_keep_10 : decode cX3_keep 10 = .ok (.invokevirtual 22, 3) := by decide +kernel
theorem dX3_keep_13 : decode cX3_keep 13 = .ok (.aload_n 0, 1) := by decide +kernel
theorem dX3_keep_14 : decode cX3_keep 14 = .ok (.getfield 11, 3) := by decide +kernel
theorem dX3_keep_17 : decode cX3_keep 17 = .ok (.aload_n 0, 1) := by decide +kernel
theorem dX3_keep_18 : decode cX3_keep 18 = .ok (.getfield 18, 3) := by decide +kernel
theorem dX3_keep_21 : decode cX3_keep 21 = .ok (.aaload, 1) := by decide +kernel
theorem dX3_keep_22 : decode cX3_keep 22 = .ok (.astore_n 2, 1) := by decide +kernel
theorem dX3_keep_23 : decode cX3_keep 23 = .ok (.aload_n 2, 1) := by decide +kernel
theorem dX3_keep_24 : decode cX3_keep 24 = .ok (.ifnull 18, 3) := by decide +kernel
theorem dX3_keep_27 : decode cX3_keep 27 = .ok (.aload_n 2, 1) := by decide +kernel
theorem dX3_keep_28 : decode cX3_keep 28 = .ok (.aload_n 1, 1) := by decide +kernel
theorem dX3_keep_29 : decode cX3_keep 29 = .ok (.invokevirtual 25, 3) := by decide +kernel
theorem dX3_keep_32 : decode cX3_keep 32 = .ok (.aload_n 0, 1) := by decide +kernel
theorem dX3_keep_33 : decode cX3_keep 33 = .ok (.dup, 1) := by decide +kernel
theorem dX3_keep_34 : decode cX3_keep 34 = .ok (.getfield 18, 3) := by decide +kernel
theorem dX3_keep_37 : decode cX3_keep 37 = .ok (.iconst 1, 1) := by decide +kernel
theorem dX3_keep_38 : decode cX3_keep 38 = .ok (.iadd, 1) := by decide +kernel
theorem dX3_keep_39 : decode cX3_keep 39 = .ok (.putfield 18, 3) := by decide +kernel
theorem dX3_keep_42 : decode cX3_keep 42 = .ok (.return_, 1) := by decide +kernel
theorem dX3_restore_0 : decode cX3_restore 0 = .ok (.aload_n 0, 1) := by decide +kernel
theorem dX3_restore_1 : decode cX3_restore 1 = .ok (.getfield 18, 3) := by decide +kernel
theorem dX3_restore_4 : decode cX3_restore 4 = .ok (.ifCond .ne 4, 3) := by decide +kernel
theorem dX3_restore_7 : decode cX3_restore 7 = .ok (.return_, 1) := by decide +kernel
theorem dX3_restore_8 : decode cX3_restore 8 = .ok (.aload_n 0, 1) := by decide +kernel
theorem dX3_restore_9 : decode cX3_restore 9 = .ok (.dup, 1) := by decide +kernel
theorem dX3_restore_10 : decode cX3_restore 10 = .ok (.getfield 18, 3) := by decide +kernel
theorem dX3_restore_13 : decode cX3_restore 13 = .ok (.iconst 1, 1) := by decide +kernel
theorem dX3_restore_14 : decode cX3_restore 14 = .ok (.isub, 1) := by decide +kernel
theorem dX3_restore_15 : decode cX3_restore 15 = .ok (.putfield 18, 3) := by decide +kernel
theorem dX3_restore_18 : decode cX3_restore 18 = .ok (.aload_n 0, 1) := by decide +kernel
theorem dX3_restore_19 : decode cX3_restore 19 = .ok (.getfield 11, 3) := by decide +kernel
theorem dX3_restore_22 : decode cX3_restore 22 = .ok (.aload_n 0, 1) := by decide +kernel
theorem dX3_restore_23 : decode cX3_restore 23 = .ok (.getfield 18, 3) := by decide +kernel
theorem dX3_restore_26 : decode cX3_restore 26 = .ok (.aaload, 1) := by decide +kernel
theorem dX3_restore_27 : decode cX3_restore 27 = .ok (.astore_n 2, 1) := by decide +kernel
theorem dX3_restore_28 : decode cX3_restore 28 = .ok (.aload_n 2, 1) := by decide +kernel
theorem dX3_restore_29 : decode cX3_restore 29 = .ok (.ifnull 8, 3) := by decide +kernel
theorem dX3_restore_32 : decode cX3_restore 32 = .ok (.aload_n 1, 1) := by decide +kernel
theorem dX3_restore_33 : decode cX3_restore 33 = .ok (.aload_n 2, 1) := by decide +kernel
theorem dX3_restore_34 : decode cX3_restore 34 = .ok (.invokevirtual 25, 3) := by decide +kernel
theorem dX3_restore_37 : decode cX3_restore 37 = .ok (.return_, 1) := by decide +kernel
theorem dX3_dropOldest_0 : decode cX3_dropOldest 0 = .ok (.aload_n 0, 1) := by decide +kernel
theorem dX3_dropOldest_1 : decode cX3_dropOldest 1 = .ok (.getfield 11, 3) := by decide +kernel
theorem dX3_dropOldest_4 : decode cX3_dropOldest 4 = .ok (.iconst 0, 1) := by decide +kernel
theorem dX3_dropOldest_5 : decode cX3_dropOldest 5 = .ok (.aaload, 1) := by decide +kernel
theorem dX3_dropOldest_6 : decode cX3_dropOldest 6 = .ok (.astore_n 1, 1) := by decide +kernel
theorem dX3_dropOldest_7 : decode cX3_dropOldest 7 = .ok (.iconst 1, 1) := by decide +kernel
theorem dX3_dropOldest_8 : decode cX3_dropOldest 8 = .ok (.istore_n 2, 1) := by decide +kernel
theorem dX3_dropOldest_9 : decode cX3_dropOldest 9 = .ok (.iload_n 2, 1) := by decide +kernel
theorem dX3_dropOldest_10 : decode cX3_dropOldest 10 = .ok (.bipush 6, 2) := by decide +kernel
theorem dX3_dropOldest_12 : decode cX3_dropOldest 12 = .ok (.if_icmp .ge 23, 3) := by decide +kernel
theorem dX3_dropOldest_15 : decode cX3_dropOldest 15 = .ok (.aload_n 0, 1) := by decide +kernel
theorem dX3_dropOldest_16 : decode cX3_dropOldest 16 = .ok (.getfield 11, 3) := by decide +kernel
theorem dX3_dropOldest_19 : decode cX3_dropOldest 19 = .ok (.iload_n 2, 1) := by decide +kernel
theorem dX3_dropOldest_20 : decode cX3_dropOldest 20 = .ok (.iconst 1, 1) := by decide +kernel
theorem dX3_dropOldest_21 : decode cX3_dropOldest 21 = .ok (.isub, 1) := by decide +kernel
theorem dX3_dropOldest_22 : decode cX3_dropOldest 22 = .ok (.aload_n 0, 1) := by decide +kernel
theorem dX3_dropOldest_23 : decode cX3_dropOldest 23 = .ok (.getfield 11, 3) := by decide +kernel
theorem dX3_dropOldest_26 : decode cX3_dropOldest 26 = .ok (.iload_n 2, 1) := by decide +kernel
theorem dX3_dropOldest_27 : decode cX3_dropOldest 27 = .ok (.aaload, 1) := by decide +kernel
theorem dX3_dropOldest_28 : decode cX3_dropOldest 28 = .ok (.aastore, 1) := by decide +kernel
theorem dX3_dropOldest_29 : decode cX3_dropOldest 29 = .ok (.iinc 2 1, 3) := by decide +kernel
theorem dX3_dropOldest_32 : decode cX3_dropOldest 32 = .ok (.goto (-23), 3) := by decide +kernel
theorem dX3_dropOldest_35 : decode cX3_dropOldest 35 = .ok (.aload_n 0, 1) := by decide +kernel
theorem dX3_dropOldest_36 : decode cX3_dropOldest 36 = .ok (.getfield 11, 3) := by decide +kernel
theorem dX3_dropOldest_39 : decode cX3_dropOldest 39 = .ok (.iconst 5, 1) := by decide +kernel
theorem dX3_dropOldest_40 : decode cX3_dropOldest 40 = .ok (.aload_n 1, 1) := by decide +kernel
theorem dX3_dropOldest_41 : decode cX3_dropOldest 41 = .ok (.aastore, 1) := by decide +kernel
theorem dX3_dropOldest_42 : decode cX3_dropOldest 42 = .ok (.aload_n 0, 1) := by decide +kernel
theorem dX3_dropOldest_43 : decode cX3_dropOldest 43 = .ok (.dup, 1) := by decide +kernel
theorem dX3_dropOldest_44 : decode cX3_dropOldest 44 = .ok (.getfield 18, 3) := by decide +kernel
theorem dX3_dropOldest_47 : decode cX3_dropOldest 47 = .ok (.iconst 1, 1) := by decide +kernel
theorem dX3_dropOldest_48 : decode cX3_dropOldest 48 = .ok (.isub, 1) := by decide +kernel
theorem dX3_dropOldest_49 : decode cX3_dropOldest 49 = .ok (.putfield 18, 3) := by decide +kernel
theorem dX3_dropOldest_52 : decode cX3_dropOldest 52 = .ok (.return_, 1) := by decide +kernel
theorem dX4_init_0 : decode cX4_init 0 = .ok (.aload_n 0, 1) := by decide +kernel
theorem dX4_init_1 : decode cX4_init 1 = .ok (.invokespecial 1, 3) := by decide +kernel
theorem dX4_init_4 : decode cX4_init 4 = .ok (.aload_n 0, 1) := by decide +kernel
theorem dX4_init_5 : decode cX4_init 5 = .ok (.new 7, 3) := by decide +kernel
theorem dX4_init_8 : decode cX4_init 8 = .ok (.dup, 1) := by decide +kernel
theorem dX4_init_9 : decode cX4_init 9 = .ok (.invokespecial 9, 3) := by decide +kernel
theorem dX4_init_12 : decode cX4_init 12 = .ok (.putfield 10, 3) := by decide +kernel
theorem dX4_init_15 : decode cX4_init 15 = .ok (.aload_n 0, 1) := by decide +kernel
theorem dX4_init_16 : decode cX4_init 16 = .ok (.new 7, 3) := by decide +kernel
theorem dX4_init_19 : decode cX4_init 19 = .ok (.dup, 1) := by decide +kernel
theorem dX4_init_20 : decode cX4_init 20 = .ok (.invokespecial 9, 3) := by decide +kernel
theorem dX4_init_23 : decode cX4_init 23 = .ok (.putfield 16, 3) := by decide +kernel
theorem dX4_init_26 : decode cX4_init 26 = .ok (.aload_n 0, 1) := by decide +kernel
theorem dX4_init_27 : decode cX4_init 27 = .ok (.new 19, 3) := by decide +kernel
theorem dX4_init_30 : decode cX4_init 30 = .ok (.dup, 1) := by decide +kernel
theorem dX4_init_31 : decode cX4_init 31 = .ok (.invokespecial 21, 3) := by decide +kernel
theorem dX4_init_34 : decode cX4_init 34 = .ok (.putfield 22, 3) := by decide +kernel
theorem dX4_init_37 : decode cX4_init 37 = .ok (.aload_n 0, 1) := by decide +kernel
theorem dX4_init_38 : decode cX4_init 38 = .ok (.new 26, 3) := by decide +kernel
theorem dX4_init_41 : decode cX4_init 41 = .ok (.dup, 1) := by decide +kernel
theorem dX4_init_42 : decode cX4_init 42 = .ok (.invokespecial 28, 3) := by decide +kernel
theorem dX4_init_45 : decode cX4_init 45 = .ok (.putfield 29, 3) := by decide +kernel
theorem dX4_init_48 : decode cX4_init 48 = .ok (.return_, 1) := by decide +kernel
theorem dX4_take_0 : decode cX4_take 0 = .ok (.aload_n 0, 1) := by decide +kernel
theorem dX4_take_1 : decode cX4_take 1 = .ok (.iload_n 1, 1) := by decide +kernel
theorem dX4_take_2 : decode cX4_take 2 = .ok (.iconst 1, 1) := by decide +kernel
theorem dX4_take_3 : decode cX4_take 3 = .ok (.iload_n 2, 1) := by decide +kernel
theorem dX4_take_4 : decode cX4_take 4 = .ok (.invokevirtual 33, 3) := by decide +kernel
theorem dX4_take_7 : decode cX4_take 7 = .ok (.ireturn, 1) := by decide +kernel
theorem dX4_takeSpan_0 : decode cX4_takeSpan 0 = .ok (.aload_n 0, 1) := by decide +kernel
theorem dX4_takeSpan_1 : decode cX4_takeSpan 1 = .ok (.iload_n 1, 1) := by decide +kernel
theorem dX4_takeSpan_2 : decode cX4_takeSpan 2 = .ok (.iload_n 2, 1) := by decide +kernel
theorem dX4_takeSpan_3 : decode cX4_takeSpan 3 = .ok (.iload_n 3, 1) := by decide +kernel
theorem dX4_takeSpan_4 : decode cX4_takeSpan 4 = .ok (.invokevirtual 33, 3) := by decide +kernel
theorem dX4_takeSpan_7 : decode cX4_takeSpan 7 = .ok (.ireturn, 1) := by decide +kernel
theorem dX4_wish_0 : decode cX4_wish 0 = .ok (.iload_n 1, 1) := by decide +kernel
theorem dX4_wish_1 : decode cX4_wish 1 = .ok (.invokestatic 37, 3) := by decide +kernel
theorem dX4_wish_4 : decode cX4_wish 4 = .ok (.aload_n 0, 1) := by decide +kernel
theorem dX4_wish_5 : decode cX4_wish 5 = .ok (.iload_n 2, 1) := by decide +kernel
theorem dX4_wish_6 : decode cX4_wish 6 = .ok (.invokevirtual 41, 3) := by decide +kernel
theorem dX4_wish_9 : decode cX4_wish 9 = .ok (.iload_n 3, 1) := by decide +kernel
theorem dX4_wish_10 : decode cX4_wish 10 = .ok (.iconst 1, 1) := by decide +kernel
theorem dX4_wish_11 : decode cX4_wish 11 = .ok (.sipush 999, 3) := by decide +kernel
theorem dX4_wish_14 : decode cX4_wish 14 = .ok (.invokestatic 44, 3) := by decide +kernel
theorem dX4_wish_17 : decode cX4_wish 17 = .ok (.aload_n 0, 1) := by decide +kernel
theorem dX4_wish_18 : decode cX4_wish 18 = .ok (.getfield 10, 3) := by decide +kernel
theorem dX4_wish_21 : decode cX4_wish 21 = .ok (.iload_n 1, 1) := by decide +kernel
theorem dX4_wish_22 : decode cX4_wish 22 = .ok (.iload_n 2, 1) := by decide +kernel
theorem dX4_wish_23 : decode cX4_wish 23 = .ok (.invokevirtual 48, 3) := by decide +kernel
theorem dX4_wish_26 : decode cX4_wish 26 = .ok (.invokestatic 52, 3) := by decide +kernel
theorem dX4_wish_29 : decode cX4_wish 29 = .ok (.aload_n 0, 1) := by decide +kernel
theorem dX4_wish_30 : decode cX4_wish 30 = .ok (.getfield 22, 3) := by decide +kernel
theorem dX4_wish_33 : decode cX4_wish 33 = .ok (.aload_n 0, 1) := by decide +kernel
theorem dX4_wish_34 : decode cX4_wish 34 = .ok (.getfield 10, 3) := by decide +kernel
theorem dX4_wish_37 : decode cX4_wish 37 = .ok (.invokevirtual 56, 3) := by decide +kernel
theorem dX4_wish_40 : decode cX4_wish 40 = .ok (.aload_n 0, 1) := by decide +kernel
theorem dX4_wish_41 : decode cX4_wish 41 = .ok (.getfield 10, 3) := by decide +kernel
theorem dX4_wish_44 : decode cX4_wish 44 = .ok (.iload_n 1, 1) := by decide +kernel
theorem dX4_wish_45 : decode cX4_wish 45 = .ok (.iload_n 2, 1) := by decide +kernel
theorem dX4_wish_46 : decode cX4_wish 46 = .ok (.iload_n 3, 1) := by decide +kernel
theorem dX4_wish_47 : decode cX4_wish 47 = .ok (.invokevirtual 60, 3) := by decide +kernel
theorem dX4_wish_50 : decode cX4_wish 50 = .ok (.ireturn, 1) := by decide +kernel
theorem dX4_unwish_0 : decode cX4_unwish 0 = .ok (.iload_n 1, 1) := by decide +kernel
theorem dX4_unwish_1 : decode cX4_unwish 1 = .ok (.invokestatic 37, 3) := by decide +kernel
theorem dX4_unwish_4 : decode cX4_unwish 4 = .ok (.aload_n 0, 1) := by decide +kernel
theorem dX4_unwish_5 : decode cX4_unwish 5 = .ok (.iload_n 2, 1) := by decide +kernel
theorem dX4_unwish_6 : decode cX4_unwish 6 = .ok (.invokevirtual 41, 3) := by decide +kernel
theorem dX4_unwish_9 : decode cX4_unwish 9 = .ok (.aload_n 0, 1) := by decide +kernel
theorem dX4_unwish_10 : decode cX4_unwish 10 = .ok (.getfield 10, 3) := by decide +kernel
theorem dX4_unwish_13 : decode cX4_unwish 13 = .ok (.iload_n 1, 1) := by decide +kernel
theorem dX4_unwish_14 : decode cX4_unwish 14 = .ok (.iload_n 2, 1) := by decide +kernel
theorem dX4_unwish_15 : decode cX4_unwish 15 = .ok (.invokevirtual 63, 3) := by decide +kernel
theorem dX4_unwish_18 : decode cX4_unwish 18 = .ok (.istore_n 3, 1) := by decide +kernel
theorem dX4_unwish_19 : decode cX4_unwish 19 = .ok (.iload_n 3, 1) := by decide +kernel
theorem dX4_unwish_20 : decode cX4_unwish 20 = .ok (.iconst (-1), 1) := by decide +kernel
theorem dX4_unwish_21 : decode cX4_unwish 21 = .ok (.if_icmp .eq 7, 3) := by decide +kernel
theorem dX4_unwish_24 : decode cX4_unwish 24 = .ok (.iconst 1, 1) := by decide +kernel
theorem dX4_unwish_25 : decode cX4_unwish 25 = .ok (.goto 4, 3) := by decide +kernel
theorem dX4_unwish_28 : decode cX4_unwish 28 = .ok (.iconst 0, 1) := by decide +kernel
theorem dX4_unwish_29 : decode cX4_unwish 29 = .ok (.invokestatic 52, 3) := by decide +kernel
theorem dX4_unwish_32 : decode cX4_unwish 32 = .ok (.aload_n 0, 1) := by decide +kernel
theorem dX4_unwish_33 : decode cX4_unwish 33 = .ok (.getfield 22, 3) := by decide +kernel
theorem dX4_unwish_36 : decode cX4_unwish 36 = .ok (.aload_n 0, 1) := by decide +kernel
theorem dX4_unwish_37 : decode cX4_unwish 37 = .ok (.getfield 10, 3) := by decide +kernel
theorem dX4_unwish_40 : decode cX4_unwish 40 = .ok (.invokevirtual 56, 3) := by decide +kernel
theorem dX4_unwish_43 : decode cX4_unwish 43 = .ok (.aload_n 0, 1) := by decide +kernel
theorem dX4_unwish_44 : decode cX4_unwish 44 = .ok (.getfield 10, 3) := by decide +kernel
theorem dX4_unwish_47 : decode cX4_unwish 47 = .ok (.iload_n 2, 1) := by decide +kernel
theorem dX4_unwish_48 : decode cX4_unwish 48 = .ok (.iload_n 3, 1) := by decide +kernel
theorem dX4_unwish_49 : decode cX4_unwish 49 = .ok (.invokevirtual 67, 3) := by decide +kernel
theorem dX4_unwish_52 : decode cX4_unwish 52 = .ok (.aload_n 0, 1) := by decide +kernel
theorem dX4_unwish_53 : decode cX4_unwish 53 = .ok (.getfield 10, 3) := by decide +kernel
theorem dX4_unwish_56 : decode cX4_unwish 56 = .ok (.getfield 71, 3) := by decide +kernel
theorem dX4_unwish_59 : decode cX4_unwish 59 = .ok (.iload_n 2, 1) := by decide +kernel
theorem dX4_unwish_60 : decode cX4_unwish 60 = .ok (.iaload, 1) := by decide +kernel
theorem dX4_unwish_61 : decode cX4_unwish 61 = .ok (.ireturn, 1) := by decide +kernel
theorem dX4_renew_0 : decode cX4_renew 0 = .ok (.iload_n 1, 1) := by decide +kernel
theorem dX4_renew_1 : decode cX4_renew 1 = .ok (.invokestatic 37, 3) := by decide +kernel
theorem dX4_renew_4 : decode cX4_renew 4 = .ok (.aload_n 0, 1) := by decide +kernel
theorem dX4_renew_5 : decode cX4_renew 5 = .ok (.iload_n 2, 1) := by decide +kernel
theorem dX4_renew_6 : decode cX4_renew 6 = .ok (.invokevirtual 41, 3) := by decide +kernel
theorem dX4_renew_9 : decode cX4_renew 9 = .ok (.iload_n 3, 1) := by decide +kernel
theorem dX4_renew_10 : decode cX4_renew 10 = .ok (.iconst 1, 1) := by decide +kernel
theorem dX4_renew_11 : decode cX4_renew 11 = .ok (.sipush 999, 3) := by decide +kernel
theorem dX4_renew_14 : decode cX4_renew 14 = .ok (.invokestatic 44, 3) := by decide +kernel
theorem dX4_renew_17 : decode cX4_renew 17 = .ok (.aload_n 0, 1) := by decide +kernel
theorem dX4_renew_18 : decode cX4_renew 18 = .ok (.getfield 10, 3) := by decide +kernel
theorem dX4_renew_21 : decode cX4_renew 21 = .ok (.iload_n 1, 1) := by decide +kernel
theorem dX4_renew_22 : decode cX4_renew 22 = .ok (.iload_n 2, 1) := by decide +kernel
theorem dX4_renew_23 : decode cX4_renew 23 = .ok (.invokevirtual 75, 3) := by decide +kernel
theorem dX4_renew_26 : decode cX4_renew 26 = .ok (.invokestatic 52, 3) := by decide +kernel
theorem dX4_renew_29 : decode cX4_renew 29 = .ok (.aload_n 0, 1) := by decide +kernel
theorem dX4_renew_30 : decode cX4_renew 30 = .ok (.getfield 22, 3) := by decide +kernel
theorem dX4_renew_33 : decode cX4_renew 33 = .ok (.aload_n 0, 1) := by decide +kernel
theorem dX4_renew_34 : decode cX4_renew 34 = .ok (.getfield 10, 3) := by decide +kernel
theorem dX4_renew_37 : decode cX4_renew 37 = .ok (.invokevirtual 56, 3) := by decide +kernel
theorem dX4_renew_40 : decode cX4_renew 40 = .ok (.aload_n 0, 1) := by decide +kernel
theorem dX4_renew_41 : decode cX4_renew 41 = .ok (.getfield 10, 3) := by decide +kernel
theorem dX4_renew_44 : decode cX4_renew 44 = .ok (.iload_n 2, 1) := by decide +kernel
theorem dX4_renew_45 : decode cX4_renew 45 = .ok (.iload_n 3, 1) := by decide +kernel
theorem dX4_renew_46 : decode cX4_renew 46 = .ok (.invokevirtual 78, 3) := by decide +kernel
theorem dX4_renew_49 : decode cX4_renew 49 = .ok (.ireturn, 1) := by decide +kernel
theorem dX4_giveBack_0 : decode cX4_giveBack 0 = .ok (.iload_n 1, 1) := by decide +kernel
theorem dX4_giveBack_1 : decode cX4_giveBack 1 = .ok (.invokestatic 37, 3) := by decide +kernel
theorem dX4_giveBack_4 : decode cX4_giveBack 4 = .ok (.aload_n 0, 1) := by decide +kernel
theorem dX4_giveBack_5 : decode cX4_giveBack 5 = .ok (.iload_n 2, 1) := by decide +kernel
theorem dX4_giveBack_6 : decode cX4_giveBack 6 = .ok (.invokevirtual 41, 3) := by decide +kernel
theorem dX4_giveBack_9 : decode cX4_giveBack 9 = .ok (.aload_n 0, 1) := by decide +kernel
theorem dX4_giveBack_10 : decode cX4_giveBack 10 = .ok (.iload_n 3, 1) := by decide +kernel
theorem dX4_giveBack_11 : decode cX4_giveBack 11 = .ok (.invokevirtual 41, 3) := by decide +kernel
theorem dX4_giveBack_14 : decode cX4_giveBack 14 = .ok (.iload_n 3, 1) := by decide +kernel
theorem dX4_giveBack_15 : decode cX4_giveBack 15 = .ok (.iload_n 2, 1) := by decide +kernel
theorem dX4_giveBack_16 : decode cX4_giveBack 16 = .ok (.bipush 64, 2) := by decide +kernel
theorem dX4_giveBack_18 : decode cX4_giveBack 18 = .ok (.invokestatic 44, 3) := by decide +kernel
theorem dX4_giveBack_21 : decode cX4_giveBack 21 = .ok (.aload_n 0, 1) := by decide +kernel
theorem dX4_giveBack_22 : decode cX4_giveBack 22 = .ok (.getfield 22, 3) := by decide +kernel
theorem dX4_giveBack_25 : decode cX4_giveBack 25 = .ok (.aload_n 0, 1) := by decide +kernel
theorem dX4_giveBack_26 : decode cX4_giveBack 26 = .ok (.getfield 10, 3) := by decide +kernel
theorem dX4_giveBack_29 : decode cX4_giveBack 29 = .ok (.invokevirtual 56, 3) := by decide +kernel
theorem dX4_giveBack_32 : decode cX4_giveBack 32 = .ok (.aload_n 0, 1) := by decide +kernel
theorem dX4_giveBack_33 : decode cX4_giveBack 33 = .ok (.getfield 10, 3) := by decide +kernel
theorem dX4_giveBack_36 : decode cX4_giveBack 36 = .ok (.iload_n 1, 1) := by decide +kernel
theorem dX4_giveBack_37 : decode cX4_giveBack 37 = .ok (.iload_n 2, 1) := by decide +kernel
theorem dX4_giveBack_38 : decode cX4_giveBack 38 = .ok (.iload_n 3, 1) := by decide +kernel
theorem dX4_giveBack_39 : decode cX4_giveBack 39 = .ok (.invokevirtual 81, 3) := by decide +kernel
theorem dX4_giveBack_42 : decode cX4_giveBack 42 = .ok (.ireturn, 1) := by decide +kernel
theorem dX4_pass_0 : decode cX4_pass 0 = .ok (.iload_n 1, 1) := by decide +kernel
theorem dX4_pass_1 : decode cX4_pass 1 = .ok (.iconst 1, 1) := by decide +kernel
theorem dX4_pass_2 : decode cX4_pass 2 = .ok (.bipush 99, 2) := by decide +kernel
theorem dX4_pass_4 : decode cX4_pass 4 = .ok (.invokestatic 44, 3) := by decide +kernel
theorem dX4_pass_7 : decode cX4_pass 7 = .ok (.aload_n 0, 1) := by decide +kernel
theorem dX4_pass_8 : decode cX4_pass 8 = .ok (.getfield 10, 3) := by decide +kernel
theorem dX4_pass_11 : decode cX4_pass 11 = .ok (.iload_n 1, 1) := by decide +kernel
theorem dX4_pass_12 : decode cX4_pass 12 = .ok (.invokevirtual 84, 3) := by decide +kernel
theorem dX4_pass_15 : decode cX4_pass 15 = .ok (.invokestatic 52, 3) := by decide +kernel
theorem dX4_pass_18 : decode cX4_pass 18 = .ok (.aload_n 0, 1) := by decide +kernel
theorem dX4_pass_19 : decode cX4_pass 19 = .ok (.getfield 22, 3) := by decide +kernel
theorem dX4_pass_22 : decode cX4_pass 22 = .ok (.aload_n 0, 1) := by decide +kernel
theorem dX4_pass_23 : decode cX4_pass 23 = .ok (.getfield 10, 3) := by decide +kernel
theorem dX4_pass_26 : decode cX4_pass 26 = .ok (.invokevirtual 56, 3) := by decide +kernel
theorem dX4_pass_29 : decode cX4_pass 29 = .ok (.aload_n 0, 1) := by decide +kernel
theorem dX4_pass_30 : decode cX4_pass 30 = .ok (.getfield 10, 3) := by decide +kernel
theorem dX4_pass_33 : decode cX4_pass 33 = .ok (.iload_n 1, 1) := by decide +kernel
theorem dX4_pass_34 : decode cX4_pass 34 = .ok (.invokevirtual 88, 3) := by decide +kernel
theorem dX4_pass_37 : decode cX4_pass 37 = .ok (.ireturn, 1) := by decide +kernel
theorem dX4_set_0 : decode cX4_set 0 = .ok (.iload_n 1, 1) := by decide +kernel
theorem dX4_set_1 : decode cX4_set 1 = .ok (.invokestatic 92, 3) := by decide +kernel
theorem dX4_set_4 : decode cX4_set 4 = .ok (.iload_n 2, 1) := by decide +kernel
theorem dX4_set_5 : decode cX4_set 5 = .ok (.getstatic 95, 3) := by decide +kernel
theorem dX4_set_8 : decode cX4_set 8 = .ok (.iload_n 1, 1) := by decide +kernel
theorem dX4_set_9 : decode cX4_set 9 = .ok (.iaload, 1) := by decide +kernel
theorem dX4_set_10 : decode cX4_set 10 = .ok (.getstatic 98, 3) := by decide +kernel
theorem dX4_set_13 : decode cX4_set 13 = .ok (.iload_n 1, 1) := by decide +kernel
theorem dX4_set_14 : decode cX4_set 14 = .ok (.iaload, 1) := by decide +kernel
theorem dX4_set_15 : decode cX4_set 15 = .ok (.invokestatic 44, 3) := by decide +kernel
theorem dX4_set_18 : decode cX4_set 18 = .ok (.iload_n 1, 1) := by decide +kernel
theorem dX4_set_19 : decode cX4_set 19 = .ok (.iconst 3, 1) := by decide +kernel
theorem dX4_set_20 : decode cX4_set 20 = .ok (.if_icmp .ne 14, 3) := by decide +kernel
theorem dX4_set_23 : decode cX4_set 23 = .ok (.aload_n 0, 1) := by decide +kernel
theorem dX4_set_24 : decode cX4_set 24 = .ok (.getfield 10, 3) := by decide +kernel
theorem dX4_set_27 : decode cX4_set 27 = .ok (.iload_n 2, 1) := by decide +kernel
theorem dX4_set_28 : decode cX4_set 28 = .ok (.invokevirtual 101, 3) := by decide +kernel
theorem dX4_set_31 : decode cX4_set 31 = .ok (.ifCond .eq 7, 3) := by decide +kernel
theorem dX4_set_34 : decode cX4_set 34 = .ok (.iconst 1, 1) := by decide +kernel
theorem dX4_set_35 : decode cX4_set 35 = .ok (.goto 4, 3) := by decide +kernel
theorem dX4_set_38 : decode cX4_set 38 = .ok (.iconst 0, 1) := by decide +kernel
theorem dX4_set_39 : decode cX4_set 39 = .ok (.invokestatic 52, 3) := by decide +kernel
theorem dX4_set_42 : decode cX4_set 42 = .ok (.aload_n 0, 1) := by decide +kernel
theorem dX4_set_43 : decode cX4_set 43 = .ok (.getfield 22, 3) := by decide +kernel
theorem dX4_set_46 : decode cX4_set 46 = .ok (.aload_n 0, 1) := by decide +kernel
theorem dX4_set_47 : decode cX4_set 47 = .ok (.getfield 10, 3) := by decide +kernel
theorem dX4_set_50 : decode cX4_set 50 = .ok (.invokevirtual 56, 3) := by decide +kernel
theorem dX4_set_53 : decode cX4_set 53 = .ok (.aload_n 0, 1) := by decide +kernel
theorem dX4_set_54 : decode cX4_set 54 = .ok (.getfield 10, 3) := by decide +kernel
theorem dX4_set_57 : decode cX4_set 57 = .ok (.getfield 104, 3) := by decide +kernel
theorem dX4_set_60 : decode cX4_set 60 = .ok (.iload_n 1, 1) := by decide +kernel
theorem dX4_set_61 : decode cX4_set 61 = .ok (.iaload, 1) := by decide +kernel
theorem dX4_set_62 : decode cX4_set 62 = .ok (.istore_n 3, 1) := by decide +kernel
theorem dX4_set_63 : decode cX4_set 63 = .ok (.aload_n 0, 1) := by decide +kernel
theorem dX4_set_64 : decode cX4_set 64 = .ok (.getfield 10, 3) := by decide +kernel
theorem dX4_set_67 : decode cX4_set 67 = .ok (.getfield 104, 3) := by decide +kernel
theorem dX4_set_70 : decode cX4_set 70 = .ok (.iload_n 1, 1) := by decide +kernel
theorem dX4_set_71 : decode cX4_set 71 = .ok (.iload_n 2, 1) := by decide +kernel
theorem dX4_set_72 : decode cX4_set 72 = .ok (.iastore, 1) := by decide +kernel
theorem dX4_set_73 : decode cX4_set 73 = .ok (.iload_n 3, 1) := by decide +kernel
theorem dX4_set_74 : decode cX4_set 74 = .ok (.ireturn, 1) := by decide +kernel
theorem dX4_undo_0 : decode cX4_undo 0 = .ok (.aload_n 0, 1) := by decide +kernel
theorem dX4_undo_1 : decode cX4_undo 1 = .ok (.getfield 22, 3) := by decide +kernel
theorem dX4_undo_4 : decode cX4_undo 4 = .ok (.getfield 133, 3) := by decide +kernel
theorem dX4_undo_7 : decode cX4_undo 7 = .ok (.ifCond .le 7, 3) := by decide +kernel
theorem dX4_undo_10 : decode cX4_undo 10 = .ok (.iconst 1, 1) := by decide +kernel
theorem dX4_undo_11 : decode cX4_undo 11 = .ok (.goto 4, 3) := by decide +kernel
theorem dX4_undo_14 : decode cX4_undo 14 = .ok (.iconst 0, 1) := by decide +kernel
theorem dX4_undo_15 : decode cX4_undo 15 = .ok (.invokestatic 52, 3) := by decide +kernel
theorem dX4_undo_18 : decode cX4_undo 18 = .ok (.aload_n 0, 1) := by decide +kernel
theorem dX4_undo_19 : decode cX4_undo 19 = .ok (.getfield 22, 3) := by decide +kernel
theorem dX4_undo_22 : decode cX4_undo 22 = .ok (.aload_n 0, 1) := by decide +kernel
theorem dX4_undo_23 : decode cX4_undo 23 = .ok (.getfield 10, 3) := by decide +kernel
theorem dX4_undo_26 : decode cX4_undo 26 = .ok (.invokevirtual 136, 3) := by decide +kernel
theorem dX4_undo_29 : decode cX4_undo 29 = .ok (.aload_n 0, 1) := by decide +kernel
theorem dX4_undo_30 : decode cX4_undo 30 = .ok (.getfield 22, 3) := by decide +kernel
theorem dX4_undo_33 : decode cX4_undo 33 = .ok (.getfield 133, 3) := by decide +kernel
theorem dX4_undo_36 : decode cX4_undo 36 = .ok (.ireturn, 1) := by decide +kernel
theorem dX4_number_0 : decode cX4_number 0 = .ok (.aload_n 0, 1) := by decide +kernel
theorem dX4_number_1 : decode cX4_number 1 = .ok (.iload_n 1, 1) := by decide +kernel
theorem dX4_number_2 : decode cX4_number 2 = .ok (.invokevirtual 41, 3) := by decide +kernel
theorem dX4_number_5 : decode cX4_number 5 = .ok (.iload_n 2, 1) := by decide +kernel
theorem dX4_number_6 : decode cX4_number 6 = .ok (.iconst 0, 1) := by decide +kernel
theorem dX4_number_7 : decode cX4_number 7 = .ok (.bipush 8, 2) := by decide +kernel
theorem dX4_number_9 : decode cX4_number 9 = .ok (.invokestatic 44, 3) := by decide +kernel
theorem dX4_number_12 : decode cX4_number 12 = .ok (.aload_n 0, 1) := by decide +kernel
theorem dX4_number_13 : decode cX4_number 13 = .ok (.getfield 10, 3) := by decide +kernel
theorem dX4_number_16 : decode cX4_number 16 = .ok (.iload_n 1, 1) := by decide +kernel
theorem dX4_number_17 : decode cX4_number 17 = .ok (.iload_n 2, 1) := by decide +kernel
theorem dX4_number_18 : decode cX4_number 18 = .ok (.invokevirtual 139, 3) := by decide +kernel
theorem dX4_number_21 : decode cX4_number 21 = .ok (.ireturn, 1) := by decide +kernel
theorem dX4_holder_0 : decode cX4_holder 0 = .ok (.iload_n 1, 1) := by decide +kernel
theorem dX4_holder_1 : decode cX4_holder 1 = .ok (.invokestatic 37, 3) := by decide +kernel
theorem dX4_holder_4 : decode cX4_holder 4 = .ok (.iload_n 2, 1) := by decide +kernel
theorem dX4_holder_5 : decode cX4_holder 5 = .ok (.iconst 0, 1) := by decide +kernel
theorem dX4_holder_6 : decode cX4_holder 6 = .ok (.bipush 7, 2) := by decide +kernel
theorem dX4_holder_8 : decode cX4_holder 8 = .ok (.invokestatic 44, 3) := by decide +kernel
theorem dX4_holder_11 : decode cX4_holder 11 = .ok (.aload_n 0, 1) := by decide +kernel
theorem dX4_holder_12 : decode cX4_holder 12 = .ok (.getfield 10, 3) := by decide +kernel
theorem dX4_holder_15 : decode cX4_holder 15 = .ok (.iload_n 1, 1) := by decide +kernel
theorem dX4_holder_16 : decode cX4_holder 16 = .ok (.iload_n 2, 1) := by decide +kernel
theorem dX4_holder_17 : decode cX4_holder 17 = .ok (.invokevirtual 142, 3) := by decide +kernel
theorem dX4_holder_20 : decode cX4_holder 20 = .ok (.ireturn, 1) := by decide +kernel
theorem dX4_span_0 : decode cX4_span 0 = .ok (.iload_n 1, 1) := by decide +kernel
theorem dX4_span_1 : decode cX4_span 1 = .ok (.ifCond .ge 11, 3) := by decide +kernel
theorem dX4_span_4 : decode cX4_span 4 = .ok (.new 121, 3) := by decide +kernel
theorem dX4_span_7 : decode cX4_span 7 = .ok (.dup, 1) := by decide +kernel
theorem dX4_span_8 : decode cX4_span 8 = .ok (.invokespecial 123, 3) := by decide +kernel
theorem dX4_span_11 : decode cX4_span 11 = .ok (.athrow, 1) := by decide +kernel
theorem dX4_span_12 : decode cX4_span 12 = .ok (.iload_n 2, 1) := by decide +kernel
theorem dX4_span_13 : decode cX4_span 13 = .ok (.iconst 0, 1) := by decide +kernel
theorem dX4_span_14 : decode cX4_span 14 = .ok (.iconst 1, 1) := by decide +kernel
theorem dX4_span_15 : decode cX4_span 15 = .ok (.invokestatic 44, 3) := by decide +kernel
theorem dX4_span_18 : decode cX4_span 18 = .ok (.aload_n 0, 1) := by decide +kernel
theorem dX4_span_19 : decode cX4_span 19 = .ok (.getfield 10, 3) := by decide +kernel
theorem dX4_span_22 : decode cX4_span 22 = .ok (.iload_n 1, 1) := by decide +kernel
theorem dX4_span_23 : decode cX4_span 23 = .ok (.iload_n 2, 1) := by decide +kernel
theorem dX4_span_24 : decode cX4_span 24 = .ok (.invokevirtual 145, 3) := by decide +kernel
theorem dX4_span_27 : decode cX4_span 27 = .ok (.ireturn, 1) := by decide +kernel
theorem dX4_count_0 : decode cX4_count 0 = .ok (.iload_n 1, 1) := by decide +kernel
theorem dX4_count_1 : decode cX4_count 1 = .ok (.iconst 0, 1) := by decide +kernel
theorem dX4_count_2 : decode cX4_count 2 = .ok (.bipush 12, 2) := by decide +kernel
theorem dX4_count_4 : decode cX4_count 4 = .ok (.invokestatic 44, 3) := by decide +kernel
theorem dX4_count_7 : decode cX4_count 7 = .ok (.aload_n 0, 1) := by decide +kernel
theorem dX4_count_8 : decode cX4_count 8 = .ok (.iload_n 1, 1) := by decide +kernel
theorem dX4_count_9 : decode cX4_count 9 = .ok (.invokevirtual 148, 3) := by decide +kernel
theorem dX4_count_12 : decode cX4_count 12 = .ok (.ireturn, 1) := by decide +kernel
theorem dX4_setting_0 : decode cX4_setting 0 = .ok (.iload_n 1, 1) := by decide +kernel
theorem dX4_setting_1 : decode cX4_setting 1 = .ok (.invokestatic 92, 3) := by decide +kernel
theorem dX4_setting_4 : decode cX4_setting 4 = .ok (.aload_n 0, 1) := by decide +kernel
theorem dX4_setting_5 : decode cX4_setting 5 = .ok (.getfield 10, 3) := by decide +kernel
theorem dX4_setting_8 : decode cX4_setting 8 = .ok (.getfield 104, 3) := by decide +kernel
theorem dX4_setting_11 : decode cX4_setting 11 = .ok (.iload_n 1, 1) := by decide +kernel
theorem dX4_setting_12 : decode cX4_setting 12 = .ok (.iaload, 1) := by decide +kernel
theorem dX4_setting_13 : decode cX4_setting 13 = .ok (.ireturn, 1) := by decide +kernel
theorem dX4_whoAfter_0 : decode cX4_whoAfter 0 = .ok (.aload_n 0, 1) := by decide +kernel
theorem dX4_whoAfter_1 : decode cX4_whoAfter 1 = .ok (.iload_n 1, 1) := by decide +kernel
theorem dX4_whoAfter_2 : decode cX4_whoAfter 2 = .ok (.invokevirtual 41, 3) := by decide +kernel
theorem dX4_whoAfter_5 : decode cX4_whoAfter 5 = .ok (.iload_n 2, 1) := by decide +kernel
theorem dX4_whoAfter_6 : decode cX4_whoAfter 6 = .ok (.iconst 0, 1) := by decide +kernel
theorem dX4_whoAfter_7 : decode cX4_whoAfter 7 = .ok (.sipush 500, 3) := by decide +kernel
theorem dX4_whoAfter_10 : decode cX4_whoAfter 10 = .ok (.invokestatic 44, 3) := by decide +kernel
theorem dX4_whoAfter_13 : decode cX4_whoAfter 13 = .ok (.aload_n 0, 1) := by decide +kernel
theorem dX4_whoAfter_14 : decode cX4_whoAfter 14 = .ok (.iload_n 1, 1) := by decide +kernel
theorem dX4_whoAfter_15 : decode cX4_whoAfter 15 = .ok (.iload_n 2, 1) := by decide +kernel
theorem dX4_whoAfter_16 : decode cX4_whoAfter 16 = .ok (.invokevirtual 151, 3) := by decide +kernel
theorem dX4_whoAfter_19 : decode cX4_whoAfter 19 = .ok (.ireturn, 1) := by decide +kernel
theorem dX4_freeIn_0 : decode cX4_freeIn 0 = .ok (.iload_n 1, 1) := by decide +kernel
theorem dX4_freeIn_1 : decode cX4_freeIn 1 = .ok (.iconst 1, 1) := by decide +kernel
theorem dX4_freeIn_2 : decode cX4_freeIn 2 = .ok (.bipush 64, 2) := by decide +kernel
theorem dX4_freeIn_4 : decode cX4_freeIn 4 = .ok (.invokestatic 44, 3) := by decide +kernel
theorem dX4_freeIn_7 : decode cX4_freeIn 7 = .ok (.aload_n 0, 1) := by decide +kernel
theorem dX4_freeIn_8 : decode cX4_freeIn 8 = .ok (.iload_n 1, 1) := by decide +kernel
theorem dX4_freeIn_9 : decode cX4_freeIn 9 = .ok (.invokevirtual 154, 3) := by decide +kernel
theorem dX4_freeIn_12 : decode cX4_freeIn 12 = .ok (.ireturn, 1) := by decide +kernel
theorem dX4_wishedIn_0 : decode cX4_wishedIn 0 = .ok (.iload_n 1, 1) := by decide +kernel
theorem dX4_wishedIn_1 : decode cX4_wishedIn 1 = .ok (.invokestatic 37, 3) := by decide +kernel
theorem dX4_wishedIn_4 : decode cX4_wishedIn 4 = .ok (.aload_n 0, 1) := by decide +kernel
theorem dX4_wishedIn_5 : decode cX4_wishedIn 5 = .ok (.iload_n 2, 1) := by decide +kernel
theorem dX4_wishedIn_6 : decode cX4_wishedIn 6 = .ok (.invokevirtual 41, 3) := by decide +kernel
theorem dX4_wishedIn_9 : decode cX4_wishedIn 9 = .ok (.aload_n 0, 1) := by decide +kernel
theorem dX4_wishedIn_10 : decode cX4_wishedIn 10 = .ok (.iload_n 1, 1) := by decide +kernel
theorem dX4_wishedIn_11 : decode cX4_wishedIn 11 = .ok (.iload_n 2, 1) := by decide +kernel
theorem dX4_wishedIn_12 : decode cX4_wishedIn 12 = .ok (.invokevirtual 157, 3) := by decide +kernel
theorem dX4_wishedIn_15 : decode cX4_wishedIn 15 = .ok (.ireturn, 1) := by decide +kernel
theorem dX4_needHolder_0 : decode cX4_needHolder 0 = .ok (.iload_n 0, 1) := by decide +kernel
theorem dX4_needHolder_1 : decode cX4_needHolder 1 = .ok (.ifCond .lt 9, 3) := by decide +kernel
theorem dX4_needHolder_4 : decode cX4_needHolder 4 = .ok (.iload_n 0, 1) := by decide +kernel
theorem dX4_needHolder_5 : decode cX4_needHolder 5 = .ok (.bipush 8, 2) := by decide +kernel
theorem dX4_needHolder_7 : decode cX4_needHolder 7 = .ok (.if_icmp .lt 11, 3) := by decide +kernel
theorem dX4_needHolder_10 : decode cX4_needHolder 10 = .ok (.new 194, 3) := by decide +kernel
theorem dX4_needHolder_13 : decode cX4_needHolder 13 = .ok (.dup, 1) := by decide +kernel
theorem dX4_needHolder_14 : decode cX4_needHolder 14 = .ok (.invokespecial 196, 3) := by decide +kernel
theorem dX4_needHolder_17 : decode cX4_needHolder 17 = .ok (.athrow, 1) := by decide +kernel
theorem dX4_needHolder_18 : decode cX4_needHolder 18 = .ok (.return_, 1) := by decide +kernel
theorem dX4_needNumber_0 : decode cX4_needNumber 0 = .ok (.aload_n 0, 1) := by decide +kernel
theorem dX4_needNumber_1 : decode cX4_needNumber 1 = .ok (.getfield 10, 3) := by decide +kernel
theorem dX4_needNumber_4 : decode cX4_needNumber 4 = .ok (.iload_n 1, 1) := by decide +kernel
theorem dX4_needNumber_5 : decode cX4_needNumber 5 = .ok (.invokevirtual 197, 3) := by decide +kernel
theorem dX4_needNumber_8 : decode cX4_needNumber 8 = .ok (.ifCond .ne 11, 3) := by decide +kernel
theorem dX4_needNumber_11 : decode cX4_needNumber 11 = .ok (.new 194, 3) := by decide +kernel
theorem dX4_needNumber_14 : decode cX4_needNumber 14 = .ok (.dup, 1) := by decide +kernel
theorem dX4_needNumber_15 : decode cX4_needNumber 15 = .ok (.invokespecial 196, 3) := by decide +kernel
theorem dX4_needNumber_18 : decode cX4_needNumber 18 = .ok (.athrow, 1) := by decide +kernel
theorem dX4_needNumber_19 : decode cX4_needNumber 19 = .ok (.return_, 1) := by decide +kernel
theorem dX4_needSetting_0 : decode cX4_needSetting 0 = .ok (.iload_n 0, 1) := by decide +kernel
theorem dX4_needSetting_1 : decode cX4_needSetting 1 = .ok (.ifCond .lt 8, 3) := by decide +kernel
theorem dX4_needSetting_4 : decode cX4_needSetting 4 = .ok (.iload_n 0, 1) := by decide +kernel
theorem dX4_needSetting_5 : decode cX4_needSetting 5 = .ok (.iconst 4, 1) := by decide +kernel
theorem dX4_needSetting_6 : decode cX4_needSetting 6 = .ok (.if_icmp .lt 11, 3) := by decide +kernel
theorem dX4_needSetting_9 : decode cX4_needSetting 9 = .ok (.new 194, 3) := by decide +kernel
theorem dX4_needSetting_12 : decode cX4_needSetting 12 = .ok (.dup, 1) := by decide +kernel
theorem dX4_needSetting_13 : decode cX4_needSetting 13 = .ok (.invokespecial 196, 3) := by decide +kernel
theorem dX4_needSetting_16 : decode cX4_needSetting 16 = .ok (.athrow, 1) := by decide +kernel
theorem dX4_needSetting_17 : decode cX4_needSetting 17 = .ok (.return_, 1) := by decide +kernel
theorem dX4_needRange_0 : decode cX4_needRange 0 = .ok (.iload_n 0, 1) := by decide +kernel
theorem dX4_needRange_1 : decode cX4_needRange 1 = .ok (.iload_n 1, 1) := by decide +kernel
theorem dX4_needRange_2 : decode cX4_needRange 2 = .ok (.if_icmp .lt 8, 3) := by decide +kernel
theorem dX4_needRange_5 : decode cX4_needRange 5 = .ok (.iload_n 0, 1) := by decide +kernel
theorem dX4_needRange_6 : decode cX4_needRange 6 = .ok (.iload_n 2, 1) := by decide +kernel
theorem dX4_needRange_7 : decode cX4_needRange 7 = .ok (.if_icmp .le 11, 3) := by decide +kernel
theorem dX4_needRange_10 : decode cX4_needRange 10 = .ok (.new 121, 3) := by decide +kernel
theorem dX4_needRange_13 : decode cX4_needRange 13 = .ok (.dup, 1) := by decide +kernel
theorem dX4_needRange_14 : decode cX4_needRange 14 = .ok (.invokespecial 123, 3) := by decide +kernel
theorem dX4_needRange_17 : decode cX4_needRange 17 = .ok (.athrow, 1) := by decide +kernel
theorem dX4_needRange_18 : decode cX4_needRange 18 = .ok (.return_, 1) := by decide +kernel
theorem dX4_needState_0 : decode cX4_needState 0 = .ok (.iload_n 0, 1) := by decide +kernel
theorem dX4_needState_1 : decode cX4_needState 1 = .ok (.ifCond .ne 11, 3) := by decide +kernel
theorem dX4_needState_4 : decode cX4_needState 4 = .ok (.new 200, 3) := by decide +kernel
theorem dX4_needState_7 : decode cX4_needState 7 = .ok (.dup, 1) := by decide +kernel
theorem dX4_needState_8 : decode cX4_needState 8 = .ok (.invokespecial 202, 3) := by decide +kernel
theorem dX4_needState_11 : decode cX4_needState 11 = .ok (.athrow, 1) := by decide +kernel
theorem dX4_needState_12 : decode cX4_needState 12 = .ok (.return_, 1) := by decide +kernel
theorem dX4_leaseLowest_0 : decode cX4_leaseLowest 0 = .ok (.iload_n 1, 1) := by decide +kernel
theorem dX4_leaseLowest_1 : decode cX4_leaseLowest 1 = .ok (.invokestatic 37, 3) := by decide +kernel
theorem dX4_leaseLowest_4 : decode cX4_leaseLowest 4 = .ok (.iload_n 2, 1) := by decide +kernel
theorem dX4_leaseLowest_5 : decode cX4_leaseLowest 5 = .ok (.iconst 1, 1) := by decide +kernel
theorem dX4_leaseLowest_6 : decode cX4_leaseLowest 6 = .ok (.bipush 64, 2) := by decide +kernel
theorem dX4_leaseLowest_8 : decode cX4_leaseLowest 8 = .ok (.invokestatic 44, 3) := by decide +kernel
theorem dX4_leaseLowest_11 : decode cX4_leaseLowest 11 = .ok (.iload_n 3, 1) := by decide +kernel
theorem dX4_leaseLowest_12 : decode cX4_leaseLowest 12 = .ok (.iconst 1, 1) := by decide +kernel
theorem dX4_leaseLowest_13 : decode cX4_leaseLowest 13 = .ok (.sipush 999, 3) := by decide +kernel
theorem dX4_leaseLowest_16 : decode cX4_leaseLowest 16 = .ok (.invokestatic 44, 3) := by decide +kernel
theorem dX4_leaseLowest_19 : decode cX4_leaseLowest 19 = .ok (.aload_n 0, 1) := by decide +kernel
theorem dX4_leaseLowest_20 : decode cX4_leaseLowest 20 = .ok (.getfield 10, 3) := by decide +kernel
theorem dX4_leaseLowest_23 : decode cX4_leaseLowest 23 = .ok (.iload_n 1, 1) := by decide +kernel
theorem dX4_leaseLowest_24 : decode cX4_leaseLowest 24 = .ok (.iload_n 2, 1) := by decide +kernel
theorem dX4_leaseLowest_25 : decode cX4_leaseLowest 25 = .ok (.invokevirtual 203, 3) := by decide +kernel
theorem dX4_leaseLowest_28 : decode cX4_leaseLowest 28 = .ok (.invokestatic 52, 3) := by decide +kernel
theorem dX4_leaseLowest_31 : decode cX4_leaseLowest 31 = .ok (.aload_n 0, 1) := by decide +kernel
theorem dX4_leaseLowest_32 : decode cX4_leaseLowest 32 = .ok (.getfield 22, 3) := by decide +kernel
theorem dX4_leaseLowest_35 : decode cX4_leaseLowest 35 = .ok (.aload_n 0, 1) := by decide +kernel
theorem dX4_leaseLowest_36 : decode cX4_leaseLowest 36 = .ok (.getfield 10, 3) := by decide +kernel
theorem dX4_leaseLowest_39 : decode cX4_leaseLowest 39 = .ok (.invokevirtual 56, 3) := by decide +kernel
theorem dX4_leaseLowest_42 : decode cX4_leaseLowest 42 = .ok (.aload_n 0, 1) := by decide +kernel
theorem dX4_leaseLowest_43 : decode cX4_leaseLowest 43 = .ok (.getfield 10, 3) := by decide +kernel
theorem dX4_leaseLowest_46 : decode cX4_leaseLowest 46 = .ok (.iload_n 1, 1) := by decide +kernel
theorem dX4_leaseLowest_47 : decode cX4_leaseLowest 47 = .ok (.iload_n 2, 1) := by decide +kernel
theorem dX4_leaseLowest_48 : decode cX4_leaseLowest 48 = .ok (.iload_n 3, 1) := by decide +kernel
theorem dX4_leaseLowest_49 : decode cX4_leaseLowest 49 = .ok (.invokevirtual 206, 3) := by decide +kernel
theorem dX4_leaseLowest_52 : decode cX4_leaseLowest 52 = .ok (.ireturn, 1) := by decide +kernel
theorem dX4_countOf_0 : decode cX4_countOf 0 = .ok (.iload_n 1, 1) := by decide +kernel
theorem dX4_countOf_1 : decode cX4_countOf 1 = .ok (.bipush 12, 2) := by decide +kernel
theorem dX4_countOf_3 : decode cX4_countOf 3 = .ok (.if_icmp .ne 13, 3) := by decide +kernel
theorem dX4_countOf_6 : decode cX4_countOf 6 = .ok (.aload_n 0, 1) := by decide +kernel
theorem dX4_countOf_7 : decode cX4_countOf 7 = .ok (.getfield 22, 3) := by decide +kernel
theorem dX4_countOf_10 : decode cX4_countOf 10 = .ok (.getfield 133, 3) := by decide +kernel
theorem dX4_countOf_13 : decode cX4_countOf 13 = .ok (.goto 11, 3) := by decide +kernel
theorem dX4_countOf_16 : decode cX4_countOf 16 = .ok (.aload_n 0, 1) := by decide +kernel
theorem dX4_countOf_17 : decode cX4_countOf 17 = .ok (.getfield 10, 3) := by decide +kernel
theorem dX4_countOf_20 : decode cX4_countOf 20 = .ok (.iload_n 1, 1) := by decide +kernel
theorem dX4_countOf_21 : decode cX4_countOf 21 = .ok (.invokevirtual 221, 3) := by decide +kernel
end
section
theorem dX4_countOf_24 : decode cX4_countOf 24 = .ok (.ireturn, 1) := by decide +kernel
theorem dX4_holderAfter_0 : decode cX4_holderAfter 0 = .ok (.aload_n 0, 1) := by decide +kernel
theorem dX4_holderAfter_1 : decode cX4_holderAfter 1 = .ok (.getfield 16, 3) := by decide +kernel
theorem dX4_holderAfter_4 : decode cX4_holderAfter 4 = .ok (.aload_n 0, 1) := by decide +kernel
theorem dX4_holderAfter_5 : decode cX4_holderAfter 5 = .ok (.getfield 10, 3) := by decide +kernel
theorem dX4_holderAfter_8 : decode cX4_holderAfter 8 = .ok (.invokevirtual 224, 3) := by decide +kernel
theorem dX4_holderAfter_11 : decode cX4_holderAfter 11 = .ok (.aload_n 0, 1) := by decide +kernel
theorem dX4_holderAfter_12 : decode cX4_holderAfter 12 = .ok (.getfield 16, 3) := by decide +kernel
theorem dX4_holderAfter_15 : decode cX4_holderAfter 15 = .ok (.getfield 227, 3) := by decide +kernel
theorem dX4_holderAfter_18 : decode cX4_holderAfter 18 = .ok (.iload_n 2, 1) := by decide +kernel
theorem dX4_holderAfter_19 : decode cX4_holderAfter 19 = .ok (.iadd, 1) := by decide +kernel
theorem dX4_holderAfter_20 : decode cX4_holderAfter 20 = .ok (.istore_n 3, 1) := by decide +kernel
theorem dX4_holderAfter_21 : decode cX4_holderAfter 21 = .ok (.iconst 1, 1) := by decide +kernel
theorem dX4_holderAfter_22 : decode cX4_holderAfter 22 = .ok (.istore 4, 2) := by decide +kernel
theorem dX4_holderAfter_24 : decode cX4_holderAfter 24 = .ok (.iconst 0, 1) := by decide +kernel
theorem dX4_holderAfter_25 : decode cX4_holderAfter 25 = .ok (.istore 5, 2) := by decide +kernel
theorem dX4_holderAfter_27 : decode cX4_holderAfter 27 = .ok (.iload 5, 2) := by decide +kernel
theorem dX4_holderAfter_29 : decode cX4_holderAfter 29 = .ok (.iload_n 2, 1) := by decide +kernel
theorem dX4_holderAfter_30 : decode cX4_holderAfter 30 = .ok (.if_icmp .ge 24, 3) := by decide +kernel
theorem dX4_holderAfter_33 : decode cX4_holderAfter 33 = .ok (.iload 4, 2) := by decide +kernel
theorem dX4_holderAfter_35 : decode cX4_holderAfter 35 = .ok (.ifCond .eq 19, 3) := by decide +kernel
theorem dX4_holderAfter_38 : decode cX4_holderAfter 38 = .ok (.aload_n 0, 1) := by decide +kernel
theorem dX4_holderAfter_39 : decode cX4_holderAfter 39 = .ok (.getfield 16, 3) := by decide +kernel
theorem dX4_holderAfter_42 : decode cX4_holderAfter 42 = .ok (.iload_n 3, 1) := by decide +kernel
theorem dX4_holderAfter_43 : decode cX4_holderAfter 43 = .ok (.invokevirtual 230, 3) := by decide +kernel
theorem dX4_holderAfter_46 : decode cX4_holderAfter 46 = .ok (.istore 4, 2) := by decide +kernel
theorem dX4_holderAfter_48 : decode cX4_holderAfter 48 = .ok (.iinc 5 1, 3) := by decide +kernel
theorem dX4_holderAfter_51 : decode cX4_holderAfter 51 = .ok (.goto (-24), 3) := by decide +kernel
theorem dX4_holderAfter_54 : decode cX4_holderAfter 54 = .ok (.aload_n 0, 1) := by decide +kernel
theorem dX4_holderAfter_55 : decode cX4_holderAfter 55 = .ok (.getfield 16, 3) := by decide +kernel
theorem dX4_holderAfter_58 : decode cX4_holderAfter 58 = .ok (.getfield 233, 3) := by decide +kernel
theorem dX4_holderAfter_61 : decode cX4_holderAfter 61 = .ok (.iload_n 1, 1) := by decide +kernel
theorem dX4_holderAfter_62 : decode cX4_holderAfter 62 = .ok (.iaload, 1) := by decide +kernel
theorem dX4_holderAfter_63 : decode cX4_holderAfter 63 = .ok (.ireturn, 1) := by decide +kernel
theorem dX4_timeToFree_0 : decode cX4_timeToFree 0 = .ok (.aload_n 0, 1) := by decide +kernel
theorem dX4_timeToFree_1 : decode cX4_timeToFree 1 = .ok (.getfield 10, 3) := by decide +kernel
theorem dX4_timeToFree_4 : decode cX4_timeToFree 4 = .ok (.invokevirtual 236, 3) := by decide +kernel
theorem dX4_timeToFree_7 : decode cX4_timeToFree 7 = .ok (.iload_n 1, 1) := by decide +kernel
theorem dX4_timeToFree_8 : decode cX4_timeToFree 8 = .ok (.if_icmp .lt 5, 3) := by decide +kernel
theorem dX4_timeToFree_11 : decode cX4_timeToFree 11 = .ok (.iconst 0, 1) := by decide +kernel
theorem dX4_timeToFree_12 : decode cX4_timeToFree 12 = .ok (.ireturn, 1) := by decide +kernel
theorem dX4_timeToFree_13 : decode cX4_timeToFree 13 = .ok (.aload_n 0, 1) := by decide +kernel
theorem dX4_timeToFree_14 : decode cX4_timeToFree 14 = .ok (.getfield 16, 3) := by decide +kernel
theorem dX4_timeToFree_17 : decode cX4_timeToFree 17 = .ok (.aload_n 0, 1) := by decide +kernel
theorem dX4_timeToFree_18 : decode cX4_timeToFree 18 = .ok (.getfield 10, 3) := by decide +kernel
theorem dX4_timeToFree_21 : decode cX4_timeToFree 21 = .ok (.invokevirtual 224, 3) := by decide +kernel
theorem dX4_timeToFree_24 : decode cX4_timeToFree 24 = .ok (.aload_n 0, 1) := by decide +kernel
theorem dX4_timeToFree_25 : decode cX4_timeToFree 25 = .ok (.getfield 10, 3) := by decide +kernel
theorem dX4_timeToFree_28 : decode cX4_timeToFree 28 = .ok (.getfield 227, 3) := by decide +kernel
theorem dX4_timeToFree_31 : decode cX4_timeToFree 31 = .ok (.sipush 500, 3) := by decide +kernel
theorem dX4_timeToFree_34 : decode cX4_timeToFree 34 = .ok (.iadd, 1) := by decide +kernel
theorem dX4_timeToFree_35 : decode cX4_timeToFree 35 = .ok (.istore_n 2, 1) := by decide +kernel
theorem dX4_timeToFree_36 : decode cX4_timeToFree 36 = .ok (.iconst 0, 1) := by decide +kernel
theorem dX4_timeToFree_37 : decode cX4_timeToFree 37 = .ok (.istore_n 3, 1) := by decide +kernel
theorem dX4_timeToFree_38 : decode cX4_timeToFree 38 = .ok (.iload_n 3, 1) := by decide +kernel
theorem dX4_timeToFree_39 : decode cX4_timeToFree 39 = .ok (.sipush 500, 3) := by decide +kernel
theorem dX4_timeToFree_42 : decode cX4_timeToFree 42 = .ok (.if_icmp .ge 47, 3) := by decide +kernel
theorem dX4_timeToFree_45 : decode cX4_timeToFree 45 = .ok (.aload_n 0, 1) := by decide +kernel
theorem dX4_timeToFree_46 : decode cX4_timeToFree 46 = .ok (.getfield 16, 3) := by decide +kernel
theorem dX4_timeToFree_49 : decode cX4_timeToFree 49 = .ok (.iload_n 2, 1) := by decide +kernel
theorem dX4_timeToFree_50 : decode cX4_timeToFree 50 = .ok (.invokevirtual 230, 3) := by decide +kernel
theorem dX4_timeToFree_53 : decode cX4_timeToFree 53 = .ok (.ifCond .eq 36, 3) := by decide +kernel
theorem dX4_timeToFree_56 : decode cX4_timeToFree 56 = .ok (.aload_n 0, 1) := by decide +kernel
theorem dX4_timeToFree_57 : decode cX4_timeToFree 57 = .ok (.getfield 16, 3) := by decide +kernel
theorem dX4_timeToFree_60 : decode cX4_timeToFree 60 = .ok (.invokevirtual 236, 3) := by decide +kernel
theorem dX4_timeToFree_63 : decode cX4_timeToFree 63 = .ok (.iload_n 1, 1) := by decide +kernel
theorem dX4_timeToFree_64 : decode cX4_timeToFree 64 = .ok (.if_icmp .lt 19, 3) := by decide +kernel
theorem dX4_timeToFree_67 : decode cX4_timeToFree 67 = .ok (.aload_n 0, 1) := by decide +kernel
theorem dX4_timeToFree_68 : decode cX4_timeToFree 68 = .ok (.getfield 16, 3) := by decide +kernel
theorem dX4_timeToFree_71 : decode cX4_timeToFree 71 = .ok (.getfield 227, 3) := by decide +kernel
theorem dX4_timeToFree_74 : decode cX4_timeToFree 74 = .ok (.aload_n 0, 1) := by decide +kernel
theorem dX4_timeToFree_75 : decode cX4_timeToFree 75 = .ok (.getfield 10, 3) := by decide +kernel
theorem dX4_timeToFree_78 : decode cX4_timeToFree 78 = .ok (.getfield 227, 3) := by decide +kernel
theorem dX4_timeToFree_81 : decode cX4_timeToFree 81 = .ok (.isub, 1) := by decide +kernel
theorem dX4_timeToFree_82 : decode cX4_timeToFree 82 = .ok (.ireturn, 1) := by decide +kernel
theorem dX4_timeToFree_83 : decode cX4_timeToFree 83 = .ok (.iinc 3 1, 3) := by decide +kernel
theorem dX4_timeToFree_86 : decode cX4_timeToFree 86 = .ok (.goto (-48), 3) := by decide +kernel
theorem dX4_timeToFree_89 : decode cX4_timeToFree 89 = .ok (.iconst (-1), 1) := by decide +kernel
theorem dX4_timeToFree_90 : decode cX4_timeToFree 90 = .ok (.ireturn, 1) := by decide +kernel
theorem dX4_timeToWished_0 : decode cX4_timeToWished 0 = .ok (.aload_n 0, 1) := by decide +kernel
theorem dX4_timeToWished_1 : decode cX4_timeToWished 1 = .ok (.getfield 10, 3) := by decide +kernel
theorem dX4_timeToWished_4 : decode cX4_timeToWished 4 = .ok (.getfield 233, 3) := by decide +kernel
theorem dX4_timeToWished_7 : decode cX4_timeToWished 7 = .ok (.iload_n 2, 1) := by decide +kernel
theorem dX4_timeToWished_8 : decode cX4_timeToWished 8 = .ok (.iaload, 1) := by decide +kernel
theorem dX4_timeToWished_9 : decode cX4_timeToWished 9 = .ok (.iload_n 1, 1) := by decide +kernel
theorem dX4_timeToWished_10 : decode cX4_timeToWished 10 = .ok (.if_icmp .ne 5, 3) := by decide +kernel
theorem dX4_timeToWished_13 : decode cX4_timeToWished 13 = .ok (.iconst 0, 1) := by decide +kernel
theorem dX4_timeToWished_14 : decode cX4_timeToWished 14 = .ok (.ireturn, 1) := by decide +kernel
theorem dX4_timeToWished_15 : decode cX4_timeToWished 15 = .ok (.aload_n 0, 1) := by decide +kernel
theorem dX4_timeToWished_16 : decode cX4_timeToWished 16 = .ok (.getfield 10, 3) := by decide +kernel
theorem dX4_timeToWished_19 : decode cX4_timeToWished 19 = .ok (.iload_n 1, 1) := by decide +kernel
theorem dX4_timeToWished_20 : decode cX4_timeToWished 20 = .ok (.iload_n 2, 1) := by decide +kernel
theorem dX4_timeToWished_21 : decode cX4_timeToWished 21 = .ok (.invokevirtual 48, 3) := by decide +kernel
theorem dX4_timeToWished_24 : decode cX4_timeToWished 24 = .ok (.ifCond .ne 5, 3) := by decide +kernel
theorem dX4_timeToWished_27 : decode cX4_timeToWished 27 = .ok (.iconst (-1), 1) := by decide +kernel
theorem dX4_timeToWished_28 : decode cX4_timeToWished 28 = .ok (.ireturn, 1) := by decide +kernel
theorem dX4_timeToWished_29 : decode cX4_timeToWished 29 = .ok (.aload_n 0, 1) := by decide +kernel
theorem dX4_timeToWished_30 : decode cX4_timeToWished 30 = .ok (.getfield 16, 3) := by decide +kernel
theorem dX4_timeToWished_33 : decode cX4_timeToWished 33 = .ok (.aload_n 0, 1) := by decide +kernel
theorem dX4_timeToWished_34 : decode cX4_timeToWished 34 = .ok (.getfield 10, 3) := by decide +kernel
theorem dX4_timeToWished_37 : decode cX4_timeToWished 37 = .ok (.invokevirtual 224, 3) := by decide +kernel
theorem dX4_timeToWished_40 : decode cX4_timeToWished 40 = .ok (.aload_n 0, 1) := by decide +kernel
theorem dX4_timeToWished_41 : decode cX4_timeToWished 41 = .ok (.getfield 16, 3) := by decide +kernel
theorem dX4_timeToWished_44 : decode cX4_timeToWished 44 = .ok (.iload_n 1, 1) := by decide +kernel
theorem dX4_timeToWished_45 : decode cX4_timeToWished 45 = .ok (.iload_n 2, 1) := by decide +kernel
theorem dX4_timeToWished_46 : decode cX4_timeToWished 46 = .ok (.iconst 1, 1) := by decide +kernel
theorem dX4_timeToWished_47 : decode cX4_timeToWished 47 = .ok (.invokevirtual 60, 3) := by decide +kernel
theorem dX4_timeToWished_50 : decode cX4_timeToWished 50 = .ok (.ifCond .ne 5, 3) := by decide +kernel
theorem dX4_timeToWished_53 : decode cX4_timeToWished 53 = .ok (.iconst 0, 1) := by decide +kernel
theorem dX4_timeToWished_54 : decode cX4_timeToWished 54 = .ok (.ireturn, 1) := by decide +kernel
theorem dX4_timeToWished_55 : decode cX4_timeToWished 55 = .ok (.aload_n 0, 1) := by decide +kernel
theorem dX4_timeToWished_56 : decode cX4_timeToWished 56 = .ok (.getfield 10, 3) := by decide +kernel
theorem dX4_timeToWished_59 : decode cX4_timeToWished 59 = .ok (.getfield 227, 3) := by decide +kernel
theorem dX4_timeToWished_62 : decode cX4_timeToWished 62 = .ok (.sipush 500, 3) := by decide +kernel
theorem dX4_timeToWished_65 : decode cX4_timeToWished 65 = .ok (.iadd, 1) := by decide +kernel
theorem dX4_timeToWished_66 : decode cX4_timeToWished 66 = .ok (.istore_n 3, 1) := by decide +kernel
theorem dX4_timeToWished_67 : decode cX4_timeToWished 67 = .ok (.iconst 0, 1) := by decide +kernel
theorem dX4_timeToWished_68 : decode cX4_timeToWished 68 = .ok (.istore 4, 2) := by decide +kernel
theorem dX4_timeToWished_70 : decode cX4_timeToWished 70 = .ok (.iload 4, 2) := by decide +kernel
theorem dX4_timeToWished_72 : decode cX4_timeToWished 72 = .ok (.sipush 500, 3) := by decide +kernel
theorem dX4_timeToWished_75 : decode cX4_timeToWished 75 = .ok (.if_icmp .ge 49, 3) := by decide +kernel
theorem dX4_timeToWished_78 : decode cX4_timeToWished 78 = .ok (.aload_n 0, 1) := by decide +kernel
theorem dX4_timeToWished_79 : decode cX4_timeToWished 79 = .ok (.getfield 16, 3) := by decide +kernel
theorem dX4_timeToWished_82 : decode cX4_timeToWished 82 = .ok (.iload_n 3, 1) := by decide +kernel
theorem dX4_timeToWished_83 : decode cX4_timeToWished 83 = .ok (.invokevirtual 230, 3) := by decide +kernel
theorem dX4_timeToWished_86 : decode cX4_timeToWished 86 = .ok (.ifCond .eq 38, 3) := by decide +kernel
theorem dX4_timeToWished_89 : decode cX4_timeToWished 89 = .ok (.aload_n 0, 1) := by decide +kernel
theorem dX4_timeToWished_90 : decode cX4_timeToWished 90 = .ok (.getfield 16, 3) := by decide +kernel
theorem dX4_timeToWished_93 : decode cX4_timeToWished 93 = .ok (.getfield 233, 3) := by decide +kernel
theorem dX4_timeToWished_96 : decode cX4_timeToWished 96 = .ok (.iload_n 2, 1) := by decide +kernel
theorem dX4_timeToWished_97 : decode cX4_timeToWished 97 = .ok (.iaload, 1) := by decide +kernel
theorem dX4_timeToWished_98 : decode cX4_timeToWished 98 = .ok (.iload_n 1, 1) := by decide +kernel
theorem dX4_timeToWished_99 : decode cX4_timeToWished 99 = .ok (.if_icmp .ne 19, 3) := by decide +kernel
theorem dX4_timeToWished_102 : decode cX4_timeToWished 102 = .ok (.aload_n 0, 1) := by decide +kernel
theorem dX4_timeToWished_103 : decode cX4_timeToWished 103 = .ok (.getfield 16, 3) := by decide +kernel
theorem dX4_timeToWished_106 : decode cX4_timeToWished 106 = .ok (.getfield 227, 3) := by decide +kernel
theorem dX4_timeToWished_109 : decode cX4_timeToWished 109 = .ok (.aload_n 0, 1) := by decide +kernel
theorem dX4_timeToWished_110 : decode cX4_timeToWished 110 = .ok (.getfield 10, 3) := by decide +kernel
theorem dX4_timeToWished_113 : decode cX4_timeToWished 113 = .ok (.getfield 227, 3) := by decide +kernel
theorem dX4_timeToWished_116 : decode cX4_timeToWished 116 = .ok (.isub, 1) := by decide +kernel
theorem dX4_timeToWished_117 : decode cX4_timeToWished 117 = .ok (.ireturn, 1) := by decide +kernel
theorem dX4_timeToWished_118 : decode cX4_timeToWished 118 = .ok (.iinc 4 1, 3) := by decide +kernel
theorem dX4_timeToWished_121 : decode cX4_timeToWished 121 = .ok (.goto (-51), 3) := by decide +kernel
theorem dX4_timeToWished_124 : decode cX4_timeToWished 124 = .ok (.iconst (-1), 1) := by decide +kernel
theorem dX4_timeToWished_125 : decode cX4_timeToWished 125 = .ok (.ireturn, 1) := by decide +kernel
theorem dX4_sum_0 : decode cX4_sum 0 = .ok (.iconst 0, 1) := by decide +kernel
theorem dX4_sum_1 : decode cX4_sum 1 = .ok (.istore_n 1, 1) := by decide +kernel
theorem dX4_sum_2 : decode cX4_sum 2 = .ok (.aload_n 0, 1) := by decide +kernel
theorem dX4_sum_3 : decode cX4_sum 3 = .ok (.astore_n 2, 1) := by decide +kernel
theorem dX4_sum_4 : decode cX4_sum 4 = .ok (.aload_n 2, 1) := by decide +kernel
theorem dX4_sum_5 : decode cX4_sum 5 = .ok (.arraylength, 1) := by decide +kernel
theorem dX4_sum_6 : decode cX4_sum 6 = .ok (.istore_n 3, 1) := by decide +kernel
theorem dX4_sum_7 : decode cX4_sum 7 = .ok (.iconst 0, 1) := by decide +kernel
theorem dX4_sum_8 : decode cX4_sum 8 = .ok (.istore 4, 2) := by decide +kernel
theorem dX4_sum_10 : decode cX4_sum 10 = .ok (.iload 4, 2) := by decide +kernel
theorem dX4_sum_12 : decode cX4_sum 12 = .ok (.iload_n 3, 1) := by decide +kernel
theorem dX4_sum_13 : decode cX4_sum 13 = .ok (.if_icmp .ge 20, 3) := by decide +kernel
theorem dX4_sum_16 : decode cX4_sum 16 = .ok (.aload_n 2, 1) := by decide +kernel
theorem dX4_sum_17 : decode cX4_sum 17 = .ok (.iload 4, 2) := by decide +kernel
theorem dX4_sum_19 : decode cX4_sum 19 = .ok (.iaload, 1) := by decide +kernel
theorem dX4_sum_20 : decode cX4_sum 20 = .ok (.istore 5, 2) := by decide +kernel
theorem dX4_sum_22 : decode cX4_sum 22 = .ok (.iload_n 1, 1) := by decide +kernel
theorem dX4_sum_23 : decode cX4_sum 23 = .ok (.iload 5, 2) := by decide +kernel
theorem dX4_sum_25 : decode cX4_sum 25 = .ok (.iadd, 1) := by decide +kernel
theorem dX4_sum_26 : decode cX4_sum 26 = .ok (.istore_n 1, 1) := by decide +kernel
theorem dX4_sum_27 : decode cX4_sum 27 = .ok (.iinc 4 1, 3) := by decide +kernel
theorem dX4_sum_30 : decode cX4_sum 30 = .ok (.goto (-20), 3) := by decide +kernel
theorem dX4_sum_33 : decode cX4_sum 33 = .ok (.iload_n 1, 1) := by decide +kernel
theorem dX4_sum_34 : decode cX4_sum 34 = .ok (.ireturn, 1) := by decide +kernel
theorem dJ9_max_7cf53_0 : decode cJ9_max_7cf53 0 = .ok (.iload_n 0, 1) := by decide +kernel
theorem dJ9_max_7cf53_1 : decode cJ9_max_7cf53 1 = .ok (.iload_n 1, 1) := by decide +kernel
theorem dJ9_max_7cf53_2 : decode cJ9_max_7cf53 2 = .ok (.if_icmp .lt 7, 3) := by decide +kernel
theorem dJ9_max_7cf53_5 : decode cJ9_max_7cf53 5 = .ok (.iload_n 0, 1) := by decide +kernel
theorem dJ9_max_7cf53_6 : decode cJ9_max_7cf53 6 = .ok (.goto 4, 3) := by decide +kernel
theorem dJ9_max_7cf53_9 : decode cJ9_max_7cf53 9 = .ok (.iload_n 1, 1) := by decide +kernel
theorem dJ9_max_7cf53_10 : decode cJ9_max_7cf53 10 = .ok (.ireturn, 1) := by decide +kernel
theorem dJ9_min_7cf53_0 : decode cJ9_min_7cf53 0 = .ok (.iload_n 0, 1) := by decide +kernel
theorem dJ9_min_7cf53_1 : decode cJ9_min_7cf53 1 = .ok (.iload_n 1, 1) := by decide +kernel
theorem dJ9_min_7cf53_2 : decode cJ9_min_7cf53 2 = .ok (.if_icmp .gt 7, 3) := by decide +kernel
theorem dJ9_min_7cf53_5 : decode cJ9_min_7cf53 5 = .ok (.iload_n 0, 1) := by decide +kernel
theorem dJ9_min_7cf53_6 : decode cJ9_min_7cf53 6 = .ok (.goto 4, 3) := by decide +kernel
theorem dJ9_min_7cf53_9 : decode cJ9_min_7cf53 9 = .ok (.iload_n 1, 1) := by decide +kernel
theorem dJ9_min_7cf53_10 : decode cJ9_min_7cf53 10 = .ok (.ireturn, 1) := by decide +kernel
theorem dL_low_0 : decode cL_low 0 = .ok (.iload_n 0, 1) := by decide +kernel
theorem dL_low_1 : decode cL_low 1 = .ok (.ldc 7, 2) := by decide +kernel
theorem dL_low_3 : decode cL_low 3 = .ok (.iand, 1) := by decide +kernel
theorem dL_low_4 : decode cL_low 4 = .ok (.iload_n 1, 1) := by decide +kernel
theorem dL_low_5 : decode cL_low 5 = .ok (.irem, 1) := by decide +kernel
theorem dL_low_6 : decode cL_low 6 = .ok (.ireturn, 1) := by decide +kernel
theorem dL_cell_0 : decode cL_cell 0 = .ok (.iload_n 1, 1) := by decide +kernel
theorem dL_cell_1 : decode cL_cell 1 = .ok (.aload_n 0, 1) := by decide +kernel
theorem dL_cell_2 : decode cL_cell 2 = .ok (.arraylength, 1) := by decide +kernel
theorem dL_cell_3 : decode cL_cell 3 = .ok (.if_icmp .ge 9, 3) := by decide +kernel
theorem dL_cell_6 : decode cL_cell 6 = .ok (.aload_n 0, 1) := by decide +kernel
theorem dL_cell_7 : decode cL_cell 7 = .ok (.iload_n 1, 1) := by decide +kernel
theorem dL_cell_8 : decode cL_cell 8 = .ok (.iaload, 1) := by decide +kernel
theorem dL_cell_9 : decode cL_cell 9 = .ok (.goto 11, 3) := by decide +kernel
theorem dL_cell_12 : decode cL_cell 12 = .ok (.ldc 8, 2) := by decide +kernel
theorem dL_cell_14 : decode cL_cell 14 = .ok (.iload_n 1, 1) := by decide +kernel
theorem dL_cell_15 : decode cL_cell 15 = .ok (.imul, 1) := by decide +kernel
theorem dL_cell_16 : decode cL_cell 16 = .ok (.sipush 977, 3) := by decide +kernel
theorem dL_cell_19 : decode cL_cell 19 = .ok (.iadd, 1) := by decide +kernel
theorem dL_cell_20 : decode cL_cell 20 = .ok (.ireturn, 1) := by decide +kernel
theorem dL_take_0 : decode cL_take 0 = .ok (.aload_n 0, 1) := by decide +kernel
theorem dL_take_1 : decode cL_take 1 = .ok (.iload_n 1, 1) := by decide +kernel
theorem dL_take_2 : decode cL_take 2 = .ok (.iload_n 2, 1) := by decide +kernel
theorem dL_take_3 : decode cL_take 3 = .ok (.invokevirtual 9, 3) := by decide +kernel
theorem dL_take_6 : decode cL_take 6 = .ok (.ireturn, 1) := by decide +kernel
theorem dL_take_7 : decode cL_take 7 = .ok (.astore_n 3, 1) := by decide +kernel
theorem dL_take_8 : decode cL_take 8 = .ok (.bipush (-3), 2) := by decide +kernel
theorem dL_take_10 : decode cL_take 10 = .ok (.ireturn, 1) := by decide +kernel
theorem dL_span_0 : decode cL_span 0 = .ok (.aload_n 0, 1) := by decide +kernel
theorem dL_span_1 : decode cL_span 1 = .ok (.iload_n 1, 1) := by decide +kernel
theorem dL_span_2 : decode cL_span 2 = .ok (.iload_n 2, 1) := by decide +kernel
theorem dL_span_3 : decode cL_span 3 = .ok (.iload_n 3, 1) := by decide +kernel
theorem dL_span_4 : decode cL_span 4 = .ok (.invokevirtual 17, 3) := by decide +kernel
theorem dL_span_7 : decode cL_span 7 = .ok (.ireturn, 1) := by decide +kernel
theorem dL_span_8 : decode cL_span 8 = .ok (.astore 4, 2) := by decide +kernel
theorem dL_span_10 : decode cL_span 10 = .ok (.bipush (-3), 2) := by decide +kernel
theorem dL_span_12 : decode cL_span 12 = .ok (.ireturn, 1) := by decide +kernel
theorem dL_wish_0 : decode cL_wish 0 = .ok (.aload_n 0, 1) := by decide +kernel
theorem dL_wish_1 : decode cL_wish 1 = .ok (.iload_n 1, 1) := by decide +kernel
theorem dL_wish_2 : decode cL_wish 2 = .ok (.iload_n 2, 1) := by decide +kernel
theorem dL_wish_3 : decode cL_wish 3 = .ok (.iload_n 3, 1) := by decide +kernel
theorem dL_wish_4 : decode cL_wish 4 = .ok (.invokevirtual 21, 3) := by decide +kernel
theorem dL_wish_7 : decode cL_wish 7 = .ok (.ireturn, 1) := by decide +kernel
theorem dL_wish_8 : decode cL_wish 8 = .ok (.astore 4, 2) := by decide +kernel
theorem dL_wish_10 : decode cL_wish 10 = .ok (.bipush (-4), 2) := by decide +kernel
theorem dL_wish_12 : decode cL_wish 12 = .ok (.ireturn, 1) := by decide +kernel
theorem dL_wish_13 : decode cL_wish 13 = .ok (.astore 4, 2) := by decide +kernel
theorem dL_wish_15 : decode cL_wish 15 = .ok (.bipush (-3), 2) := by decide +kernel
theorem dL_wish_17 : decode cL_wish 17 = .ok (.ireturn, 1) := by decide +kernel
theorem dL_unwish_0 : decode cL_unwish 0 = .ok (.aload_n 0, 1) := by decide +kernel
theorem dL_unwish_1 : decode cL_unwish 1 = .ok (.iload_n 1, 1) := by decide +kernel
theorem dL_unwish_2 : decode cL_unwish 2 = .ok (.iload_n 2, 1) := by decide +kernel
theorem dL_unwish_3 : decode cL_unwish 3 = .ok (.invokevirtual 26, 3) := by decide +kernel
theorem dL_unwish_6 : decode cL_unwish 6 = .ok (.ireturn, 1) := by decide +kernel
theorem dL_unwish_7 : decode cL_unwish 7 = .ok (.astore_n 3, 1) := by decide +kernel
theorem dL_unwish_8 : decode cL_unwish 8 = .ok (.bipush (-3), 2) := by decide +kernel
theorem dL_unwish_10 : decode cL_unwish 10 = .ok (.ireturn, 1) := by decide +kernel
theorem dL_renew_0 : decode cL_renew 0 = .ok (.aload_n 0, 1) := by decide +kernel
theorem dL_renew_1 : decode cL_renew 1 = .ok (.iload_n 1, 1) := by decide +kernel
theorem dL_renew_2 : decode cL_renew 2 = .ok (.iload_n 2, 1) := by decide +kernel
theorem dL_renew_3 : decode cL_renew 3 = .ok (.iload_n 3, 1) := by decide +kernel
theorem dL_renew_4 : decode cL_renew 4 = .ok (.invokevirtual 29, 3) := by decide +kernel
theorem dL_renew_7 : decode cL_renew 7 = .ok (.ireturn, 1) := by decide +kernel
theorem dL_renew_8 : decode cL_renew 8 = .ok (.astore 4, 2) := by decide +kernel
theorem dL_renew_10 : decode cL_renew 10 = .ok (.bipush (-3), 2) := by decide +kernel
theorem dL_renew_12 : decode cL_renew 12 = .ok (.ireturn, 1) := by decide +kernel
theorem dL_set_0 : decode cL_set 0 = .ok (.aload_n 0, 1) := by decide +kernel
theorem dL_set_1 : decode cL_set 1 = .ok (.iload_n 1, 1) := by decide +kernel
theorem dL_set_2 : decode cL_set 2 = .ok (.iload_n 2, 1) := by decide +kernel
theorem dL_set_3 : decode cL_set 3 = .ok (.invokevirtual 32, 3) := by decide +kernel
theorem dL_set_6 : decode cL_set 6 = .ok (.ireturn, 1) := by decide +kernel
theorem dL_set_7 : decode cL_set 7 = .ok (.astore_n 3, 1) := by decide +kernel
theorem dL_set_8 : decode cL_set 8 = .ok (.bipush (-2), 2) := by decide +kernel
theorem dL_set_10 : decode cL_set 10 = .ok (.ireturn, 1) := by decide +kernel
theorem dL_set_11 : decode cL_set 11 = .ok (.astore_n 3, 1) := by decide +kernel
theorem dL_set_12 : decode cL_set 12 = .ok (.bipush (-3), 2) := by decide +kernel
theorem dL_set_14 : decode cL_set 14 = .ok (.ireturn, 1) := by decide +kernel
theorem dL_act_0 : decode cL_act 0 = .ok (.aload_n 0, 1) := by decide +kernel
theorem dL_act_1 : decode cL_act 1 = .ok (.iconst 3, 1) := by decide +kernel
theorem dL_act_2 : decode cL_act 2 = .ok (.invokevirtual 37, 3) := by decide +kernel
theorem dL_act_5 : decode cL_act 5 = .ok (.istore_n 3, 1) := by decide +kernel
theorem dL_act_6 : decode cL_act 6 = .ok (.aload_n 1, 1) := by decide +kernel
theorem dL_act_7 : decode cL_act 7 = .ok (.iload_n 2, 1) := by decide +kernel
theorem dL_act_8 : decode cL_act 8 = .ok (.iconst 1, 1) := by decide +kernel
theorem dL_act_9 : decode cL_act 9 = .ok (.iadd, 1) := by decide +kernel
theorem dL_act_10 : decode cL_act 10 = .ok (.invokestatic 41, 3) := by decide +kernel
theorem dL_act_13 : decode cL_act 13 = .ok (.iconst 4, 1) := by decide +kernel
theorem dL_act_14 : decode cL_act 14 = .ok (.invokestatic 47, 3) := by decide +kernel
theorem dL_act_17 : decode cL_act 17 = .ok (.istore 4, 2) := by decide +kernel
theorem dL_act_19 : decode cL_act 19 = .ok (.aload_n 1, 1) := by decide +kernel
theorem dL_act_20 : decode cL_act 20 = .ok (.iload_n 2, 1) := by decide +kernel
theorem dL_act_21 : decode cL_act 21 = .ok (.iconst 2, 1) := by decide +kernel
theorem dL_act_22 : decode cL_act 22 = .ok (.iadd, 1) := by decide +kernel
theorem dL_act_23 : decode cL_act 23 = .ok (.invokestatic 41, 3) := by decide +kernel
theorem dL_act_26 : decode cL_act 26 = .ok (.iload_n 3, 1) := by decide +kernel
theorem dL_act_27 : decode cL_act 27 = .ok (.bipush 9, 2) := by decide +kernel
theorem dL_act_29 : decode cL_act 29 = .ok (.if_icmp .ge 7, 3) := by decide +kernel
theorem dL_act_32 : decode cL_act 32 = .ok (.iload_n 3, 1) := by decide +kernel
theorem dL_act_33 : decode cL_act 33 = .ok (.goto 5, 3) := by decide +kernel
theorem dL_act_36 : decode cL_act 36 = .ok (.bipush 9, 2) := by decide +kernel
theorem dL_act_38 : decode cL_act 38 = .ok (.invokestatic 47, 3) := by decide +kernel
theorem dL_act_41 : decode cL_act 41 = .ok (.istore 5, 2) := by decide +kernel
theorem dL_act_43 : decode cL_act 43 = .ok (.iconst 1, 1) := by decide +kernel
theorem dL_act_44 : decode cL_act 44 = .ok (.aload_n 1, 1) := by decide +kernel
theorem dL_act_45 : decode cL_act 45 = .ok (.iload_n 2, 1) := by decide +kernel
theorem dL_act_46 : decode cL_act 46 = .ok (.iconst 3, 1) := by decide +kernel
theorem dL_act_47 : decode cL_act 47 = .ok (.iadd, 1) := by decide +kernel
theorem dL_act_48 : decode cL_act 48 = .ok (.invokestatic 41, 3) := by decide +kernel
theorem dL_act_51 : decode cL_act 51 = .ok (.bipush 12, 2) := by decide +kernel
theorem dL_act_53 : decode cL_act 53 = .ok (.invokestatic 47, 3) := by decide +kernel
theorem dL_act_56 : decode cL_act 56 = .ok (.iadd, 1) := by decide +kernel
theorem dL_act_57 : decode cL_act 57 = .ok (.istore 6, 2) := by decide +kernel
theorem dL_act_59 : decode cL_act 59 = .ok (.aload_n 1, 1) := by decide +kernel
theorem dL_act_60 : decode cL_act 60 = .ok (.iload_n 2, 1) := by decide +kernel
theorem dL_act_61 : decode cL_act 61 = .ok (.invokestatic 41, 3) := by decide +kernel
theorem dL_act_64 : decode cL_act 64 = .ok (.bipush 9, 2) := by decide +kernel
theorem dL_act_66 : decode cL_act 66 = .ok (.invokestatic 47, 3) := by decide +kernel
theorem dL_act_69 : decode cL_act 69 = .ok (.tableswitch 126 0 7 #[47, 47, 56, 69, 69, 80, 91, 117], 47) := by decide +kernel
theorem dL_act_116 : decode cL_act 116 = .ok (.aload_n 0, 1) := by decide +kernel
theorem dL_act_117 : decode cL_act 117 = .ok (.iload 4, 2) := by decide +kernel
theorem dL_act_119 : decode cL_act 119 = .ok (.iload 6, 2) := by decide +kernel
theorem dL_act_121 : decode cL_act 121 = .ok (.invokestatic 50, 3) := by decide +kernel
theorem dL_act_124 : decode cL_act 124 = .ok (.ireturn, 1) := by decide +kernel
theorem dL_act_125 : decode cL_act 125 = .ok (.aload_n 0, 1) := by decide +kernel
theorem dL_act_126 : decode cL_act 126 = .ok (.iload 4, 2) := by decide +kernel
theorem dL_act_128 : decode cL_act 128 = .ok (.iconst 1, 1) := by decide +kernel
theorem dL_act_129 : decode cL_act 129 = .ok (.iload 5, 2) := by decide +kernel
theorem dL_act_131 : decode cL_act 131 = .ok (.iadd, 1) := by decide +kernel
theorem dL_act_132 : decode cL_act 132 = .ok (.iload 6, 2) := by decide +kernel
theorem dL_act_134 : decode cL_act 134 = .ok (.invokestatic 53, 3) := by decide +kernel
theorem dL_act_137 : decode cL_act 137 = .ok (.ireturn, 1) := by decide +kernel
theorem dL_act_138 : decode cL_act 138 = .ok (.aload_n 0, 1) := by decide +kernel
theorem dL_act_139 : decode cL_act 139 = .ok (.iload 4, 2) := by decide +kernel
theorem dL_act_141 : decode cL_act 141 = .ok (.iload 5, 2) := by decide +kernel
theorem dL_act_143 : decode cL_act 143 = .ok (.iload 6, 2) := by decide +kernel
theorem dL_act_145 : decode cL_act 145 = .ok (.invokestatic 57, 3) := by decide +kernel
theorem dL_act_148 : decode cL_act 148 = .ok (.ireturn, 1) := by decide +kernel
theorem dL_act_149 : decode cL_act 149 = .ok (.aload_n 0, 1) := by decide +kernel
theorem dL_act_150 : decode cL_act 150 = .ok (.iload 4, 2) := by decide +kernel
theorem dL_act_152 : decode cL_act 152 = .ok (.iload 5, 2) := by decide +kernel
theorem dL_act_154 : decode cL_act 154 = .ok (.iload 6, 2) := by decide +kernel
theorem dL_act_156 : decode cL_act 156 = .ok (.invokestatic 59, 3) := by decide +kernel
theorem dL_act_159 : decode cL_act 159 = .ok (.ireturn, 1) := by decide +kernel
theorem dL_act_160 : decode cL_act 160 = .ok (.aload_n 0, 1) := by decide +kernel
theorem dL_act_161 : decode cL_act 161 = .ok (.iload 4, 2) := by decide +kernel
theorem dL_act_163 : decode cL_act 163 = .ok (.iload 5, 2) := by decide +kernel
theorem dL_act_165 : decode cL_act 165 = .ok (.iload 5, 2) := by decide +kernel
theorem dL_act_167 : decode cL_act 167 = .ok (.aload_n 1, 1) := by decide +kernel
theorem dL_act_168 : decode cL_act 168 = .ok (.iload_n 2, 1) := by decide +kernel
theorem dL_act_169 : decode cL_act 169 = .ok (.iconst 3, 1) := by decide +kernel
theorem dL_act_170 : decode cL_act 170 = .ok (.iadd, 1) := by decide +kernel
theorem dL_act_171 : decode cL_act 171 = .ok (.invokestatic 41, 3) := by decide +kernel
theorem dL_act_174 : decode cL_act 174 = .ok (.iload_n 3, 1) := by decide +kernel
theorem dL_act_175 : decode cL_act 175 = .ok (.iload 5, 2) := by decide +kernel
theorem dL_act_177 : decode cL_act 177 = .ok (.isub, 1) := by decide +kernel
theorem dL_act_178 : decode cL_act 178 = .ok (.invokestatic 47, 3) := by decide +kernel
theorem dL_act_181 : decode cL_act 181 = .ok (.iadd, 1) := by decide +kernel
theorem dL_act_182 : decode cL_act 182 = .ok (.invokevirtual 61, 3) := by decide +kernel
theorem dL_act_185 : decode cL_act 185 = .ok (.ireturn, 1) := by decide +kernel
theorem dL_act_186 : decode cL_act 186 = .ok (.aload_n 0, 1) := by decide +kernel
theorem dL_act_187 : decode cL_act 187 = .ok (.iload 4, 2) := by decide +kernel
theorem dL_act_189 : decode cL_act 189 = .ok (.iload 5, 2) := by decide +kernel
theorem dL_act_191 : decode cL_act 191 = .ok (.invokestatic 64, 3) := by decide +kernel
theorem dL_act_194 : decode cL_act 194 = .ok (.ireturn, 1) := by decide +kernel
theorem dL_act_195 : decode cL_act 195 = .ok (.aload_n 0, 1) := by decide +kernel
theorem dL_act_196 : decode cL_act 196 = .ok (.iload 6, 2) := by decide +kernel
theorem dL_act_198 : decode cL_act 198 = .ok (.invokevirtual 66, 3) := by decide +kernel
theorem dL_act_201 : decode cL_act 201 = .ok (.ireturn, 1) := by decide +kernel
theorem dL_undo_0 : decode cL_undo 0 = .ok (.aload_n 0, 1) := by decide +kernel
theorem dL_undo_1 : decode cL_undo 1 = .ok (.invokevirtual 69, 3) := by decide +kernel
theorem dL_undo_4 : decode cL_undo 4 = .ok (.ireturn, 1) := by decide +kernel
theorem dL_undo_5 : decode cL_undo 5 = .ok (.astore_n 1, 1) := by decide +kernel
theorem dL_undo_6 : decode cL_undo 6 = .ok (.bipush (-3), 2) := by decide +kernel
theorem dL_undo_8 : decode cL_undo 8 = .ok (.ireturn, 1) := by decide +kernel
theorem dL_numbers_0 : decode cL_numbers 0 = .ok (.iconst 1, 1) := by decide +kernel
theorem dL_numbers_1 : decode cL_numbers 1 = .ok (.istore_n 1, 1) := by decide +kernel
theorem dL_numbers_2 : decode cL_numbers 2 = .ok (.aload_n 0, 1) := by decide +kernel
theorem dL_numbers_3 : decode cL_numbers 3 = .ok (.iconst 0, 1) := by decide +kernel
theorem dL_numbers_4 : decode cL_numbers 4 = .ok (.invokevirtual 73, 3) := by decide +kernel
theorem dL_numbers_7 : decode cL_numbers 7 = .ok (.istore_n 2, 1) := by decide +kernel
theorem dL_numbers_8 : decode cL_numbers 8 = .ok (.iconst 0, 1) := by decide +kernel
theorem dL_numbers_9 : decode cL_numbers 9 = .ok (.istore_n 3, 1) := by decide +kernel
theorem dL_numbers_10 : decode cL_numbers 10 = .ok (.iconst 0, 1) := by decide +kernel
theorem dL_numbers_11 : decode cL_numbers 11 = .ok (.istore 4, 2) := by decide +kernel
theorem dL_numbers_13 : decode cL_numbers 13 = .ok (.iconst 0, 1) := by decide +kernel
theorem dL_numbers_14 : decode cL_numbers 14 = .ok (.istore 5, 2) := by decide +kernel
theorem dL_numbers_16 : decode cL_numbers 16 = .ok (.iconst 0, 1) := by decide +kernel
theorem dL_numbers_17 : decode cL_numbers 17 = .ok (.istore 6, 2) := by decide +kernel
theorem dL_numbers_19 : decode cL_numbers 19 = .ok (.iload 6, 2) := by decide +kernel
theorem dL_numbers_21 : decode cL_numbers 21 = .ok (.aload_n 0, 1) := by decide +kernel
theorem dL_numbers_22 : decode cL_numbers 22 = .ok (.iconst 3, 1) := by decide +kernel
theorem dL_numbers_23 : decode cL_numbers 23 = .ok (.invokevirtual 37, 3) := by decide +kernel
theorem dL_numbers_26 : decode cL_numbers 26 = .ok (.if_icmp .ge 361, 3) := by decide +kernel
theorem dL_numbers_29 : decode cL_numbers 29 = .ok (.iload_n 1, 1) := by decide +kernel
theorem dL_numbers_30 : decode cL_numbers 30 = .ok (.ifCond .eq 357, 3) := by decide +kernel
theorem dL_numbers_33 : decode cL_numbers 33 = .ok (.aload_n 0, 1) := by decide +kernel
theorem dL_numbers_34 : decode cL_numbers 34 = .ok (.iload 6, 2) := by decide +kernel
theorem dL_numbers_36 : decode cL_numbers 36 = .ok (.iconst 0, 1) := by decide +kernel
theorem dL_numbers_37 : decode cL_numbers 37 = .ok (.invokevirtual 76, 3) := by decide +kernel
theorem dL_numbers_40 : decode cL_numbers 40 = .ok (.istore 7, 2) := by decide +kernel
theorem dL_numbers_42 : decode cL_numbers 42 = .ok (.aload_n 0, 1) := by decide +kernel
theorem dL_numbers_43 : decode cL_numbers 43 = .ok (.iload 6, 2) := by decide +kernel
theorem dL_numbers_45 : decode cL_numbers 45 = .ok (.iconst 1, 1) := by decide +kernel
theorem dL_numbers_46 : decode cL_numbers 46 = .ok (.invokevirtual 76, 3) := by decide +kernel
theorem dL_numbers_49 : decode cL_numbers 49 = .ok (.istore 8, 2) := by decide +kernel
theorem dL_numbers_51 : decode cL_numbers 51 = .ok (.iload 8, 2) := by decide +kernel
theorem dL_numbers_53 : decode cL_numbers 53 = .ok (.iconst (-1), 1) := by decide +kernel
theorem dL_numbers_54 : decode cL_numbers 54 = .ok (.if_icmp .ne 7, 3) := by decide +kernel
theorem dL_numbers_57 : decode cL_numbers 57 = .ok (.iconst 1, 1) := by decide +kernel
theorem dL_numbers_58 : decode cL_numbers 58 = .ok (.goto 4, 3) := by decide +kernel
theorem dL_numbers_61 : decode cL_numbers 61 = .ok (.iconst 0, 1) := by decide +kernel
theorem dL_numbers_62 : decode cL_numbers 62 = .ok (.iload 7, 2) := by decide +kernel
theorem dL_numbers_64 : decode cL_numbers 64 = .ok (.ifCond .ne 7, 3) := by decide +kernel
theorem dL_numbers_67 : decode cL_numbers 67 = .ok (.iconst 1, 1) := by decide +kernel
theorem dL_numbers_68 : decode cL_numbers 68 = .ok (.goto 4, 3) := by decide +kernel
theorem dL_numbers_71 : decode cL_numbers 71 = .ok (.iconst 0, 1) := by decide +kernel
theorem dL_numbers_72 : decode cL_numbers 72 = .ok (.if_icmp .ne 30, 3) := by decide +kernel
theorem dL_numbers_75 : decode cL_numbers 75 = .ok (.aload_n 0, 1) := by decide +kernel
theorem dL_numbers_76 : decode cL_numbers 76 = .ok (.iload 6, 2) := by decide +kernel
theorem dL_numbers_78 : decode cL_numbers 78 = .ok (.iconst 5, 1) := by decide +kernel
theorem dL_numbers_79 : decode cL_numbers 79 = .ok (.invokevirtual 76, 3) := by decide +kernel
theorem dL_numbers_82 : decode cL_numbers 82 = .ok (.iconst 3, 1) := by decide +kernel
theorem dL_numbers_83 : decode cL_numbers 83 = .ok (.if_icmp .gt 19, 3) := by decide +kernel
theorem dL_numbers_86 : decode cL_numbers 86 = .ok (.aload_n 0, 1) := by decide +kernel
theorem dL_numbers_87 : decode cL_numbers 87 = .ok (.iload 6, 2) := by decide +kernel
theorem dL_numbers_89 : decode cL_numbers 89 = .ok (.iconst 0, 1) := by decide +kernel
theorem dL_numbers_90 : decode cL_numbers 90 = .ok (.invokevirtual 79, 3) := by decide +kernel
theorem dL_numbers_93 : decode cL_numbers 93 = .ok (.iload 8, 2) := by decide +kernel
theorem dL_numbers_95 : decode cL_numbers 95 = .ok (.if_icmp .ne 7, 3) := by decide +kernel
theorem dL_numbers_98 : decode cL_numbers 98 = .ok (.iconst 1, 1) := by decide +kernel
theorem dL_numbers_99 : decode cL_numbers 99 = .ok (.goto 4, 3) := by decide +kernel
theorem dL_numbers_102 : decode cL_numbers 102 = .ok (.iconst 0, 1) := by decide +kernel
theorem dL_numbers_103 : decode cL_numbers 103 = .ok (.istore_n 1, 1) := by decide +kernel
theorem dL_numbers_104 : decode cL_numbers 104 = .ok (.iload 7, 2) := by decide +kernel
theorem dL_numbers_106 : decode cL_numbers 106 = .ok (.ifCond .ne 49, 3) := by decide +kernel
theorem dL_numbers_109 : decode cL_numbers 109 = .ok (.iload_n 1, 1) := by decide +kernel
theorem dL_numbers_110 : decode cL_numbers 110 = .ok (.ifCond .eq 40, 3) := by decide +kernel
theorem dL_numbers_113 : decode cL_numbers 113 = .ok (.aload_n 0, 1) := by decide +kernel
theorem dL_numbers_114 : decode cL_numbers 114 = .ok (.iload 6, 2) := by decide +kernel
theorem dL_numbers_116 : decode cL_numbers 116 = .ok (.iconst 5, 1) := by decide +kernel
theorem dL_numbers_117 : decode cL_numbers 117 = .ok (.invokevirtual 76, 3) := by decide +kernel
theorem dL_numbers_120 : decode cL_numbers 120 = .ok (.ifCond .ne 30, 3) := by decide +kernel
theorem dL_numbers_123 : decode cL_numbers 123 = .ok (.aload_n 0, 1) := by decide +kernel
theorem dL_numbers_124 : decode cL_numbers 124 = .ok (.iload 6, 2) := by decide +kernel
theorem dL_numbers_126 : decode cL_numbers 126 = .ok (.iconst 2, 1) := by decide +kernel
theorem dL_numbers_127 : decode cL_numbers 127 = .ok (.invokevirtual 76, 3) := by decide +kernel
theorem dL_numbers_130 : decode cL_numbers 130 = .ok (.iconst (-1), 1) := by decide +kernel
theorem dL_numbers_131 : decode cL_numbers 131 = .ok (.if_icmp .ne 19, 3) := by decide +kernel
theorem dL_numbers_134 : decode cL_numbers 134 = .ok (.aload_n 0, 1) := by decide +kernel
theorem dL_numbers_135 : decode cL_numbers 135 = .ok (.iload 6, 2) := by decide +kernel
theorem dL_numbers_137 : decode cL_numbers 137 = .ok (.bipush 6, 2) := by decide +kernel
theorem dL_numbers_139 : decode cL_numbers 139 = .ok (.invokevirtual 76, 3) := by decide +kernel
theorem dL_numbers_142 : decode cL_numbers 142 = .ok (.iconst (-1), 1) := by decide +kernel
theorem dL_numbers_143 : decode cL_numbers 143 = .ok (.if_icmp .ne 7, 3) := by decide +kernel
theorem dL_numbers_146 : decode cL_numbers 146 = .ok (.iconst 1, 1) := by decide +kernel
theorem dL_numbers_147 : decode cL_numbers 147 = .ok (.goto 4, 3) := by decide +kernel
theorem dL_numbers_150 : decode cL_numbers 150 = .ok (.iconst 0, 1) := by decide +kernel
theorem dL_numbers_151 : decode cL_numbers 151 = .ok (.istore_n 1, 1) := by decide +kernel
theorem dL_numbers_152 : decode cL_numbers 152 = .ok (.goto 188, 3) := by decide +kernel
theorem dL_numbers_155 : decode cL_numbers 155 = .ok (.iload_n 1, 1) := by decide +kernel
theorem dL_numbers_156 : decode cL_numbers 156 = .ok (.ifCond .eq 63, 3) := by decide +kernel
theorem dL_numbers_159 : decode cL_numbers 159 = .ok (.aload_n 0, 1) := by decide +kernel
theorem dL_numbers_160 : decode cL_numbers 160 = .ok (.iload 6, 2) := by decide +kernel
theorem dL_numbers_162 : decode cL_numbers 162 = .ok (.iconst 2, 1) := by decide +kernel
theorem dL_numbers_163 : decode cL_numbers 163 = .ok (.invokevirtual 76, 3) := by decide +kernel
theorem dL_numbers_166 : decode cL_numbers 166 = .ok (.aload_n 0, 1) := by decide +kernel
theorem dL_numbers_167 : decode cL_numbers 167 = .ok (.iload 6, 2) := by decide +kernel
theorem dL_numbers_169 : decode cL_numbers 169 = .ok (.iconst 3, 1) := by decide +kernel
theorem dL_numbers_170 : decode cL_numbers 170 = .ok (.invokevirtual 76, 3) := by decide +kernel
theorem dL_numbers_173 : decode cL_numbers 173 = .ok (.if_icmp .ge 46, 3) := by decide +kernel
theorem dL_numbers_176 : decode cL_numbers 176 = .ok (.aload_n 0, 1) := by decide +kernel
theorem dL_numbers_177 : decode cL_numbers 177 = .ok (.iload 6, 2) := by decide +kernel
theorem dL_numbers_179 : decode cL_numbers 179 = .ok (.iconst 3, 1) := by decide +kernel
theorem dL_numbers_180 : decode cL_numbers 180 = .ok (.invokevirtual 76, 3) := by decide +kernel
theorem dL_numbers_183 : decode cL_numbers 183 = .ok (.aload_n 0, 1) := by decide +kernel
theorem dL_numbers_184 : decode cL_numbers 184 = .ok (.iload 6, 2) := by decide +kernel
theorem dL_numbers_186 : decode cL_numbers 186 = .ok (.iconst 4, 1) := by decide +kernel
theorem dL_numbers_187 : decode cL_numbers 187 = .ok (.invokevirtual 76, 3) := by decide +kernel
theorem dL_numbers_190 : decode cL_numbers 190 = .ok (.if_icmp .gt 29, 3) := by decide +kernel
theorem dL_numbers_193 : decode cL_numbers 193 = .ok (.aload_n 0, 1) := by decide +kernel
theorem dL_numbers_194 : decode cL_numbers 194 = .ok (.iload 6, 2) := by decide +kernel
theorem dL_numbers_196 : decode cL_numbers 196 = .ok (.iconst 2, 1) := by decide +kernel
theorem dL_numbers_197 : decode cL_numbers 197 = .ok (.invokevirtual 76, 3) := by decide +kernel
theorem dL_numbers_200 : decode cL_numbers 200 = .ok (.iload_n 2, 1) := by decide +kernel
theorem dL_numbers_201 : decode cL_numbers 201 = .ok (.if_icmp .gt 18, 3) := by decide +kernel
theorem dL_numbers_204 : decode cL_numbers 204 = .ok (.iload_n 2, 1) := by decide +kernel
theorem dL_numbers_205 : decode cL_numbers 205 = .ok (.aload_n 0, 1) := by decide +kernel
theorem dL_numbers_206 : decode cL_numbers 206 = .ok (.iload 6, 2) := by decide +kernel
theorem dL_numbers_208 : decode cL_numbers 208 = .ok (.iconst 4, 1) := by decide +kernel
theorem dL_numbers_209 : decode cL_numbers 209 = .ok (.invokevirtual 76, 3) := by decide +kernel
theorem dL_numbers_212 : decode cL_numbers 212 = .ok (.if_icmp .ge 7, 3) := by decide +kernel
theorem dL_numbers_215 : decode cL_numbers 215 = .ok (.iconst 1, 1) := by decide +kernel
theorem dL_numbers_216 : decode cL_numbers 216 = .ok (.goto 4, 3) := by decide +kernel
theorem dL_numbers_219 : decode cL_numbers 219 = .ok (.iconst 0, 1) := by decide +kernel
theorem dL_numbers_220 : decode cL_numbers 220 = .ok (.istore_n 1, 1) := by decide +kernel
theorem dL_numbers_221 : decode cL_numbers 221 = .ok (.iload_n 1, 1) := by decide +kernel
theorem dL_numbers_222 : decode cL_numbers 222 = .ok (.ifCond .eq 84, 3) := by decide +kernel
theorem dL_numbers_225 : decode cL_numbers 225 = .ok (.iload 7, 2) := by decide +kernel
theorem dL_numbers_227 : decode cL_numbers 227 = .ok (.iconst 1, 1) := by decide +kernel
theorem dL_numbers_228 : decode cL_numbers 228 = .ok (.if_icmp .ne 7, 3) := by decide +kernel
theorem dL_numbers_231 : decode cL_numbers 231 = .ok (.iconst 1, 1) := by decide +kernel
theorem dL_numbers_232 : decode cL_numbers 232 = .ok (.goto 4, 3) := by decide +kernel
theorem dL_numbers_235 : decode cL_numbers 235 = .ok (.iconst 0, 1) := by decide +kernel
theorem dL_numbers_236 : decode cL_numbers 236 = .ok (.iload_n 2, 1) := by decide +kernel
theorem dL_numbers_237 : decode cL_numbers 237 = .ok (.aload_n 0, 1) := by decide +kernel
theorem dL_numbers_238 : decode cL_numbers 238 = .ok (.iload 6, 2) := by decide +kernel
theorem dL_numbers_240 : decode cL_numbers 240 = .ok (.iconst 3, 1) := by decide +kernel
theorem dL_numbers_241 : decode cL_numbers 241 = .ok (.invokevirtual 76, 3) := by decide +kernel
theorem dL_numbers_244 : decode cL_numbers 244 = .ok (.if_icmp .ge 7, 3) := by decide +kernel
theorem dL_numbers_247 : decode cL_numbers 247 = .ok (.iconst 1, 1) := by decide +kernel
theorem dL_numbers_248 : decode cL_numbers 248 = .ok (.goto 4, 3) := by decide +kernel
theorem dL_numbers_251 : decode cL_numbers 251 = .ok (.iconst 0, 1) := by decide +kernel
theorem dL_numbers_252 : decode cL_numbers 252 = .ok (.if_icmp .ne 54, 3) := by decide +kernel
theorem dL_numbers_255 : decode cL_numbers 255 = .ok (.aload_n 0, 1) := by decide +kernel
theorem dL_numbers_256 : decode cL_numbers 256 = .ok (.iload 6, 2) := by decide +kernel
theorem dL_numbers_258 : decode cL_numbers 258 = .ok (.bipush 6, 2) := by decide +kernel
theorem dL_numbers_260 : decode cL_numbers 260 = .ok (.invokevirtual 76, 3) := by decide +kernel
theorem dL_numbers_263 : decode cL_numbers 263 = .ok (.iload 8, 2) := by decide +kernel
theorem dL_numbers_265 : decode cL_numbers 265 = .ok (.if_icmp .eq 41, 3) := by decide +kernel
theorem dL_numbers_268 : decode cL_numbers 268 = .ok (.aload_n 0, 1) := by decide +kernel
theorem dL_numbers_269 : decode cL_numbers 269 = .ok (.iload 6, 2) := by decide +kernel
theorem dL_numbers_271 : decode cL_numbers 271 = .ok (.iconst 5, 1) := by decide +kernel
theorem dL_numbers_272 : decode cL_numbers 272 = .ok (.invokevirtual 76, 3) := by decide +kernel
theorem dL_numbers_275 : decode cL_numbers 275 = .ok (.ifCond .le 7, 3) := by decide +kernel
theorem dL_numbers_278 : decode cL_numbers 278 = .ok (.iconst 1, 1) := by decide +kernel
theorem dL_numbers_279 : decode cL_numbers 279 = .ok (.goto 4, 3) := by decide +kernel
theorem dL_numbers_282 : decode cL_numbers 282 = .ok (.iconst 0, 1) := by decide +kernel
theorem dL_numbers_283 : decode cL_numbers 283 = .ok (.aload_n 0, 1) := by decide +kernel
theorem dL_numbers_284 : decode cL_numbers 284 = .ok (.iload 6, 2) := by decide +kernel
theorem dL_numbers_286 : decode cL_numbers 286 = .ok (.bipush 6, 2) := by decide +kernel
theorem dL_numbers_288 : decode cL_numbers 288 = .ok (.invokevirtual 76, 3) := by decide +kernel
theorem dL_numbers_291 : decode cL_numbers 291 = .ok (.ifCond .lt 7, 3) := by decide +kernel
theorem dL_numbers_294 : decode cL_numbers 294 = .ok (.iconst 1, 1) := by decide +kernel
theorem dL_numbers_295 : decode cL_numbers 295 = .ok (.goto 4, 3) := by decide +kernel
theorem dL_numbers_298 : decode cL_numbers 298 = .ok (.iconst 0, 1) := by decide +kernel
theorem dL_numbers_299 : decode cL_numbers 299 = .ok (.if_icmp .ne 7, 3) := by decide +kernel
theorem dL_numbers_302 : decode cL_numbers 302 = .ok (.iconst 1, 1) := by decide +kernel
theorem dL_numbers_303 : decode cL_numbers 303 = .ok (.goto 4, 3) := by decide +kernel
theorem dL_numbers_306 : decode cL_numbers 306 = .ok (.iconst 0, 1) := by decide +kernel
theorem dL_numbers_307 : decode cL_numbers 307 = .ok (.istore_n 1, 1) := by decide +kernel
theorem dL_numbers_308 : decode cL_numbers 308 = .ok (.iload_n 1, 1) := by decide +kernel
theorem dL_numbers_309 : decode cL_numbers 309 = .ok (.ifCond .eq 29, 3) := by decide +kernel
theorem dL_numbers_312 : decode cL_numbers 312 = .ok (.aload_n 0, 1) := by decide +kernel
theorem dL_numbers_313 : decode cL_numbers 313 = .ok (.iload 8, 2) := by decide +kernel
theorem dL_numbers_315 : decode cL_numbers 315 = .ok (.iload 6, 2) := by decide +kernel
theorem dL_numbers_317 : decode cL_numbers 317 = .ok (.invokevirtual 82, 3) := by decide +kernel
theorem dL_numbers_320 : decode cL_numbers 320 = .ok (.ifCond .ne 18, 3) := by decide +kernel
theorem dL_numbers_323 : decode cL_numbers 323 = .ok (.aload_n 0, 1) := by decide +kernel
theorem dL_numbers_324 : decode cL_numbers 324 = .ok (.iload 6, 2) := by decide +kernel
theorem dL_numbers_326 : decode cL_numbers 326 = .ok (.bipush 8, 2) := by decide +kernel
theorem dL_numbers_328 : decode cL_numbers 328 = .ok (.invokevirtual 76, 3) := by decide +kernel
theorem dL_numbers_331 : decode cL_numbers 331 = .ok (.ifCond .le 7, 3) := by decide +kernel
theorem dL_numbers_334 : decode cL_numbers 334 = .ok (.iconst 1, 1) := by decide +kernel
theorem dL_numbers_335 : decode cL_numbers 335 = .ok (.goto 4, 3) := by decide +kernel
theorem dL_numbers_338 : decode cL_numbers 338 = .ok (.iconst 0, 1) := by decide +kernel
theorem dL_numbers_339 : decode cL_numbers 339 = .ok (.istore_n 1, 1) := by decide +kernel
theorem dL_numbers_340 : decode cL_numbers 340 = .ok (.iload_n 3, 1) := by decide +kernel
theorem dL_numbers_341 : decode cL_numbers 341 = .ok (.iload 7, 2) := by decide +kernel
theorem dL_numbers_343 : decode cL_numbers 343 = .ok (.ifCond .ne 7, 3) := by decide +kernel
theorem dL_numbers_346 : decode cL_numbers 346 = .ok (.iconst 1, 1) := by decide +kernel
theorem dL_numbers_347 : decode cL_numbers 347 = .ok (.goto 4, 3) := by decide +kernel
theorem dL_numbers_350 : decode cL_numbers 350 = .ok (.iconst 0, 1) := by decide +kernel
theorem dL_numbers_351 : decode cL_numbers 351 = .ok (.iadd, 1) := by decide +kernel
theorem dL_numbers_352 : decode cL_numbers 352 = .ok (.istore_n 3, 1) := by decide +kernel
theorem dL_numbers_353 : decode cL_numbers 353 = .ok (.iload 4, 2) := by decide +kernel
theorem dL_numbers_355 : decode cL_numbers 355 = .ok (.iload 7, 2) := by decide +kernel
theorem dL_numbers_357 : decode cL_numbers 357 = .ok (.iconst 1, 1) := by decide +kernel
theorem dL_numbers_358 : decode cL_numbers 358 = .ok (.if_icmp .ne 7, 3) := by decide +kernel
theorem dL_numbers_361 : decode cL_numbers 361 = .ok (.iconst 1, 1) := by decide +kernel
theorem dL_numbers_362 : decode cL_numbers 362 = .ok (.goto 4, 3) := by decide +kernel
theorem dL_numbers_365 : decode cL_numbers 365 = .ok (.iconst 0, 1) := by decide +kernel
theorem dL_numbers_366 : decode cL_numbers 366 = .ok (.iadd, 1) := by decide +kernel
theorem dL_numbers_367 : decode cL_numbers 367 = .ok (.istore 4, 2) := by decide +kernel
theorem dL_numbers_369 : decode cL_numbers 369 = .ok (.iload 5, 2) := by decide +kernel
theorem dL_numbers_371 : decode cL_numbers 371 = .ok (.aload_n 0, 1) := by decide +kernel
theorem dL_numbers_372 : decode cL_numbers 372 = .ok (.iload 6, 2) := by decide +kernel
theorem dL_numbers_374 : decode cL_numbers 374 = .ok (.iconst 5, 1) := by decide +kernel
theorem dL_numbers_375 : decode cL_numbers 375 = .ok (.invokevirtual 76, 3) := by decide +kernel
theorem dL_numbers_378 : decode cL_numbers 378 = .ok (.iadd, 1) := by decide +kernel
theorem dL_numbers_379 : decode cL_numbers 379 = .ok (.istore 5, 2) := by decide +kernel
theorem dL_numbers_381 : decode cL_numbers 381 = .ok (.iinc 6 1, 3) := by decide +kernel
theorem dL_numbers_384 : decode cL_numbers 384 = .ok (.goto (-365), 3) := by decide +kernel
theorem dL_numbers_387 : decode cL_numbers 387 = .ok (.iload_n 1, 1) := by decide +kernel
theorem dL_numbers_388 : decode cL_numbers 388 = .ok (.ifCond .eq 54, 3) := by decide +kernel
theorem dL_numbers_391 : decode cL_numbers 391 = .ok (.iload_n 3, 1) := by decide +kernel
theorem dL_numbers_392 : decode cL_numbers 392 = .ok (.aload_n 0, 1) := by decide +kernel
theorem dL_numbers_393 : decode cL_numbers 393 = .ok (.iconst 1, 1) := by decide +kernel
theorem dL_numbers_394 : decode cL_numbers 394 = .ok (.invokevirtual 73, 3) := by decide +kernel
theorem dL_numbers_397 : decode cL_numbers 397 = .ok (.if_icmp .ne 45, 3) := by decide +kernel
theorem dL_numbers_400 : decode cL_numbers 400 = .ok (.iload 4, 2) := by decide +kernel
theorem dL_numbers_402 : decode cL_numbers 402 = .ok (.aload_n 0, 1) := by decide +kernel
theorem dL_numbers_403 : decode cL_numbers 403 = .ok (.iconst 2, 1) := by decide +kernel
theorem dL_numbers_404 : decode cL_numbers 404 = .ok (.invokevirtual 73, 3) := by decide +kernel
theorem dL_numbers_407 : decode cL_numbers 407 = .ok (.if_icmp .ne 35, 3) := by decide +kernel
theorem dL_numbers_410 : decode cL_numbers 410 = .ok (.iload_n 3, 1) := by decide +kernel
theorem dL_numbers_411 : decode cL_numbers 411 = .ok (.iload 4, 2) := by decide +kernel
theorem dL_numbers_413 : decode cL_numbers 413 = .ok (.iadd, 1) := by decide +kernel
theorem dL_numbers_414 : decode cL_numbers 414 = .ok (.aload_n 0, 1) := by decide +kernel
theorem dL_numbers_415 : decode cL_numbers 415 = .ok (.iconst 3, 1) := by decide +kernel
theorem dL_numbers_416 : decode cL_numbers 416 = .ok (.invokevirtual 73, 3) := by decide +kernel
theorem dL_numbers_419 : decode cL_numbers 419 = .ok (.iadd, 1) := by decide +kernel
theorem dL_numbers_420 : decode cL_numbers 420 = .ok (.aload_n 0, 1) := by decide +kernel
theorem dL_numbers_421 : decode cL_numbers 421 = .ok (.iconst 3, 1) := by decide +kernel
theorem dL_numbers_422 : decode cL_numbers 422 = .ok (.invokevirtual 37, 3) := by decide +kernel
theorem dL_numbers_425 : decode cL_numbers 425 = .ok (.if_icmp .ne 17, 3) := by decide +kernel
theorem dL_numbers_428 : decode cL_numbers 428 = .ok (.iload 5, 2) := by decide +kernel
theorem dL_numbers_430 : decode cL_numbers 430 = .ok (.aload_n 0, 1) := by decide +kernel
theorem dL_numbers_431 : decode cL_numbers 431 = .ok (.iconst 4, 1) := by decide +kernel
theorem dL_numbers_432 : decode cL_numbers 432 = .ok (.invokevirtual 73, 3) := by decide +kernel
theorem dL_numbers_435 : decode cL_numbers 435 = .ok (.if_icmp .ne 7, 3) := by decide +kernel
theorem dL_numbers_438 : decode cL_numbers 438 = .ok (.iconst 1, 1) := by decide +kernel
theorem dL_numbers_439 : decode cL_numbers 439 = .ok (.goto 4, 3) := by decide +kernel
theorem dL_numbers_442 : decode cL_numbers 442 = .ok (.iconst 0, 1) := by decide +kernel
theorem dL_numbers_443 : decode cL_numbers 443 = .ok (.istore_n 1, 1) := by decide +kernel
theorem dL_numbers_444 : decode cL_numbers 444 = .ok (.iload_n 1, 1) := by decide +kernel
theorem dL_numbers_445 : decode cL_numbers 445 = .ok (.ifCond .eq 48, 3) := by decide +kernel
theorem dL_numbers_448 : decode cL_numbers 448 = .ok (.aload_n 0, 1) := by decide +kernel
theorem dL_numbers_449 : decode cL_numbers 449 = .ok (.iconst 5, 1) := by decide +kernel
theorem dL_numbers_450 : decode cL_numbers 450 = .ok (.invokevirtual 73, 3) := by decide +kernel
theorem dL_numbers_453 : decode cL_numbers 453 = .ok (.aload_n 0, 1) := by decide +kernel
theorem dL_numbers_454 : decode cL_numbers 454 = .ok (.bipush 8, 2) := by decide +kernel
theorem dL_numbers_456 : decode cL_numbers 456 = .ok (.invokevirtual 73, 3) := by decide +kernel
theorem dL_numbers_459 : decode cL_numbers 459 = .ok (.aload_n 0, 1) := by decide +kernel
theorem dL_numbers_460 : decode cL_numbers 460 = .ok (.iconst 2, 1) := by decide +kernel
theorem dL_numbers_461 : decode cL_numbers 461 = .ok (.invokevirtual 73, 3) := by decide +kernel
theorem dL_numbers_464 : decode cL_numbers 464 = .ok (.iadd, 1) := by decide +kernel
theorem dL_numbers_465 : decode cL_numbers 465 = .ok (.aload_n 0, 1) := by decide +kernel
theorem dL_numbers_466 : decode cL_numbers 466 = .ok (.iconst 3, 1) := by decide +kernel
theorem dL_numbers_467 : decode cL_numbers 467 = .ok (.invokevirtual 73, 3) := by decide +kernel
theorem dL_numbers_470 : decode cL_numbers 470 = .ok (.iadd, 1) := by decide +kernel
theorem dL_numbers_471 : decode cL_numbers 471 = .ok (.if_icmp .ne 22, 3) := by decide +kernel
theorem dL_numbers_474 : decode cL_numbers 474 = .ok (.aload_n 0, 1) := by decide +kernel
theorem dL_numbers_475 : decode cL_numbers 475 = .ok (.bipush 7, 2) := by decide +kernel
theorem dL_numbers_477 : decode cL_numbers 477 = .ok (.invokevirtual 73, 3) := by decide +kernel
theorem dL_numbers_480 : decode cL_numbers 480 = .ok (.aload_n 0, 1) := by decide +kernel
theorem dL_numbers_481 : decode cL_numbers 481 = .ok (.bipush 6, 2) := by decide +kernel
theorem dL_numbers_483 : decode cL_numbers 483 = .ok (.invokevirtual 73, 3) := by decide +kernel
theorem dL_numbers_486 : decode cL_numbers 486 = .ok (.if_icmp .gt 7, 3) := by decide +kernel
theorem dL_numbers_489 : decode cL_numbers 489 = .ok (.iconst 1, 1) := by decide +kernel
theorem dL_numbers_490 : decode cL_numbers 490 = .ok (.goto 4, 3) := by decide +kernel
theorem dL_numbers_493 : decode cL_numbers 493 = .ok (.iconst 0, 1) := by decide +kernel
theorem dL_numbers_494 : decode cL_numbers 494 = .ok (.ireturn, 1) := by decide +kernel
theorem dL_holders_0 : decode cL_holders 0 = .ok (.iconst 0, 1) := by decide +kernel
theorem dL_holders_1 : decode cL_holders 1 = .ok (.istore_n 1, 1) := by decide +kernel
theorem dL_holders_2 : decode cL_holders 2 = .ok (.iconst 0, 1) := by decide +kernel
theorem dL_holders_3 : decode cL_holders 3 = .ok (.istore_n 2, 1) := by decide +kernel
theorem dL_holders_4 : decode cL_holders 4 = .ok (.iconst 0, 1) := by decide +kernel
theorem dL_holders_5 : decode cL_holders 5 = .ok (.istore_n 3, 1) := by decide +kernel
theorem dL_holders_6 : decode cL_holders 6 = .ok (.iconst 0, 1) := by decide +kernel
theorem dL_holders_7 : decode cL_holders 7 = .ok (.istore 4, 2) := by decide +kernel
theorem dL_holders_9 : decode cL_holders 9 = .ok (.iconst 0, 1) := by decide +kernel
theorem dL_holders_10 : decode cL_holders 10 = .ok (.istore 5, 2) := by decide +kernel
theorem dL_holders_12 : decode cL_holders 12 = .ok (.iconst 1, 1) := by decide +kernel
theorem dL_holders_13 : decode cL_holders 13 = .ok (.istore 6, 2) := by decide +kernel
theorem dL_holders_15 : decode cL_holders 15 = .ok (.iconst 0, 1) := by decide +kernel
theorem dL_holders_16 : decode cL_holders 16 = .ok (.istore 7, 2) := by decide +kernel
theorem dL_holders_18 : decode cL_holders 18 = .ok (.iload 7, 2) := by decide +kernel
theorem dL_holders_20 : decode cL_holders 20 = .ok (.bipush 8, 2) := by decide +kernel
theorem dL_holders_22 : decode cL_holders 22 = .ok (.if_icmp .ge 211, 3) := by decide +kernel
theorem dL_holders_25 : decode cL_holders 25 = .ok (.iload 6, 2) := by decide +kernel
theorem dL_holders_27 : decode cL_holders 27 = .ok (.ifCond .eq 206, 3) := by decide +kernel
theorem dL_holders_30 : decode cL_holders 30 = .ok (.aload_n 0, 1) := by decide +kernel
theorem dL_holders_31 : decode cL_holders 31 = .ok (.iload 7, 2) := by decide +kernel
theorem dL_holders_33 : decode cL_holders 33 = .ok (.iconst 3, 1) := by decide +kernel
theorem dL_holders_34 : decode cL_holders 34 = .ok (.invokevirtual 85, 3) := by decide +kernel
theorem dL_holders_37 : decode cL_holders 37 = .ok (.istore 8, 2) := by decide +kernel
theorem dL_holders_39 : decode cL_holders 39 = .ok (.iload 8, 2) := by decide +kernel
theorem dL_holders_41 : decode cL_holders 41 = .ok (.iconst (-1), 1) := by decide +kernel
theorem dL_holders_42 : decode cL_holders 42 = .ok (.if_icmp .ne 7, 3) := by decide +kernel
theorem dL_holders_45 : decode cL_holders 45 = .ok (.iconst 1, 1) := by decide +kernel
theorem dL_holders_46 : decode cL_holders 46 = .ok (.goto 4, 3) := by decide +kernel
theorem dL_holders_49 : decode cL_holders 49 = .ok (.iconst 0, 1) := by decide +kernel
theorem dL_holders_50 : decode cL_holders 50 = .ok (.aload_n 0, 1) := by decide +kernel
theorem dL_holders_51 : decode cL_holders 51 = .ok (.iload 7, 2) := by decide +kernel
theorem dL_holders_53 : decode cL_holders 53 = .ok (.iconst 0, 1) := by decide +kernel
theorem dL_holders_54 : decode cL_holders 54 = .ok (.invokevirtual 85, 3) := by decide +kernel
theorem dL_holders_57 : decode cL_holders 57 = .ok (.aload_n 0, 1) := by decide +kernel
theorem dL_holders_58 : decode cL_holders 58 = .ok (.iload 7, 2) := by decide +kernel
theorem dL_holders_60 : decode cL_holders 60 = .ok (.iconst 1, 1) := by decide +kernel
theorem dL_holders_61 : decode cL_holders 61 = .ok (.invokevirtual 85, 3) := by decide +kernel
theorem dL_holders_64 : decode cL_holders 64 = .ok (.iadd, 1) := by decide +kernel
theorem dL_holders_65 : decode cL_holders 65 = .ok (.ifCond .ne 7, 3) := by decide +kernel
theorem dL_holders_68 : decode cL_holders 68 = .ok (.iconst 1, 1) := by decide +kernel
theorem dL_holders_69 : decode cL_holders 69 = .ok (.goto 4, 3) := by decide +kernel
theorem dL_holders_72 : decode cL_holders 72 = .ok (.iconst 0, 1) := by decide +kernel
theorem dL_holders_73 : decode cL_holders 73 = .ok (.if_icmp .ne 25, 3) := by decide +kernel
theorem dL_holders_76 : decode cL_holders 76 = .ok (.iload 8, 2) := by decide +kernel
theorem dL_holders_78 : decode cL_holders 78 = .ok (.iconst (-1), 1) := by decide +kernel
theorem dL_holders_79 : decode cL_holders 79 = .ok (.if_icmp .eq 15, 3) := by decide +kernel
theorem dL_holders_82 : decode cL_holders 82 = .ok (.aload_n 0, 1) := by decide +kernel
theorem dL_holders_83 : decode cL_holders 83 = .ok (.iload 8, 2) := by decide +kernel
theorem dL_holders_85 : decode cL_holders 85 = .ok (.iconst 1, 1) := by decide +kernel
theorem dL_holders_86 : decode cL_holders 86 = .ok (.invokevirtual 76, 3) := by decide +kernel
theorem dL_holders_89 : decode cL_holders 89 = .ok (.iload 7, 2) := by decide +kernel
theorem dL_holders_91 : decode cL_holders 91 = .ok (.if_icmp .ne 7, 3) := by decide +kernel
theorem dL_holders_94 : decode cL_holders 94 = .ok (.iconst 1, 1) := by decide +kernel
theorem dL_holders_95 : decode cL_holders 95 = .ok (.goto 4, 3) := by decide +kernel
theorem dL_holders_98 : decode cL_holders 98 = .ok (.iconst 0, 1) := by decide +kernel
theorem dL_holders_99 : decode cL_holders 99 = .ok (.istore 6, 2) := by decide +kernel
theorem dL_holders_101 : decode cL_holders 101 = .ok (.iload 6, 2) := by decide +kernel
theorem dL_holders_103 : decode cL_holders 103 = .ok (.ifCond .eq 66, 3) := by decide +kernel
theorem dL_holders_106 : decode cL_holders 106 = .ok (.aload_n 0, 1) := by decide +kernel
theorem dL_holders_107 : decode cL_holders 107 = .ok (.iload 7, 2) := by decide +kernel
theorem dL_holders_109 : decode cL_holders 109 = .ok (.iconst 4, 1) := by decide +kernel
theorem dL_holders_110 : decode cL_holders 110 = .ok (.invokevirtual 85, 3) := by decide +kernel
theorem dL_holders_113 : decode cL_holders 113 = .ok (.iconst (-1), 1) := by decide +kernel
theorem dL_holders_114 : decode cL_holders 114 = .ok (.if_icmp .ne 7, 3) := by decide +kernel
theorem dL_holders_117 : decode cL_holders 117 = .ok (.iconst 1, 1) := by decide +kernel
theorem dL_holders_118 : decode cL_holders 118 = .ok (.goto 4, 3) := by decide +kernel
theorem dL_holders_121 : decode cL_holders 121 = .ok (.iconst 0, 1) := by decide +kernel
theorem dL_holders_122 : decode cL_holders 122 = .ok (.aload_n 0, 1) := by decide +kernel
theorem dL_holders_123 : decode cL_holders 123 = .ok (.iload 7, 2) := by decide +kernel
theorem dL_holders_125 : decode cL_holders 125 = .ok (.iconst 0, 1) := by decide +kernel
theorem dL_holders_126 : decode cL_holders 126 = .ok (.invokevirtual 85, 3) := by decide +kernel
theorem dL_holders_129 : decode cL_holders 129 = .ok (.ifCond .ne 7, 3) := by decide +kernel
theorem dL_holders_132 : decode cL_holders 132 = .ok (.iconst 1, 1) := by decide +kernel
theorem dL_holders_133 : decode cL_holders 133 = .ok (.goto 4, 3) := by decide +kernel
theorem dL_holders_136 : decode cL_holders 136 = .ok (.iconst 0, 1) := by decide +kernel
theorem dL_holders_137 : decode cL_holders 137 = .ok (.if_icmp .ne 32, 3) := by decide +kernel
theorem dL_holders_140 : decode cL_holders 140 = .ok (.aload_n 0, 1) := by decide +kernel
theorem dL_holders_141 : decode cL_holders 141 = .ok (.iload 7, 2) := by decide +kernel
theorem dL_holders_143 : decode cL_holders 143 = .ok (.iconst 0, 1) := by decide +kernel
theorem dL_holders_144 : decode cL_holders 144 = .ok (.invokevirtual 85, 3) := by decide +kernel
theorem dL_holders_147 : decode cL_holders 147 = .ok (.ifCond .eq 18, 3) := by decide +kernel
theorem dL_holders_150 : decode cL_holders 150 = .ok (.aload_n 0, 1) := by decide +kernel
theorem dL_holders_151 : decode cL_holders 151 = .ok (.iload 7, 2) := by decide +kernel
theorem dL_holders_153 : decode cL_holders 153 = .ok (.iconst 4, 1) := by decide +kernel
theorem dL_holders_154 : decode cL_holders 154 = .ok (.invokevirtual 85, 3) := by decide +kernel
theorem dL_holders_157 : decode cL_holders 157 = .ok (.aload_n 0, 1) := by decide +kernel
theorem dL_holders_158 : decode cL_holders 158 = .ok (.iconst 0, 1) := by decide +kernel
theorem dL_holders_159 : decode cL_holders 159 = .ok (.invokevirtual 73, 3) := by decide +kernel
theorem dL_holders_162 : decode cL_holders 162 = .ok (.if_icmp .le 7, 3) := by decide +kernel
theorem dL_holders_165 : decode cL_holders 165 = .ok (.iconst 1, 1) := by decide +kernel
theorem dL_holders_166 : decode cL_holders 166 = .ok (.goto 4, 3) := by decide +kernel
theorem dL_holders_169 : decode cL_holders 169 = .ok (.iconst 0, 1) := by decide +kernel
theorem dL_holders_170 : decode cL_holders 170 = .ok (.istore 6, 2) := by decide +kernel
theorem dL_holders_172 : decode cL_holders 172 = .ok (.iload_n 1, 1) := by decide +kernel
theorem dL_holders_173 : decode cL_holders 173 = .ok (.aload_n 0, 1) := by decide +kernel
theorem dL_holders_174 : decode cL_holders 174 = .ok (.iload 7, 2) := by decide +kernel
theorem dL_holders_176 : decode cL_holders 176 = .ok (.iconst 0, 1) := by decide +kernel
theorem dL_holders_177 : decode cL_holders 177 = .ok (.invokevirtual 85, 3) := by decide +kernel
theorem dL_holders_180 : decode cL_holders 180 = .ok (.iadd, 1) := by decide +kernel
theorem dL_holders_181 : decode cL_holders 181 = .ok (.istore_n 1, 1) := by decide +kernel
theorem dL_holders_182 : decode cL_holders 182 = .ok (.iload_n 2, 1) := by decide +kernel
theorem dL_holders_183 : decode cL_holders 183 = .ok (.aload_n 0, 1) := by decide +kernel
theorem dL_holders_184 : decode cL_holders 184 = .ok (.iload 7, 2) := by decide +kernel
theorem dL_holders_186 : decode cL_holders 186 = .ok (.iconst 1, 1) := by decide +kernel
theorem dL_holders_187 : decode cL_holders 187 = .ok (.invokevirtual 85, 3) := by decide +kernel
theorem dL_holders_190 : decode cL_holders 190 = .ok (.iadd, 1) := by decide +kernel
theorem dL_holders_191 : decode cL_holders 191 = .ok (.istore_n 2, 1) := by decide +kernel
theorem dL_holders_192 : decode cL_holders 192 = .ok (.iload_n 3, 1) := by decide +kernel
theorem dL_holders_193 : decode cL_holders 193 = .ok (.aload_n 0, 1) := by decide +kernel
theorem dL_holders_194 : decode cL_holders 194 = .ok (.iload 7, 2) := by decide +kernel
theorem dL_holders_196 : decode cL_holders 196 = .ok (.iconst 2, 1) := by decide +kernel
theorem dL_holders_197 : decode cL_holders 197 = .ok (.invokevirtual 85, 3) := by decide +kernel
theorem dL_holders_200 : decode cL_holders 200 = .ok (.iadd, 1) := by decide +kernel
theorem dL_holders_201 : decode cL_holders 201 = .ok (.istore_n 3, 1) := by decide +kernel
theorem dL_holders_202 : decode cL_holders 202 = .ok (.iload 4, 2) := by decide +kernel
theorem dL_holders_204 : decode cL_holders 204 = .ok (.aload_n 0, 1) := by decide +kernel
theorem dL_holders_205 : decode cL_holders 205 = .ok (.iload 7, 2) := by decide +kernel
theorem dL_holders_207 : decode cL_holders 207 = .ok (.iconst 5, 1) := by decide +kernel
theorem dL_holders_208 : decode cL_holders 208 = .ok (.invokevirtual 85, 3) := by decide +kernel
theorem dL_holders_211 : decode cL_holders 211 = .ok (.iadd, 1) := by decide +kernel
theorem dL_holders_212 : decode cL_holders 212 = .ok (.istore 4, 2) := by decide +kernel
theorem dL_holders_214 : decode cL_holders 214 = .ok (.iload 5, 2) := by decide +kernel
theorem dL_holders_216 : decode cL_holders 216 = .ok (.aload_n 0, 1) := by decide +kernel
theorem dL_holders_217 : decode cL_holders 217 = .ok (.iload 7, 2) := by decide +kernel
theorem dL_holders_219 : decode cL_holders 219 = .ok (.bipush 6, 2) := by decide +kernel
theorem dL_holders_221 : decode cL_holders 221 = .ok (.invokevirtual 85, 3) := by decide +kernel
theorem dL_holders_224 : decode cL_holders 224 = .ok (.iadd, 1) := by decide +kernel
theorem dL_holders_225 : decode cL_holders 225 = .ok (.istore 5, 2) := by decide +kernel
theorem dL_holders_227 : decode cL_holders 227 = .ok (.iinc 7 1, 3) := by decide +kernel
theorem dL_holders_230 : decode cL_holders 230 = .ok (.goto (-212), 3) := by decide +kernel
theorem dL_holders_233 : decode cL_holders 233 = .ok (.iload 6, 2) := by decide +kernel
theorem dL_holders_235 : decode cL_holders 235 = .ok (.ifCond .eq 55, 3) := by decide +kernel
theorem dL_holders_238 : decode cL_holders 238 = .ok (.iload_n 1, 1) := by decide +kernel
theorem dL_holders_239 : decode cL_holders 239 = .ok (.aload_n 0, 1) := by decide +kernel
theorem dL_holders_240 : decode cL_holders 240 = .ok (.iconst 2, 1) := by decide +kernel
theorem dL_holders_241 : decode cL_holders 241 = .ok (.invokevirtual 73, 3) := by decide +kernel
theorem dL_holders_244 : decode cL_holders 244 = .ok (.if_icmp .ne 46, 3) := by decide +kernel
theorem dL_holders_247 : decode cL_holders 247 = .ok (.iload_n 2, 1) := by decide +kernel
theorem dL_holders_248 : decode cL_holders 248 = .ok (.aload_n 0, 1) := by decide +kernel
theorem dL_holders_249 : decode cL_holders 249 = .ok (.iconst 3, 1) := by decide +kernel
theorem dL_holders_250 : decode cL_holders 250 = .ok (.invokevirtual 73, 3) := by decide +kernel
theorem dL_holders_253 : decode cL_holders 253 = .ok (.if_icmp .ne 37, 3) := by decide +kernel
theorem dL_holders_256 : decode cL_holders 256 = .ok (.iload_n 3, 1) := by decide +kernel
theorem dL_holders_257 : decode cL_holders 257 = .ok (.aload_n 0, 1) := by decide +kernel
theorem dL_holders_258 : decode cL_holders 258 = .ok (.iconst 4, 1) := by decide +kernel
theorem dL_holders_259 : decode cL_holders 259 = .ok (.invokevirtual 73, 3) := by decide +kernel
theorem dL_holders_262 : decode cL_holders 262 = .ok (.if_icmp .ne 28, 3) := by decide +kernel
theorem dL_holders_265 : decode cL_holders 265 = .ok (.iload 4, 2) := by decide +kernel
theorem dL_holders_267 : decode cL_holders 267 = .ok (.aload_n 0, 1) := by decide +kernel
theorem dL_holders_268 : decode cL_holders 268 = .ok (.iconst 5, 1) := by decide +kernel
theorem dL_holders_269 : decode cL_holders 269 = .ok (.invokevirtual 73, 3) := by decide +kernel
theorem dL_holders_272 : decode cL_holders 272 = .ok (.if_icmp .ne 18, 3) := by decide +kernel
theorem dL_holders_275 : decode cL_holders 275 = .ok (.iload 5, 2) := by decide +kernel
theorem dL_holders_277 : decode cL_holders 277 = .ok (.aload_n 0, 1) := by decide +kernel
theorem dL_holders_278 : decode cL_holders 278 = .ok (.bipush 9, 2) := by decide +kernel
theorem dL_holders_280 : decode cL_holders 280 = .ok (.invokevirtual 73, 3) := by decide +kernel
theorem dL_holders_283 : decode cL_holders 283 = .ok (.if_icmp .ne 7, 3) := by decide +kernel
theorem dL_holders_286 : decode cL_holders 286 = .ok (.iconst 1, 1) := by decide +kernel
theorem dL_holders_287 : decode cL_holders 287 = .ok (.goto 4, 3) := by decide +kernel
theorem dL_holders_290 : decode cL_holders 290 = .ok (.iconst 0, 1) := by decide +kernel
theorem dL_holders_291 : decode cL_holders 291 = .ok (.ireturn, 1) := by decide +kernel
theorem dL_spans_0 : decode cL_spans 0 = .ok (.aload_n 0, 1) := by decide +kernel
theorem dL_spans_1 : decode cL_spans 1 = .ok (.bipush 10, 2) := by decide +kernel
theorem dL_spans_3 : decode cL_spans 3 = .ok (.invokevirtual 73, 3) := by decide +kernel
theorem dL_spans_6 : decode cL_spans 6 = .ok (.istore_n 1, 1) := by decide +kernel
theorem dL_spans_7 : decode cL_spans 7 = .ok (.iconst 0, 1) := by decide +kernel
theorem dL_spans_8 : decode cL_spans 8 = .ok (.istore_n 2, 1) := by decide +kernel
theorem dL_spans_9 : decode cL_spans 9 = .ok (.iconst 0, 1) := by decide +kernel
theorem dL_spans_10 : decode cL_spans 10 = .ok (.istore_n 3, 1) := by decide +kernel
theorem dL_spans_11 : decode cL_spans 11 = .ok (.iconst (-1), 1) := by decide +kernel
theorem dL_spans_12 : decode cL_spans 12 = .ok (.istore 4, 2) := by decide +kernel
theorem dL_spans_14 : decode cL_spans 14 = .ok (.iconst 1, 1) := by decide +kernel
theorem dL_spans_15 : decode cL_spans 15 = .ok (.istore 5, 2) := by decide +kernel
theorem dL_spans_17 : decode cL_spans 17 = .ok (.iconst 0, 1) := by decide +kernel
theorem dL_spans_18 : decode cL_spans 18 = .ok (.istore 6, 2) := by decide +kernel
theorem dL_spans_20 : decode cL_spans 20 = .ok (.iload 6, 2) := by decide +kernel
theorem dL_spans_22 : decode cL_spans 22 = .ok (.iload_n 1, 1) := by decide +kernel
theorem dL_spans_23 : decode cL_spans 23 = .ok (.if_icmp .ge 133, 3) := by decide +kernel
theorem dL_spans_26 : decode cL_spans 26 = .ok (.iload 5, 2) := by decide +kernel
theorem dL_spans_28 : decode cL_spans 28 = .ok (.ifCond .eq 128, 3) := by decide +kernel
theorem dL_spans_31 : decode cL_spans 31 = .ok (.aload_n 0, 1) := by decide +kernel
theorem dL_spans_32 : decode cL_spans 32 = .ok (.iload 6, 2) := by decide +kernel
theorem dL_spans_34 : decode cL_spans 34 = .ok (.iconst 0, 1) := by decide +kernel
theorem dL_spans_35 : decode cL_spans 35 = .ok (.invokevirtual 88, 3) := by decide +kernel
theorem dL_spans_38 : decode cL_spans 38 = .ok (.istore 7, 2) := by decide +kernel
theorem dL_spans_40 : decode cL_spans 40 = .ok (.aload_n 0, 1) := by decide +kernel
theorem dL_spans_41 : decode cL_spans 41 = .ok (.iload 6, 2) := by decide +kernel
theorem dL_spans_43 : decode cL_spans 43 = .ok (.iconst 1, 1) := by decide +kernel
theorem dL_spans_44 : decode cL_spans 44 = .ok (.invokevirtual 88, 3) := by decide +kernel
theorem dL_spans_47 : decode cL_spans 47 = .ok (.istore 8, 2) := by decide +kernel
theorem dL_spans_49 : decode cL_spans 49 = .ok (.iload 7, 2) := by decide +kernel
theorem dL_spans_51 : decode cL_spans 51 = .ok (.iload 4, 2) := by decide +kernel
theorem dL_spans_53 : decode cL_spans 53 = .ok (.if_icmp .le 37, 3) := by decide +kernel
theorem dL_spans_56 : decode cL_spans 56 = .ok (.iload 8, 2) := by decide +kernel
theorem dL_spans_58 : decode cL_spans 58 = .ok (.ifCond .le 32, 3) := by decide +kernel
theorem dL_spans_61 : decode cL_spans 61 = .ok (.aload_n 0, 1) := by decide +kernel
theorem dL_spans_62 : decode cL_spans 62 = .ok (.iload 7, 2) := by decide +kernel
theorem dL_spans_64 : decode cL_spans 64 = .ok (.iconst 0, 1) := by decide +kernel
theorem dL_spans_65 : decode cL_spans 65 = .ok (.invokevirtual 76, 3) := by decide +kernel
theorem dL_spans_68 : decode cL_spans 68 = .ok (.ifCond .ne 22, 3) := by decide +kernel
theorem dL_spans_71 : decode cL_spans 71 = .ok (.aload_n 0, 1) := by decide +kernel
theorem dL_spans_72 : decode cL_spans 72 = .ok (.iload 7, 2) := by decide +kernel
theorem dL_spans_74 : decode cL_spans 74 = .ok (.iload 8, 2) := by decide +kernel
theorem dL_spans_76 : decode cL_spans 76 = .ok (.iadd, 1) := by decide +kernel
theorem dL_spans_77 : decode cL_spans 77 = .ok (.iconst 1, 1) := by decide +kernel
theorem dL_spans_78 : decode cL_spans 78 = .ok (.isub, 1) := by decide +kernel
theorem dL_spans_79 : decode cL_spans 79 = .ok (.iconst 0, 1) := by decide +kernel
theorem dL_spans_80 : decode cL_spans 80 = .ok (.invokevirtual 76, 3) := by decide +kernel
theorem dL_spans_83 : decode cL_spans 83 = .ok (.ifCond .ne 7, 3) := by decide +kernel
theorem dL_spans_86 : decode cL_spans 86 = .ok (.iconst 1, 1) := by decide +kernel
theorem dL_spans_87 : decode cL_spans 87 = .ok (.goto 4, 3) := by decide +kernel
theorem dL_spans_90 : decode cL_spans 90 = .ok (.iconst 0, 1) := by decide +kernel
theorem dL_spans_91 : decode cL_spans 91 = .ok (.istore 5, 2) := by decide +kernel
theorem dL_spans_93 : decode cL_spans 93 = .ok (.iload 7, 2) := by decide +kernel
theorem dL_spans_95 : decode cL_spans 95 = .ok (.iload 8, 2) := by decide +kernel
theorem dL_spans_97 : decode cL_spans 97 = .ok (.iadd, 1) := by decide +kernel
theorem dL_spans_98 : decode cL_spans 98 = .ok (.istore 4, 2) := by decide +kernel
theorem dL_spans_100 : decode cL_spans 100 = .ok (.iload 5, 2) := by decide +kernel
theorem dL_spans_102 : decode cL_spans 102 = .ok (.ifCond .eq 27, 3) := by decide +kernel
theorem dL_spans_105 : decode cL_spans 105 = .ok (.iload 4, 2) := by decide +kernel
theorem dL_spans_107 : decode cL_spans 107 = .ok (.aload_n 0, 1) := by decide +kernel
theorem dL_spans_108 : decode cL_spans 108 = .ok (.iconst 3, 1) := by decide +kernel
theorem dL_spans_109 : decode cL_spans 109 = .ok (.invokevirtual 37, 3) := by decide +kernel
theorem dL_spans_112 : decode cL_spans 112 = .ok (.if_icmp .eq 13, 3) := by decide +kernel
theorem dL_spans_115 : decode cL_spans 115 = .ok (.aload_n 0, 1) := by decide +kernel
theorem dL_spans_116 : decode cL_spans 116 = .ok (.iload 4, 2) := by decide +kernel
theorem dL_spans_118 : decode cL_spans 118 = .ok (.iconst 0, 1) := by decide +kernel
theorem dL_spans_119 : decode cL_spans 119 = .ok (.invokevirtual 76, 3) := by decide +kernel
theorem dL_spans_122 : decode cL_spans 122 = .ok (.ifCond .eq 7, 3) := by decide +kernel
theorem dL_spans_125 : decode cL_spans 125 = .ok (.iconst 1, 1) := by decide +kernel
theorem dL_spans_126 : decode cL_spans 126 = .ok (.goto 4, 3) := by decide +kernel
theorem dL_spans_129 : decode cL_spans 129 = .ok (.iconst 0, 1) := by decide +kernel
theorem dL_spans_130 : decode cL_spans 130 = .ok (.istore 5, 2) := by decide +kernel
theorem dL_spans_132 : decode cL_spans 132 = .ok (.iload_n 2, 1) := by decide +kernel
theorem dL_spans_133 : decode cL_spans 133 = .ok (.iload 8, 2) := by decide +kernel
theorem dL_spans_135 : decode cL_spans 135 = .ok (.iadd, 1) := by decide +kernel
theorem dL_spans_136 : decode cL_spans 136 = .ok (.istore_n 2, 1) := by decide +kernel
theorem dL_spans_137 : decode cL_spans 137 = .ok (.iload 8, 2) := by decide +kernel
theorem dL_spans_139 : decode cL_spans 139 = .ok (.iload_n 3, 1) := by decide +kernel
theorem dL_spans_140 : decode cL_spans 140 = .ok (.if_icmp .le 8, 3) := by decide +kernel
theorem dL_spans_143 : decode cL_spans 143 = .ok (.iload 8, 2) := by decide +kernel
theorem dL_spans_145 : decode cL_spans 145 = .ok (.goto 4, 3) := by decide +kernel
theorem dL_spans_148 : decode cL_spans 148 = .ok (.iload_n 3, 1) := by decide +kernel
theorem dL_spans_149 : decode cL_spans 149 = .ok (.istore_n 3, 1) := by decide +kernel
theorem dL_spans_150 : decode cL_spans 150 = .ok (.iinc 6 1, 3) := by decide +kernel
theorem dL_spans_153 : decode cL_spans 153 = .ok (.goto (-133), 3) := by decide +kernel
theorem dL_spans_156 : decode cL_spans 156 = .ok (.iload 5, 2) := by decide +kernel
theorem dL_spans_158 : decode cL_spans 158 = .ok (.ifCond .eq 36, 3) := by decide +kernel
theorem dL_spans_161 : decode cL_spans 161 = .ok (.iload_n 2, 1) := by decide +kernel
theorem dL_spans_162 : decode cL_spans 162 = .ok (.aload_n 0, 1) := by decide +kernel
theorem dL_spans_163 : decode cL_spans 163 = .ok (.iconst 1, 1) := by decide +kernel
theorem dL_spans_164 : decode cL_spans 164 = .ok (.invokevirtual 73, 3) := by decide +kernel
theorem dL_spans_167 : decode cL_spans 167 = .ok (.if_icmp .ne 27, 3) := by decide +kernel
theorem dL_spans_170 : decode cL_spans 170 = .ok (.iload_n 3, 1) := by decide +kernel
theorem dL_spans_171 : decode cL_spans 171 = .ok (.aload_n 0, 1) := by decide +kernel
theorem dL_spans_172 : decode cL_spans 172 = .ok (.bipush 11, 2) := by decide +kernel
theorem dL_spans_174 : decode cL_spans 174 = .ok (.invokevirtual 73, 3) := by decide +kernel
theorem dL_spans_177 : decode cL_spans 177 = .ok (.if_icmp .ne 17, 3) := by decide +kernel
theorem dL_spans_180 : decode cL_spans 180 = .ok (.aload_n 0, 1) := by decide +kernel
theorem dL_spans_181 : decode cL_spans 181 = .ok (.iload_n 1, 1) := by decide +kernel
theorem dL_spans_182 : decode cL_spans 182 = .ok (.iconst 0, 1) := by decide +kernel
theorem dL_spans_183 : decode cL_spans 183 = .ok (.invokevirtual 88, 3) := by decide +kernel
theorem dL_spans_186 : decode cL_spans 186 = .ok (.iconst (-1), 1) := by decide +kernel
theorem dL_spans_187 : decode cL_spans 187 = .ok (.if_icmp .ne 7, 3) := by decide +kernel
theorem dL_spans_190 : decode cL_spans 190 = .ok (.iconst 1, 1) := by decide +kernel
theorem dL_spans_191 : decode cL_spans 191 = .ok (.goto 4, 3) := by decide +kernel
theorem dL_spans_194 : decode cL_spans 194 = .ok (.iconst 0, 1) := by decide +kernel
theorem dL_spans_195 : decode cL_spans 195 = .ok (.istore 5, 2) := by decide +kernel
theorem dL_spans_197 : decode cL_spans 197 = .ok (.aload_n 0, 1) := by decide +kernel
theorem dL_spans_198 : decode cL_spans 198 = .ok (.iconst 1, 1) := by decide +kernel
theorem dL_spans_199 : decode cL_spans 199 = .ok (.invokevirtual 90, 3) := by decide +kernel
theorem dL_spans_202 : decode cL_spans 202 = .ok (.istore 6, 2) := by decide +kernel
theorem dL_spans_204 : decode cL_spans 204 = .ok (.iload 5, 2) := by decide +kernel
theorem dL_spans_206 : decode cL_spans 206 = .ok (.ifCond .eq 41, 3) := by decide +kernel
theorem dL_spans_209 : decode cL_spans 209 = .ok (.iload 6, 2) := by decide +kernel
theorem dL_spans_211 : decode cL_spans 211 = .ok (.ifCond .ne 7, 3) := by decide +kernel
theorem dL_spans_214 : decode cL_spans 214 = .ok (.iconst 1, 1) := by decide +kernel
theorem dL_spans_215 : decode cL_spans 215 = .ok (.goto 4, 3) := by decide +kernel
theorem dL_spans_218 : decode cL_spans 218 = .ok (.iconst 0, 1) := by decide +kernel
theorem dL_spans_219 : decode cL_spans 219 = .ok (.iload_n 2, 1) := by decide +kernel
theorem dL_spans_220 : decode cL_spans 220 = .ok (.ifCond .le 7, 3) := by decide +kernel
theorem dL_spans_223 : decode cL_spans 223 = .ok (.iconst 1, 1) := by decide +kernel
theorem dL_spans_224 : decode cL_spans 224 = .ok (.goto 4, 3) := by decide +kernel
theorem dL_spans_227 : decode cL_spans 227 = .ok (.iconst 0, 1) := by decide +kernel
theorem dL_spans_228 : decode cL_spans 228 = .ok (.if_icmp .ne 19, 3) := by decide +kernel
theorem dL_spans_231 : decode cL_spans 231 = .ok (.iload_n 2, 1) := by decide +kernel
theorem dL_spans_232 : decode cL_spans 232 = .ok (.ifCond .eq 11, 3) := by decide +kernel
theorem dL_spans_235 : decode cL_spans 235 = .ok (.aload_n 0, 1) := by decide +kernel
theorem dL_spans_236 : decode cL_spans 236 = .ok (.iload_n 2, 1) := by decide +kernel
theorem dL_spans_237 : decode cL_spans 237 = .ok (.invokevirtual 90, 3) := by decide +kernel
theorem dL_spans_240 : decode cL_spans 240 = .ok (.ifCond .ne 7, 3) := by decide +kernel
theorem dL_spans_243 : decode cL_spans 243 = .ok (.iconst 1, 1) := by decide +kernel
theorem dL_spans_244 : decode cL_spans 244 = .ok (.goto 4, 3) := by decide +kernel
theorem dL_spans_247 : decode cL_spans 247 = .ok (.iconst 0, 1) := by decide +kernel
theorem dL_spans_248 : decode cL_spans 248 = .ok (.ireturn, 1) := by decide +kernel
theorem dL_law_0 : decode cL_law 0 = .ok (.new 10, 3) := by decide +kernel
theorem dL_law_3 : decode cL_law 3 = .ok (.dup, 1) := by decide +kernel
theorem dL_law_4 : decode cL_law 4 = .ok (.invokespecial 93, 3) := by decide +kernel
theorem dL_law_7 : decode cL_law 7 = .ok (.astore_n 1, 1) := by decide +kernel
theorem dL_law_8 : decode cL_law 8 = .ok (.aload_n 1, 1) := by decide +kernel
theorem dL_law_9 : decode cL_law 9 = .ok (.iconst 3, 1) := by decide +kernel
theorem dL_law_10 : decode cL_law 10 = .ok (.iconst 4, 1) := by decide +kernel
theorem dL_law_11 : decode cL_law 11 = .ok (.aload_n 0, 1) := by decide +kernel
theorem dL_law_12 : decode cL_law 12 = .ok (.iconst 0, 1) := by decide +kernel
theorem dL_law_13 : decode cL_law 13 = .ok (.invokestatic 41, 3) := by decide +kernel
theorem dL_law_16 : decode cL_law 16 = .ok (.bipush 9, 2) := by decide +kernel
theorem dL_law_18 : decode cL_law 18 = .ok (.invokestatic 47, 3) := by decide +kernel
theorem dL_law_21 : decode cL_law 21 = .ok (.iadd, 1) := by decide +kernel
theorem dL_law_22 : decode cL_law 22 = .ok (.invokestatic 94, 3) := by decide +kernel
theorem dL_law_25 : decode cL_law 25 = .ok (.pop, 1) := by decide +kernel
theorem dL_law_26 : decode cL_law 26 = .ok (.aload_n 1, 1) := by decide +kernel
theorem dL_law_27 : decode cL_law 27 = .ok (.iconst 1, 1) := by decide +kernel
theorem dL_law_28 : decode cL_law 28 = .ok (.iconst 1, 1) := by decide +kernel
theorem dL_law_29 : decode cL_law 29 = .ok (.aload_n 0, 1) := by decide +kernel
theorem dL_law_30 : decode cL_law 30 = .ok (.iconst 1, 1) := by decide +kernel
theorem dL_law_31 : decode cL_law 31 = .ok (.invokestatic 41, 3) := by decide +kernel
theorem dL_law_34 : decode cL_law 34 = .ok (.iconst 5, 1) := by decide +kernel
theorem dL_law_35 : decode cL_law 35 = .ok (.invokestatic 47, 3) := by decide +kernel
theorem dL_law_38 : decode cL_law 38 = .ok (.iadd, 1) := by decide +kernel
theorem dL_law_39 : decode cL_law 39 = .ok (.invokestatic 94, 3) := by decide +kernel
theorem dL_law_42 : decode cL_law 42 = .ok (.pop, 1) := by decide +kernel
theorem dL_law_43 : decode cL_law 43 = .ok (.iconst 1, 1) := by decide +kernel
theorem dL_law_44 : decode cL_law 44 = .ok (.istore_n 2, 1) := by decide +kernel
theorem dL_law_45 : decode cL_law 45 = .ok (.aload_n 0, 1) := by decide +kernel
theorem dL_law_46 : decode cL_law 46 = .ok (.arraylength, 1) := by decide +kernel
theorem dL_law_47 : decode cL_law 47 = .ok (.iconst 4, 1) := by decide +kernel
theorem dL_law_48 : decode cL_law 48 = .ok (.idiv, 1) := by decide +kernel
theorem dL_law_49 : decode cL_law 49 = .ok (.bipush 26, 2) := by decide +kernel
theorem dL_law_51 : decode cL_law 51 = .ok (.if_icmp .le 8, 3) := by decide +kernel
theorem dL_law_54 : decode cL_law 54 = .ok (.bipush 26, 2) := by decide +kernel
theorem dL_law_56 : decode cL_law 56 = .ok (.goto 7, 3) := by decide +kernel
theorem dL_law_59 : decode cL_law 59 = .ok (.aload_n 0, 1) := by decide +kernel
theorem dL_law_60 : decode cL_law 60 = .ok (.arraylength, 1) := by decide +kernel
theorem dL_law_61 : decode cL_law 61 = .ok (.iconst 4, 1) := by decide +kernel
theorem dL_law_62 : decode cL_law 62 = .ok (.idiv, 1) := by decide +kernel
theorem dL_law_63 : decode cL_law 63 = .ok (.istore_n 3, 1) := by decide +kernel
theorem dL_law_64 : decode cL_law 64 = .ok (.iconst 1, 1) := by decide +kernel
theorem dL_law_65 : decode cL_law 65 = .ok (.istore 4, 2) := by decide +kernel
theorem dL_law_67 : decode cL_law 67 = .ok (.iload 4, 2) := by decide +kernel
theorem dL_law_69 : decode cL_law 69 = .ok (.iload_n 3, 1) := by decide +kernel
theorem dL_law_70 : decode cL_law 70 = .ok (.if_icmp .ge 253, 3) := by decide +kernel
theorem dL_law_73 : decode cL_law 73 = .ok (.iload_n 2, 1) := by decide +kernel
theorem dL_law_74 : decode cL_law 74 = .ok (.ifCond .eq 249, 3) := by decide +kernel
theorem dL_law_77 : decode cL_law 77 = .ok (.aload_n 0, 1) := by decide +kernel
theorem dL_law_78 : decode cL_law 78 = .ok (.iconst 4, 1) := by decide +kernel
theorem dL_law_79 : decode cL_law 79 = .ok (.iload 4, 2) := by decide +kernel
theorem dL_law_81 : decode cL_law 81 = .ok (.imul, 1) := by decide +kernel
theorem dL_law_82 : decode cL_law 82 = .ok (.invokestatic 41, 3) := by decide +kernel
theorem dL_law_85 : decode cL_law 85 = .ok (.bipush 12, 2) := by decide +kernel
theorem dL_law_87 : decode cL_law 87 = .ok (.invokestatic 47, 3) := by decide +kernel
theorem dL_law_90 : decode cL_law 90 = .ok (.istore 5, 2) := by decide +kernel
theorem dL_law_92 : decode cL_law 92 = .ok (.aload_n 1, 1) := by decide +kernel
theorem dL_law_93 : decode cL_law 93 = .ok (.iconst 0, 1) := by decide +kernel
theorem dL_law_94 : decode cL_law 94 = .ok (.iconst 0, 1) := by decide +kernel
theorem dL_law_95 : decode cL_law 95 = .ok (.invokevirtual 88, 3) := by decide +kernel
theorem dL_law_98 : decode cL_law 98 = .ok (.istore 6, 2) := by decide +kernel
theorem dL_law_100 : decode cL_law 100 = .ok (.aload_n 1, 1) := by decide +kernel
theorem dL_law_101 : decode cL_law 101 = .ok (.bipush 12, 2) := by decide +kernel
theorem dL_law_103 : decode cL_law 103 = .ok (.invokevirtual 73, 3) := by decide +kernel
theorem dL_law_106 : decode cL_law 106 = .ok (.istore 7, 2) := by decide +kernel
theorem dL_law_108 : decode cL_law 108 = .ok (.iconst 0, 1) := by decide +kernel
theorem dL_law_109 : decode cL_law 109 = .ok (.istore 8, 2) := by decide +kernel
theorem dL_law_111 : decode cL_law 111 = .ok (.iload 5, 2) := by decide +kernel
theorem dL_law_113 : decode cL_law 113 = .ok (.bipush 9, 2) := by decide +kernel
theorem dL_law_115 : decode cL_law 115 = .ok (.if_icmp .ne 12, 3) := by decide +kernel
theorem dL_law_118 : decode cL_law 118 = .ok (.aload_n 1, 1) := by decide +kernel
theorem dL_law_119 : decode cL_law 119 = .ok (.invokestatic 96, 3) := by decide +kernel
theorem dL_law_122 : decode cL_law 122 = .ok (.istore 8, 2) := by decide +kernel
theorem dL_law_124 : decode cL_law 124 = .ok (.goto 146, 3) := by decide +kernel
theorem dL_law_127 : decode cL_law 127 = .ok (.iload 5, 2) := by decide +kernel
theorem dL_law_129 : decode cL_law 129 = .ok (.bipush 10, 2) := by decide +kernel
theorem dL_law_131 : decode cL_law 131 = .ok (.if_icmp .ne 41, 3) := by decide +kernel
theorem dL_law_134 : decode cL_law 134 = .ok (.aload_n 1, 1) := by decide +kernel
theorem dL_law_135 : decode cL_law 135 = .ok (.aload_n 0, 1) := by decide +kernel
theorem dL_law_136 : decode cL_law 136 = .ok (.iconst 4, 1) := by decide +kernel
theorem dL_law_137 : decode cL_law 137 = .ok (.iload 4, 2) := by decide +kernel
theorem dL_law_139 : decode cL_law 139 = .ok (.imul, 1) := by decide +kernel
theorem dL_law_140 : decode cL_law 140 = .ok (.iconst 1, 1) := by decide +kernel
theorem dL_law_141 : decode cL_law 141 = .ok (.iadd, 1) := by decide +kernel
theorem dL_law_142 : decode cL_law 142 = .ok (.invokestatic 41, 3) := by decide +kernel
theorem dL_law_145 : decode cL_law 145 = .ok (.iconst 3, 1) := by decide +kernel
theorem dL_law_146 : decode cL_law 146 = .ok (.invokestatic 47, 3) := by decide +kernel
theorem dL_law_149 : decode cL_law 149 = .ok (.aload_n 0, 1) := by decide +kernel
theorem dL_law_150 : decode cL_law 150 = .ok (.iconst 4, 1) := by decide +kernel
theorem dL_law_151 : decode cL_law 151 = .ok (.iload 4, 2) := by decide +kernel
theorem dL_law_153 : decode cL_law 153 = .ok (.imul, 1) := by decide +kernel
theorem dL_law_154 : decode cL_law 154 = .ok (.iconst 2, 1) := by decide +kernel
theorem dL_law_155 : decode cL_law 155 = .ok (.iadd, 1) := by decide +kernel
theorem dL_law_156 : decode cL_law 156 = .ok (.invokestatic 41, 3) := by decide +kernel
theorem dL_law_159 : decode cL_law 159 = .ok (.bipush 8, 2) := by decide +kernel
theorem dL_law_161 : decode cL_law 161 = .ok (.invokestatic 47, 3) := by decide +kernel
theorem dL_law_164 : decode cL_law 164 = .ok (.invokestatic 94, 3) := by decide +kernel
theorem dL_law_167 : decode cL_law 167 = .ok (.istore 8, 2) := by decide +kernel
theorem dL_law_169 : decode cL_law 169 = .ok (.goto 101, 3) := by decide +kernel
theorem dL_law_172 : decode cL_law 172 = .ok (.iload 5, 2) := by decide +kernel
theorem dL_law_174 : decode cL_law 174 = .ok (.bipush 11, 2) := by decide +kernel
theorem dL_law_176 : decode cL_law 176 = .ok (.if_icmp .ne 83, 3) := by decide +kernel
theorem dL_law_179 : decode cL_law 179 = .ok (.aload_n 1, 1) := by decide +kernel
theorem dL_law_180 : decode cL_law 180 = .ok (.iconst 1, 1) := by decide +kernel
theorem dL_law_181 : decode cL_law 181 = .ok (.invokevirtual 73, 3) := by decide +kernel
theorem dL_law_184 : decode cL_law 184 = .ok (.istore 9, 2) := by decide +kernel
theorem dL_law_186 : decode cL_law 186 = .ok (.aload_n 1, 1) := by decide +kernel
theorem dL_law_187 : decode cL_law 187 = .ok (.aload_n 0, 1) := by decide +kernel
theorem dL_law_188 : decode cL_law 188 = .ok (.iconst 4, 1) := by decide +kernel
theorem dL_law_189 : decode cL_law 189 = .ok (.iload 4, 2) := by decide +kernel
theorem dL_law_191 : decode cL_law 191 = .ok (.imul, 1) := by decide +kernel
theorem dL_law_192 : decode cL_law 192 = .ok (.iconst 1, 1) := by decide +kernel
theorem dL_law_193 : decode cL_law 193 = .ok (.iadd, 1) := by decide +kernel
theorem dL_law_194 : decode cL_law 194 = .ok (.invokestatic 41, 3) := by decide +kernel
theorem dL_law_197 : decode cL_law 197 = .ok (.bipush 8, 2) := by decide +kernel
theorem dL_law_199 : decode cL_law 199 = .ok (.invokestatic 47, 3) := by decide +kernel
theorem dL_law_202 : decode cL_law 202 = .ok (.iconst 1, 1) := by decide +kernel
theorem dL_law_203 : decode cL_law 203 = .ok (.aload_n 0, 1) := by decide +kernel
theorem dL_law_204 : decode cL_law 204 = .ok (.iconst 4, 1) := by decide +kernel
theorem dL_law_205 : decode cL_law 205 = .ok (.iload 4, 2) := by decide +kernel
theorem dL_law_207 : decode cL_law 207 = .ok (.imul, 1) := by decide +kernel
theorem dL_law_208 : decode cL_law 208 = .ok (.iconst 2, 1) := by decide +kernel
theorem dL_law_209 : decode cL_law 209 = .ok (.iadd, 1) := by decide +kernel
theorem dL_law_210 : decode cL_law 210 = .ok (.invokestatic 41, 3) := by decide +kernel
theorem dL_law_213 : decode cL_law 213 = .ok (.bipush 40, 2) := by decide +kernel
theorem dL_law_215 : decode cL_law 215 = .ok (.invokestatic 47, 3) := by decide +kernel
theorem dL_law_218 : decode cL_law 218 = .ok (.iadd, 1) := by decide +kernel
theorem dL_law_219 : decode cL_law 219 = .ok (.invokestatic 50, 3) := by decide +kernel
theorem dL_law_222 : decode cL_law 222 = .ok (.istore 8, 2) := by decide +kernel
theorem dL_law_224 : decode cL_law 224 = .ok (.iload 8, 2) := by decide +kernel
theorem dL_law_226 : decode cL_law 226 = .ok (.bipush (-3), 2) := by decide +kernel
theorem dL_law_228 : decode cL_law 228 = .ok (.if_icmp .eq 22, 3) := by decide +kernel
theorem dL_law_231 : decode cL_law 231 = .ok (.iload 8, 2) := by decide +kernel
theorem dL_law_233 : decode cL_law 233 = .ok (.iload 6, 2) := by decide +kernel
theorem dL_law_235 : decode cL_law 235 = .ok (.if_icmp .ne 19, 3) := by decide +kernel
theorem dL_law_238 : decode cL_law 238 = .ok (.aload_n 1, 1) := by decide +kernel
theorem dL_law_239 : decode cL_law 239 = .ok (.iconst 1, 1) := by decide +kernel
theorem dL_law_240 : decode cL_law 240 = .ok (.invokevirtual 73, 3) := by decide +kernel
theorem dL_law_243 : decode cL_law 243 = .ok (.iload 9, 2) := by decide +kernel
theorem dL_law_245 : decode cL_law 245 = .ok (.iconst 1, 1) := by decide +kernel
theorem dL_law_246 : decode cL_law 246 = .ok (.isub, 1) := by decide +kernel
theorem dL_law_247 : decode cL_law 247 = .ok (.if_icmp .ne 7, 3) := by decide +kernel
theorem dL_law_250 : decode cL_law 250 = .ok (.iconst 1, 1) := by decide +kernel
theorem dL_law_251 : decode cL_law 251 = .ok (.goto 4, 3) := by decide +kernel
theorem dL_law_254 : decode cL_law 254 = .ok (.iconst 0, 1) := by decide +kernel
theorem dL_law_255 : decode cL_law 255 = .ok (.istore_n 2, 1) := by decide +kernel
theorem dL_law_256 : decode cL_law 256 = .ok (.goto 14, 3) := by decide +kernel
theorem dL_law_259 : decode cL_law 259 = .ok (.aload_n 1, 1) := by decide +kernel
theorem dL_law_260 : decode cL_law 260 = .ok (.aload_n 0, 1) := by decide +kernel
theorem dL_law_261 : decode cL_law 261 = .ok (.iconst 4, 1) := by decide +kernel
theorem dL_law_262 : decode cL_law 262 = .ok (.iload 4, 2) := by decide +kernel
theorem dL_law_264 : decode cL_law 264 = .ok (.imul, 1) := by decide +kernel
theorem dL_law_265 : decode cL_law 265 = .ok (.invokestatic 99, 3) := by decide +kernel
theorem dL_law_268 : decode cL_law 268 = .ok (.istore 8, 2) := by decide +kernel
theorem dL_law_270 : decode cL_law 270 = .ok (.iload_n 2, 1) := by decide +kernel
theorem dL_law_271 : decode cL_law 271 = .ok (.ifCond .eq 44, 3) := by decide +kernel
theorem dL_law_274 : decode cL_law 274 = .ok (.iload 8, 2) := by decide +kernel
theorem dL_law_276 : decode cL_law 276 = .ok (.ifCond .ge 14, 3) := by decide +kernel
theorem dL_law_279 : decode cL_law 279 = .ok (.aload_n 1, 1) := by decide +kernel
theorem dL_law_280 : decode cL_law 280 = .ok (.bipush 12, 2) := by decide +kernel
theorem dL_law_282 : decode cL_law 282 = .ok (.invokevirtual 73, 3) := by decide +kernel
theorem dL_law_285 : decode cL_law 285 = .ok (.iload 7, 2) := by decide +kernel
theorem dL_law_287 : decode cL_law 287 = .ok (.if_icmp .ne 28, 3) := by decide +kernel
theorem dL_law_290 : decode cL_law 290 = .ok (.aload_n 1, 1) := by decide +kernel
theorem dL_law_291 : decode cL_law 291 = .ok (.invokestatic 103, 3) := by decide +kernel
theorem dL_law_294 : decode cL_law 294 = .ok (.ifCond .eq 21, 3) := by decide +kernel
theorem dL_law_297 : decode cL_law 297 = .ok (.aload_n 1, 1) := by decide +kernel
theorem dL_law_298 : decode cL_law 298 = .ok (.invokestatic 107, 3) := by decide +kernel
theorem dL_law_301 : decode cL_law 301 = .ok (.ifCond .eq 14, 3) := by decide +kernel
theorem dL_law_304 : decode cL_law 304 = .ok (.aload_n 1, 1) := by decide +kernel
theorem dL_law_305 : decode cL_law 305 = .ok (.invokestatic 110, 3) := by decide +kernel
theorem dL_law_308 : decode cL_law 308 = .ok (.ifCond .eq 7, 3) := by decide +kernel
theorem dL_law_311 : decode cL_law 311 = .ok (.iconst 1, 1) := by decide +kernel
theorem dL_law_312 : decode cL_law 312 = .ok (.goto 4, 3) := by decide +kernel
theorem dL_law_315 : decode cL_law 315 = .ok (.iconst 0, 1) := by decide +kernel
theorem dL_law_316 : decode cL_law 316 = .ok (.istore_n 2, 1) := by decide +kernel
theorem dL_law_317 : decode cL_law 317 = .ok (.iinc 4 1, 3) := by decide +kernel
theorem dL_law_320 : decode cL_law 320 = .ok (.goto (-253), 3) := by decide +kernel
theorem dL_law_323 : decode cL_law 323 = .ok (.iload_n 2, 1) := by decide +kernel
theorem dL_law_324 : decode cL_law 324 = .ok (.ireturn, 1) := by decide +kernel
end
section
def gw : List Cond := lw_tbl.filter goodWord
theorem gw_of {w : Cond} (i : Nat) (h : lw_tbl[i]? = some w) (g : goodWord w = true) : w ∈ gw := List.mem_filter.mpr ⟨List.mem_of_getElem? h, g⟩
theorem gw_tbl : ∀ w ∈ gw, w ∈ lw_tbl := fun _ h => (List.mem_filter.mp h).1
theorem gw_good : ∀ w ∈ gw, goodWord w = true := fun _ h => (List.mem_filter.mp h).2
theorem gw_in : GoodIn gw gw := fun w h => ⟨h, good_of_word (gw_good w h)⟩
theorem m0 : (Jvm.Cond.selects "java/lang/Throwable" ({ cls := "java/lang/Throwable", name := "fillInStackTrace", desc := "(I)Ljava/lang/Throwable;" } : Jvm.MethodName) ({ cls := "java/lang/Throwable", name := "fillInStackTrace", desc := "(I)Ljava/lang/Throwable;" } : Jvm.MethodName)) ∈ gw := gw_of 0 (by decide +kernel) (by decide +kernel)
theorem m1 : (Jvm.Cond.selects "NumberLeases$Pool" ({ cls := "NumberLeases$Pool", name := "startOfSpan", desc := "(I)I" } : Jvm.MethodName) ({ cls := "NumberLeases$Pool", name := "startOfSpan", desc := "(I)I" } : Jvm.MethodName)) ∈ gw := gw_of 1 (by decide +kernel) (by decide +kernel)
theorem m2 : (Jvm.Cond.selects "NumberLeases$Pool" ({ cls := "NumberLeases$Pool", name := "startsSpan", desc := "(I)Z" } : Jvm.MethodName) ({ cls := "NumberLeases$Pool", name := "startsSpan", desc := "(I)Z" } : Jvm.MethodName)) ∈ gw := gw_of 2 (by decide +kernel) (by decide +kernel)
theorem m3 : (Jvm.Cond.selects "NumberLeases$Pool" ({ cls := "NumberLeases$Pool", name := "rowFrom", desc := "(I)I" } : Jvm.MethodName) ({ cls := "NumberLeases$Pool", name := "rowFrom", desc := "(I)I" } : Jvm.MethodName)) ∈ gw := gw_of 3 (by decide +kernel) (by decide +kernel)
theorem m4 : (Jvm.Cond.selects "NumberLeases" ({ cls := "NumberLeases", name := "countOf", desc := "(I)I" } : Jvm.MethodName) ({ cls := "NumberLeases", name := "countOf", desc := "(I)I" } : Jvm.MethodName)) ∈ gw := gw_of 4 (by decide +kernel) (by decide +kernel)
theorem m5 : (Jvm.Cond.selects "NumberLeases$Pool" ({ cls := "NumberLeases$Pool", name := "numbersIn", desc := "(I)I" } : Jvm.MethodName) ({ cls := "NumberLeases$Pool", name := "numbersIn", desc := "(I)I" } : Jvm.MethodName)) ∈ gw := gw_of 5 (by decide +kernel) (by decide +kernel)
theorem m6 : (Jvm.Cond.selects "NumberLeases$Pool" ({ cls := "NumberLeases$Pool", name := "stateOf", desc := "(I)I" } : Jvm.MethodName) ({ cls := "NumberLeases$Pool", name := "stateOf", desc := "(I)I" } : Jvm.MethodName)) ∈ gw := gw_of 6 (by decide +kernel) (by decide +kernel)
theorem m7 : (Jvm.Cond.selects "NumberLeases" ({ cls := "NumberLeases", name := "leaseLowest", desc := "(III)I" } : Jvm.MethodName) ({ cls := "NumberLeases", name := "leaseLowest", desc := "(III)I" } : Jvm.MethodName)) ∈ gw := gw_of 7 (by decide +kernel) (by decide +kernel)
theorem m8 : (Jvm.Cond.selects "NumberLeases$Pool" ({ cls := "NumberLeases$Pool", name := "hasRoom", desc := "(II)Z" } : Jvm.MethodName) ({ cls := "NumberLeases$Pool", name := "hasRoom", desc := "(II)Z" } : Jvm.MethodName)) ∈ gw := gw_of 8 (by decide +kernel) (by decide +kernel)
theorem m9 : (Jvm.Cond.selects "NumberLeases$Pool" ({ cls := "NumberLeases$Pool", name := "numbersOf", desc := "(I)I" } : Jvm.MethodName) ({ cls := "NumberLeases$Pool", name := "numbersOf", desc := "(I)I" } : Jvm.MethodName)) ∈ gw := gw_of 9 (by decide +kernel) (by decide +kernel)
theorem m10 : (Jvm.Cond.selects "NumberLeases$Pool" ({ cls := "NumberLeases$Pool", name := "lowestRow", desc := "(I)I" } : Jvm.MethodName) ({ cls := "NumberLeases$Pool", name := "lowestRow", desc := "(I)I" } : Jvm.MethodName)) ∈ gw := gw_of 10 (by decide +kernel) (by decide +kernel)
theorem m11 : (Jvm.Cond.selects "NumberLeases$Saves" ({ cls := "NumberLeases$Saves", name := "dropOldest", desc := "()V" } : Jvm.MethodName) ({ cls := "NumberLeases$Saves", name := "dropOldest", desc := "()V" } : Jvm.MethodName)) ∈ gw := gw_of 11 (by decide +kernel) (by decide +kernel)
theorem m12 : (Jvm.Cond.selects "NumberLeases$Pool" ({ cls := "NumberLeases$Pool", name := "lease", desc := "(III)V" } : Jvm.MethodName) ({ cls := "NumberLeases$Pool", name := "lease", desc := "(III)V" } : Jvm.MethodName)) ∈ gw := gw_of 12 (by decide +kernel) (by decide +kernel)
theorem m13 : (Jvm.Cond.selects "NumberLeases" ({ cls := "NumberLeases", name := "needNumber", desc := "(I)V" } : Jvm.MethodName) ({ cls := "NumberLeases", name := "needNumber", desc := "(I)V" } : Jvm.MethodName)) ∈ gw := gw_of 13 (by decide +kernel) (by decide +kernel)
theorem m14 : (Jvm.Cond.selects "NumberLeases$Pool" ({ cls := "NumberLeases$Pool", name := "free", desc := "(I)V" } : Jvm.MethodName) ({ cls := "NumberLeases$Pool", name := "free", desc := "(I)V" } : Jvm.MethodName)) ∈ gw := gw_of 14 (by decide +kernel) (by decide +kernel)
theorem m15 : (Jvm.Cond.selects "NumberLeases$Pool" ({ cls := "NumberLeases$Pool", name := "countUnits", desc := "()V" } : Jvm.MethodName) ({ cls := "NumberLeases$Pool", name := "countUnits", desc := "()V" } : Jvm.MethodName)) ∈ gw := gw_of 15 (by decide +kernel) (by decide +kernel)
theorem m16 : (Jvm.Cond.selects "NumberLeases$Pool" ({ cls := "NumberLeases$Pool", name := "freeDue", desc := "()V" } : Jvm.MethodName) ({ cls := "NumberLeases$Pool", name := "freeDue", desc := "()V" } : Jvm.MethodName)) ∈ gw := gw_of 16 (by decide +kernel) (by decide +kernel)
theorem m17 : (Jvm.Cond.selects "NumberLeases" ({ cls := "NumberLeases", name := "holderAfter", desc := "(II)I" } : Jvm.MethodName) ({ cls := "NumberLeases", name := "holderAfter", desc := "(II)I" } : Jvm.MethodName)) ∈ gw := gw_of 17 (by decide +kernel) (by decide +kernel)
theorem m18 : (Jvm.Cond.selects "NumberLeases" ({ cls := "NumberLeases", name := "timeToWished", desc := "(II)I" } : Jvm.MethodName) ({ cls := "NumberLeases", name := "timeToWished", desc := "(II)I" } : Jvm.MethodName)) ∈ gw := gw_of 18 (by decide +kernel) (by decide +kernel)
theorem m19 : (Jvm.Cond.selects "NumberLeases$Pool" ({ cls := "NumberLeases$Pool", name := "numbersOfIn", desc := "(II)I" } : Jvm.MethodName) ({ cls := "NumberLeases$Pool", name := "numbersOfIn", desc := "(II)I" } : Jvm.MethodName)) ∈ gw := gw_of 19 (by decide +kernel) (by decide +kernel)
theorem m20 : (Jvm.Cond.selects "NumberLeases$Pool" ({ cls := "NumberLeases$Pool", name := "wishesOf", desc := "(I)I" } : Jvm.MethodName) ({ cls := "NumberLeases$Pool", name := "wishesOf", desc := "(I)I" } : Jvm.MethodName)) ∈ gw := gw_of 20 (by decide +kernel) (by decide +kernel)
theorem m21 : (Jvm.Cond.selects "NumberLeases$Pool" ({ cls := "NumberLeases$Pool", name := "leastOf", desc := "(I)I" } : Jvm.MethodName) ({ cls := "NumberLeases$Pool", name := "leastOf", desc := "(I)I" } : Jvm.MethodName)) ∈ gw := gw_of 21 (by decide +kernel) (by decide +kernel)
theorem m22 : (Jvm.Cond.selects "NumberLeases$Pool" ({ cls := "NumberLeases$Pool", name := "leastEndOf", desc := "(I)I" } : Jvm.MethodName) ({ cls := "NumberLeases$Pool", name := "leastEndOf", desc := "(I)I" } : Jvm.MethodName)) ∈ gw := gw_of 22 (by decide +kernel) (by decide +kernel)
theorem m23 : (Jvm.Cond.selects "NumberLeases" ({ cls := "NumberLeases", name := "timeToFree", desc := "(I)I" } : Jvm.MethodName) ({ cls := "NumberLeases", name := "timeToFree", desc := "(I)I" } : Jvm.MethodName)) ∈ gw := gw_of 23 (by decide +kernel) (by decide +kernel)
theorem m24 : (Jvm.Cond.initialized "NumberLeasesLaw") ∈ gw := gw_of 24 (by decide +kernel) (by decide +kernel)
theorem m25 : (Jvm.Cond.initialized "NumberLeases") ∈ gw := gw_of 25 (by decide +kernel) (by decide +kernel)
theorem m26 : (Jvm.Cond.initialized "NumberLeases$Pool") ∈ gw := gw_of 26 (by decide +kernel) (by decide +kernel)
theorem m27 : (Jvm.Cond.initialized "NumberLeases$Saves") ∈ gw := gw_of 27 (by decide +kernel) (by decide +kernel)
theorem m28 : (Jvm.Cond.initialized "NumberLeases$Orders") ∈ gw := gw_of 28 (by decide +kernel) (by decide +kernel)
theorem m29 : (Jvm.Cond.initialized "java/lang/Throwable") ∈ gw := gw_of 29 (by decide +kernel) (by decide +kernel)
theorem m30 : (Jvm.Cond.initialized "java/lang/Exception") ∈ gw := gw_of 30 (by decide +kernel) (by decide +kernel)
theorem m31 : (Jvm.Cond.initialized "java/lang/RuntimeException") ∈ gw := gw_of 31 (by decide +kernel) (by decide +kernel)
theorem m32 : (Jvm.Cond.initialized "java/lang/IndexOutOfBoundsException") ∈ gw := gw_of 32 (by decide +kernel) (by decide +kernel)
theorem m33 : (Jvm.Cond.initialized "java/lang/IllegalArgumentException") ∈ gw := gw_of 33 (by decide +kernel) (by decide +kernel)
theorem m34 : (Jvm.Cond.initialized "java/lang/IllegalStateException") ∈ gw := gw_of 34 (by decide +kernel) (by decide +kernel)
theorem m35 : (Jvm.Cond.initialized "java/lang/Math") ∈ gw := gw_of 35 (by decide +kernel) (by decide +kernel)
theorem m36 : (Jvm.Cond.initialized "java/lang/System") ∈ gw := gw_of 36 (by decide +kernel) (by decide +kernel)
theorem m37 : (Jvm.Cond.classLink "NumberLeasesLaw" (10 : Nat) "NumberLeases") ∈ gw := gw_of 37 (by decide +kernel) (by decide +kernel)
theorem m38 : (Jvm.Cond.instantiable "NumberLeases" (4 : Nat)) ∈ gw := gw_of 38 (by decide +kernel) (by decide +kernel)
theorem m39 : (Jvm.Cond.methodLink "NumberLeasesLaw" (93 : Nat) ({ cls := "NumberLeases", name := "<init>", desc := "()V" } : Jvm.MethodName)) ∈ gw := gw_of 39 (by decide +kernel) (by decide +kernel)
theorem m40 : (Jvm.Cond.instanceMethod ({ cls := "NumberLeases", name := "<init>", desc := "()V" } : Jvm.MethodName)) ∈ gw := gw_of 40 (by decide +kernel) (by decide +kernel)
theorem m41 : (Jvm.Cond.code ({ cls := "NumberLeases", name := "<init>", desc := "()V" } : Jvm.MethodName) prog_1_method_1_code (1 : Nat) (Option.none : Option Jvm.ClassFile.FieldType)) ∈ gw := gw_of 41 (by decide +kernel) (by decide +kernel)
theorem m42 : (Jvm.Cond.methodLink "NumberLeases" (1 : Nat) ({ cls := "java/lang/Object", name := "<init>", desc := "()V" } : Jvm.MethodName)) ∈ gw := gw_of 42 (by decide +kernel) (by decide +kernel)
theorem m43 : (Jvm.Cond.instanceMethod ({ cls := "java/lang/Object", name := "<init>", desc := "()V" } : Jvm.MethodName)) ∈ gw := gw_of 43 (by decide +kernel) (by decide +kernel)
theorem m44 : (Jvm.Cond.code ({ cls := "java/lang/Object", name := "<init>", desc := "()V" } : Jvm.MethodName) object_method_1_code (1 : Nat) (Option.none : Option Jvm.ClassFile.FieldType)) ∈ gw := gw_of 44 (by decide +kernel) (by decide +kernel)
theorem m45 : (Jvm.Cond.classLink "NumberLeases" (7 : Nat) "NumberLeases$Pool") ∈ gw := gw_of 45 (by decide +kernel) (by decide +kernel)
theorem m46 : (Jvm.Cond.instantiable "NumberLeases$Pool" (16 : Nat)) ∈ gw := gw_of 46 (by decide +kernel) (by decide +kernel)
theorem m47 : (Jvm.Cond.methodLink "NumberLeases" (9 : Nat) ({ cls := "NumberLeases$Pool", name := "<init>", desc := "()V" } : Jvm.MethodName)) ∈ gw := gw_of 47 (by decide +kernel) (by decide +kernel)
theorem m48 : (Jvm.Cond.instanceMethod ({ cls := "NumberLeases$Pool", name := "<init>", desc := "()V" } : Jvm.MethodName)) ∈ gw := gw_of 48 (by decide +kernel) (by decide +kernel)
theorem m49 : (Jvm.Cond.code ({ cls := "NumberLeases$Pool", name := "<init>", desc := "()V" } : Jvm.MethodName) prog_4_method_1_code (2 : Nat) (Option.none : Option Jvm.ClassFile.FieldType)) ∈ gw := gw_of 49 (by decide +kernel) (by decide +kernel)
theorem m50 : (Jvm.Cond.methodLink "NumberLeases$Pool" (3 : Nat) ({ cls := "java/lang/Object", name := "<init>", desc := "()V" } : Jvm.MethodName)) ∈ gw := gw_of 50 (by decide +kernel) (by decide +kernel)
theorem m51 : (Jvm.Cond.fieldLink "NumberLeases$Pool" (48 : Nat) "NumberLeases$Pool" "time" "I") ∈ gw := gw_of 51 (by decide +kernel) (by decide +kernel)
theorem m52 : (Jvm.Cond.fieldLink "NumberLeases" (227 : Nat) "NumberLeases$Pool" "time" "I") ∈ gw := gw_of 52 (by decide +kernel) (by decide +kernel)
theorem m53 : (Jvm.Cond.fieldLink "NumberLeases$Pool" (52 : Nat) "NumberLeases$Pool" "renewals" "I") ∈ gw := gw_of 53 (by decide +kernel) (by decide +kernel)
theorem m54 : (Jvm.Cond.fieldLink "NumberLeases$Pool" (55 : Nat) "NumberLeases$Pool" "graceRenewals" "I") ∈ gw := gw_of 54 (by decide +kernel) (by decide +kernel)
theorem m55 : (Jvm.Cond.fieldLink "NumberLeases$Pool" (58 : Nat) "NumberLeases$Pool" "freed" "I") ∈ gw := gw_of 55 (by decide +kernel) (by decide +kernel)
theorem m56 : (Jvm.Cond.fieldLink "NumberLeases$Pool" (9 : Nat) "NumberLeases$Pool" "settings" "[I") ∈ gw := gw_of 56 (by decide +kernel) (by decide +kernel)
theorem m57 : (Jvm.Cond.fieldLink "NumberLeases" (104 : Nat) "NumberLeases$Pool" "settings" "[I") ∈ gw := gw_of 57 (by decide +kernel) (by decide +kernel)
theorem m58 : (Jvm.Cond.fieldLink "NumberLeases$Pool" (15 : Nat) "NumberLeases$Pool" "whose" "[I") ∈ gw := gw_of 58 (by decide +kernel) (by decide +kernel)
theorem m59 : (Jvm.Cond.fieldLink "NumberLeases" (233 : Nat) "NumberLeases$Pool" "whose" "[I") ∈ gw := gw_of 59 (by decide +kernel) (by decide +kernel)
theorem m60 : (Jvm.Cond.fieldLink "NumberLeases$Pool" (18 : Nat) "NumberLeases$Pool" "begin" "[I") ∈ gw := gw_of 60 (by decide +kernel) (by decide +kernel)
theorem m61 : (Jvm.Cond.fieldLink "NumberLeases$Pool" (21 : Nat) "NumberLeases$Pool" "end" "[I") ∈ gw := gw_of 61 (by decide +kernel) (by decide +kernel)
theorem m62 : (Jvm.Cond.fieldLink "NumberLeases$Pool" (24 : Nat) "NumberLeases$Pool" "last" "[I") ∈ gw := gw_of 62 (by decide +kernel) (by decide +kernel)
theorem m63 : (Jvm.Cond.fieldLink "NumberLeases$Pool" (27 : Nat) "NumberLeases$Pool" "given" "[I") ∈ gw := gw_of 63 (by decide +kernel) (by decide +kernel)
theorem m64 : (Jvm.Cond.fieldLink "NumberLeases$Pool" (30 : Nat) "NumberLeases$Pool" "waiting" "[I") ∈ gw := gw_of 64 (by decide +kernel) (by decide +kernel)
theorem m65 : (Jvm.Cond.fieldLink "NumberLeases" (71 : Nat) "NumberLeases$Pool" "waiting" "[I") ∈ gw := gw_of 65 (by decide +kernel) (by decide +kernel)
theorem m66 : (Jvm.Cond.fieldLink "NumberLeases$Pool" (33 : Nat) "NumberLeases$Pool" "wishers" "[I") ∈ gw := gw_of 66 (by decide +kernel) (by decide +kernel)
theorem m67 : (Jvm.Cond.fieldLink "NumberLeases$Pool" (36 : Nat) "NumberLeases$Pool" "wishTerms" "[I") ∈ gw := gw_of 67 (by decide +kernel) (by decide +kernel)
theorem m68 : (Jvm.Cond.fieldLink "NumberLeases$Pool" (39 : Nat) "NumberLeases$Pool" "leases" "[I") ∈ gw := gw_of 68 (by decide +kernel) (by decide +kernel)
theorem m69 : (Jvm.Cond.fieldLink "NumberLeases$Pool" (42 : Nat) "NumberLeases$Pool" "lost" "[I") ∈ gw := gw_of 69 (by decide +kernel) (by decide +kernel)
theorem m70 : (Jvm.Cond.fieldLink "NumberLeases$Pool" (45 : Nat) "NumberLeases$Pool" "units" "[I") ∈ gw := gw_of 70 (by decide +kernel) (by decide +kernel)
theorem m104 : (Jvm.Cond.arrayClass Jvm.ClassFile.FieldType.int) ∈ gw := gw_of 104 (by decide +kernel) (by decide +kernel)
theorem m105 : (Jvm.Cond.classLink "NumberLeases" (19 : Nat) "NumberLeases$Saves") ∈ gw := gw_of 105 (by decide +kernel) (by decide +kernel)
theorem m106 : (Jvm.Cond.instantiable "NumberLeases$Saves" (2 : Nat)) ∈ gw := gw_of 106 (by decide +kernel) (by decide +kernel)
theorem m107 : (Jvm.Cond.methodLink "NumberLeases" (21 : Nat) ({ cls := "NumberLeases$Saves", name := "<init>", desc := "()V" } : Jvm.MethodName)) ∈ gw := gw_of 107 (by decide +kernel) (by decide +kernel)
theorem m108 : (Jvm.Cond.instanceMethod ({ cls := "NumberLeases$Saves", name := "<init>", desc := "()V" } : Jvm.MethodName)) ∈ gw := gw_of 108 (by decide +kernel) (by decide +kernel)
theorem m109 : (Jvm.Cond.code ({ cls := "NumberLeases$Saves", name := "<init>", desc := "()V" } : Jvm.MethodName) prog_5_method_1_code (2 : Nat) (Option.none : Option Jvm.ClassFile.FieldType)) ∈ gw := gw_of 109 (by decide +kernel) (by decide +kernel)
theorem m110 : (Jvm.Cond.methodLink "NumberLeases$Saves" (3 : Nat) ({ cls := "java/lang/Object", name := "<init>", desc := "()V" } : Jvm.MethodName)) ∈ gw := gw_of 110 (by decide +kernel) (by decide +kernel)
theorem m111 : (Jvm.Cond.classLink "NumberLeases$Saves" (9 : Nat) "NumberLeases$Pool") ∈ gw := gw_of 111 (by decide +kernel) (by decide +kernel)
theorem m113 : (Jvm.Cond.methodLink "NumberLeases$Saves" (17 : Nat) ({ cls := "NumberLeases$Pool", name := "<init>", desc := "()V" } : Jvm.MethodName)) ∈ gw := gw_of 113 (by decide +kernel) (by decide +kernel)
theorem m114 : (Jvm.Cond.fieldLink "NumberLeases$Saves" (11 : Nat) "NumberLeases$Saves" "kept" "[LNumberLeases$Pool;") ∈ gw := gw_of 114 (by decide +kernel) (by decide +kernel)
theorem m115 : (Jvm.Cond.fieldLink "NumberLeases$Saves" (18 : Nat) "NumberLeases$Saves" "many" "I") ∈ gw := gw_of 115 (by decide +kernel) (by decide +kernel)
theorem m116 : (Jvm.Cond.fieldLink "NumberLeases" (133 : Nat) "NumberLeases$Saves" "many" "I") ∈ gw := gw_of 116 (by decide +kernel) (by decide +kernel)
theorem m122 : (Jvm.Cond.classLink "NumberLeases" (26 : Nat) "NumberLeases$Orders") ∈ gw := gw_of 122 (by decide +kernel) (by decide +kernel)
theorem m123 : (Jvm.Cond.instantiable "NumberLeases$Orders" (8 : Nat)) ∈ gw := gw_of 123 (by decide +kernel) (by decide +kernel)
theorem m125 : (Jvm.Cond.instanceMethod ({ cls := "NumberLeases$Orders", name := "<init>", desc := "()V" } : Jvm.MethodName)) ∈ gw := gw_of 125 (by decide +kernel) (by decide +kernel)
theorem m126 : (Jvm.Cond.code ({ cls := "NumberLeases$Orders", name := "<init>", desc := "()V" } : Jvm.MethodName) prog_3_method_1_code (1 : Nat) (Option.none : Option Jvm.ClassFile.FieldType)) ∈ gw := gw_of 126 (by decide +kernel) (by decide +kernel)
theorem m127 : (Jvm.Cond.methodLink "NumberLeases$Orders" (3 : Nat) ({ cls := "java/lang/Object", name := "<init>", desc := "()V" } : Jvm.MethodName)) ∈ gw := gw_of 127 (by decide +kernel) (by decide +kernel)
theorem m128 : (Jvm.Cond.fieldLink "NumberLeases$Orders" (9 : Nat) "NumberLeases$Orders" "signs" "[I") ∈ gw := gw_of 128 (by decide +kernel) (by decide +kernel)
theorem m146 : (Jvm.Cond.fieldLink "NumberLeases" (10 : Nat) "NumberLeases" "pool" "LNumberLeases$Pool;") ∈ gw := gw_of 146 (by decide +kernel) (by decide +kernel)
theorem m147 : (Jvm.Cond.fieldLink "NumberLeases" (16 : Nat) "NumberLeases" "ahead" "LNumberLeases$Pool;") ∈ gw := gw_of 147 (by decide +kernel) (by decide +kernel)
theorem m148 : (Jvm.Cond.fieldLink "NumberLeases" (22 : Nat) "NumberLeases" "saves" "LNumberLeases$Saves;") ∈ gw := gw_of 148 (by decide +kernel) (by decide +kernel)
theorem m149 : (Jvm.Cond.fieldLink "NumberLeases" (29 : Nat) "NumberLeases" "orders" "LNumberLeases$Orders;") ∈ gw := gw_of 149 (by decide +kernel) (by decide +kernel)
theorem m159 : (Jvm.Cond.methodLink "NumberLeasesLaw" (88 : Nat) ({ cls := "NumberLeases", name := "span", desc := "(II)I" } : Jvm.MethodName)) ∈ gw := gw_of 159 (by decide +kernel) (by decide +kernel)
theorem m160 : (Jvm.Cond.instanceMethod ({ cls := "NumberLeases", name := "span", desc := "(II)I" } : Jvm.MethodName)) ∈ gw := gw_of 160 (by decide +kernel) (by decide +kernel)
theorem m161 : (Jvm.Cond.selects "NumberLeases" ({ cls := "NumberLeases", name := "span", desc := "(II)I" } : Jvm.MethodName) ({ cls := "NumberLeases", name := "span", desc := "(II)I" } : Jvm.MethodName)) ∈ gw := gw_of 161 (by decide +kernel) (by decide +kernel)
theorem m162 : (Jvm.Cond.code ({ cls := "NumberLeases", name := "span", desc := "(II)I" } : Jvm.MethodName) prog_1_method_17_code (3 : Nat) (Option.some Jvm.ClassFile.FieldType.int)) ∈ gw := gw_of 162 (by decide +kernel) (by decide +kernel)
theorem m163 : (Jvm.Cond.classLink "NumberLeases" (121 : Nat) "java/lang/IllegalArgumentException") ∈ gw := gw_of 163 (by decide +kernel) (by decide +kernel)
theorem m164 : (Jvm.Cond.instantiable "java/lang/IllegalArgumentException" (6 : Nat)) ∈ gw := gw_of 164 (by decide +kernel) (by decide +kernel)
theorem m172 : (Jvm.Cond.selects "java/lang/IllegalArgumentException" ({ cls := "java/lang/Throwable", name := "fillInStackTrace", desc := "(I)Ljava/lang/Throwable;" } : Jvm.MethodName) ({ cls := "java/lang/Throwable", name := "fillInStackTrace", desc := "(I)Ljava/lang/Throwable;" } : Jvm.MethodName)) ∈ gw := gw_of 172 (by decide +kernel) (by decide +kernel)
theorem m173 : (Jvm.Cond.selects "java/lang/IllegalArgumentException" ({ cls := "java/lang/Throwable", name := "fillInStackTrace", desc := "()Ljava/lang/Throwable;" } : Jvm.MethodName) ({ cls := "java/lang/Throwable", name := "fillInStackTrace", desc := "()Ljava/lang/Throwable;" } : Jvm.MethodName)) ∈ gw := gw_of 173 (by decide +kernel) (by decide +kernel)
theorem m184 : (Jvm.Cond.fieldLink "java/lang/Throwable" (198 : Nat) "java/lang/Throwable" "backtrace" "Ljava/lang/Object;") ∈ gw := gw_of 184 (by decide +kernel) (by decide +kernel)
theorem m186 : (Jvm.Cond.instanceMethod ({ cls := "java/lang/Throwable", name := "<init>", desc := "()V" } : Jvm.MethodName)) ∈ gw := gw_of 186 (by decide +kernel) (by decide +kernel)
theorem m187 : (Jvm.Cond.code ({ cls := "java/lang/Throwable", name := "<init>", desc := "()V" } : Jvm.MethodName) prog_15_method_1_code (1 : Nat) (Option.none : Option Jvm.ClassFile.FieldType)) ∈ gw := gw_of 187 (by decide +kernel) (by decide +kernel)
theorem m188 : (Jvm.Cond.methodLink "java/lang/Throwable" (1 : Nat) ({ cls := "java/lang/Object", name := "<init>", desc := "()V" } : Jvm.MethodName)) ∈ gw := gw_of 188 (by decide +kernel) (by decide +kernel)
theorem m189 : (Jvm.Cond.fieldLink "java/lang/Throwable" (13 : Nat) "java/lang/Throwable" "UNASSIGNED_STACK" "[Ljava/lang/StackTraceElement;") ∈ gw := gw_of 189 (by decide +kernel) (by decide +kernel)
theorem m191 : (Jvm.Cond.fieldLink "java/lang/Throwable" (20 : Nat) "java/lang/Throwable" "SUPPRESSED_SENTINEL" "Ljava/util/List;") ∈ gw := gw_of 191 (by decide +kernel) (by decide +kernel)
theorem m193 : (Jvm.Cond.methodLink "java/lang/Throwable" (27 : Nat) ({ cls := "java/lang/Throwable", name := "fillInStackTrace", desc := "()Ljava/lang/Throwable;" } : Jvm.MethodName)) ∈ gw := gw_of 193 (by decide +kernel) (by decide +kernel)
theorem m194 : (Jvm.Cond.instanceMethod ({ cls := "java/lang/Throwable", name := "fillInStackTrace", desc := "()Ljava/lang/Throwable;" } : Jvm.MethodName)) ∈ gw := gw_of 194 (by decide +kernel) (by decide +kernel)
theorem m196 : (Jvm.Cond.selects "java/lang/IllegalStateException" ({ cls := "java/lang/Throwable", name := "fillInStackTrace", desc := "()Ljava/lang/Throwable;" } : Jvm.MethodName) ({ cls := "java/lang/Throwable", name := "fillInStackTrace", desc := "()Ljava/lang/Throwable;" } : Jvm.MethodName)) ∈ gw := gw_of 196 (by decide +kernel) (by decide +kernel)
theorem m197 : (Jvm.Cond.selects "java/lang/IndexOutOfBoundsException" ({ cls := "java/lang/Throwable", name := "fillInStackTrace", desc := "()Ljava/lang/Throwable;" } : Jvm.MethodName) ({ cls := "java/lang/Throwable", name := "fillInStackTrace", desc := "()Ljava/lang/Throwable;" } : Jvm.MethodName)) ∈ gw := gw_of 197 (by decide +kernel) (by decide +kernel)
theorem m199 : (Jvm.Cond.methodLink "java/lang/Throwable" (202 : Nat) ({ cls := "java/lang/Throwable", name := "fillInStackTrace", desc := "(I)Ljava/lang/Throwable;" } : Jvm.MethodName)) ∈ gw := gw_of 199 (by decide +kernel) (by decide +kernel)
theorem m201 : (Jvm.Cond.instanceMethod ({ cls := "java/lang/Throwable", name := "fillInStackTrace", desc := "(I)Ljava/lang/Throwable;" } : Jvm.MethodName)) ∈ gw := gw_of 201 (by decide +kernel) (by decide +kernel)
theorem m202 : (Jvm.Cond.instantiable "java/lang/Throwable" (6 : Nat)) ∈ gw := gw_of 202 (by decide +kernel) (by decide +kernel)
theorem m203 : (Jvm.Cond.native ({ cls := "java/lang/Throwable", name := "fillInStackTrace", desc := "(I)Ljava/lang/Throwable;" } : Jvm.MethodName)) ∈ gw := gw_of 203 (by decide +kernel) (by decide +kernel)
theorem m204 : (Jvm.Cond.methodLink "NumberLeases" (123 : Nat) ({ cls := "java/lang/IllegalArgumentException", name := "<init>", desc := "()V" } : Jvm.MethodName)) ∈ gw := gw_of 204 (by decide +kernel) (by decide +kernel)
theorem m205 : (Jvm.Cond.instanceMethod ({ cls := "java/lang/IllegalArgumentException", name := "<init>", desc := "()V" } : Jvm.MethodName)) ∈ gw := gw_of 205 (by decide +kernel) (by decide +kernel)
theorem m206 : (Jvm.Cond.code ({ cls := "java/lang/IllegalArgumentException", name := "<init>", desc := "()V" } : Jvm.MethodName) prog_9_method_1_code (1 : Nat) (Option.none : Option Jvm.ClassFile.FieldType)) ∈ gw := gw_of 206 (by decide +kernel) (by decide +kernel)
theorem m207 : (Jvm.Cond.methodLink "java/lang/IllegalArgumentException" (1 : Nat) ({ cls := "java/lang/RuntimeException", name := "<init>", desc := "()V" } : Jvm.MethodName)) ∈ gw := gw_of 207 (by decide +kernel) (by decide +kernel)
theorem m208 : (Jvm.Cond.instanceMethod ({ cls := "java/lang/RuntimeException", name := "<init>", desc := "()V" } : Jvm.MethodName)) ∈ gw := gw_of 208 (by decide +kernel) (by decide +kernel)
theorem m209 : (Jvm.Cond.code ({ cls := "java/lang/RuntimeException", name := "<init>", desc := "()V" } : Jvm.MethodName) prog_13_method_1_code (1 : Nat) (Option.none : Option Jvm.ClassFile.FieldType)) ∈ gw := gw_of 209 (by decide +kernel) (by decide +kernel)
theorem m210 : (Jvm.Cond.methodLink "java/lang/RuntimeException" (1 : Nat) ({ cls := "java/lang/Exception", name := "<init>", desc := "()V" } : Jvm.MethodName)) ∈ gw := gw_of 210 (by decide +kernel) (by decide +kernel)
theorem m211 : (Jvm.Cond.instanceMethod ({ cls := "java/lang/Exception", name := "<init>", desc := "()V" } : Jvm.MethodName)) ∈ gw := gw_of 211 (by decide +kernel) (by decide +kernel)
theorem m212 : (Jvm.Cond.code ({ cls := "java/lang/Exception", name := "<init>", desc := "()V" } : Jvm.MethodName) prog_8_method_1_code (1 : Nat) (Option.none : Option Jvm.ClassFile.FieldType)) ∈ gw := gw_of 212 (by decide +kernel) (by decide +kernel)
theorem m213 : (Jvm.Cond.methodLink "java/lang/Exception" (1 : Nat) ({ cls := "java/lang/Throwable", name := "<init>", desc := "()V" } : Jvm.MethodName)) ∈ gw := gw_of 213 (by decide +kernel) (by decide +kernel)
theorem m215 : (Jvm.Cond.fieldLink "java/lang/Throwable" (7 : Nat) "java/lang/Throwable" "cause" "Ljava/lang/Throwable;") ∈ gw := gw_of 215 (by decide +kernel) (by decide +kernel)
theorem m216 : (Jvm.Cond.fieldLink "java/lang/Throwable" (17 : Nat) "java/lang/Throwable" "stackTrace" "[Ljava/lang/StackTraceElement;") ∈ gw := gw_of 216 (by decide +kernel) (by decide +kernel)
theorem m217 : (Jvm.Cond.fieldLink "java/lang/Throwable" (24 : Nat) "java/lang/Throwable" "suppressedExceptions" "Ljava/util/List;") ∈ gw := gw_of 217 (by decide +kernel) (by decide +kernel)
theorem m226 : (Jvm.Cond.methodLink "NumberLeases" (44 : Nat) ({ cls := "NumberLeases", name := "needRange", desc := "(III)V" } : Jvm.MethodName)) ∈ gw := gw_of 226 (by decide +kernel) (by decide +kernel)
theorem m227 : (Jvm.Cond.static ({ cls := "NumberLeases", name := "needRange", desc := "(III)V" } : Jvm.MethodName)) ∈ gw := gw_of 227 (by decide +kernel) (by decide +kernel)
theorem m228 : (Jvm.Cond.code ({ cls := "NumberLeases", name := "needRange", desc := "(III)V" } : Jvm.MethodName) prog_1_method_30_code (3 : Nat) (Option.none : Option Jvm.ClassFile.FieldType)) ∈ gw := gw_of 228 (by decide +kernel) (by decide +kernel)
theorem m229 : (Jvm.Cond.methodLink "NumberLeases" (145 : Nat) ({ cls := "NumberLeases$Pool", name := "ofSpan", desc := "(II)I" } : Jvm.MethodName)) ∈ gw := gw_of 229 (by decide +kernel) (by decide +kernel)
theorem m230 : (Jvm.Cond.instanceMethod ({ cls := "NumberLeases$Pool", name := "ofSpan", desc := "(II)I" } : Jvm.MethodName)) ∈ gw := gw_of 230 (by decide +kernel) (by decide +kernel)
theorem m231 : (Jvm.Cond.selects "NumberLeases$Pool" ({ cls := "NumberLeases$Pool", name := "ofSpan", desc := "(II)I" } : Jvm.MethodName) ({ cls := "NumberLeases$Pool", name := "ofSpan", desc := "(II)I" } : Jvm.MethodName)) ∈ gw := gw_of 231 (by decide +kernel) (by decide +kernel)
theorem m232 : (Jvm.Cond.code ({ cls := "NumberLeases$Pool", name := "ofSpan", desc := "(II)I" } : Jvm.MethodName) prog_4_method_26_code (4 : Nat) (Option.some Jvm.ClassFile.FieldType.int)) ∈ gw := gw_of 232 (by decide +kernel) (by decide +kernel)
theorem m233 : (Jvm.Cond.methodLink "NumberLeases$Pool" (124 : Nat) ({ cls := "NumberLeases$Pool", name := "startOfSpan", desc := "(I)I" } : Jvm.MethodName)) ∈ gw := gw_of 233 (by decide +kernel) (by decide +kernel)
theorem m235 : (Jvm.Cond.instanceMethod ({ cls := "NumberLeases$Pool", name := "startOfSpan", desc := "(I)I" } : Jvm.MethodName)) ∈ gw := gw_of 235 (by decide +kernel) (by decide +kernel)
theorem m236 : (Jvm.Cond.code ({ cls := "NumberLeases$Pool", name := "startOfSpan", desc := "(I)I" } : Jvm.MethodName) prog_4_method_39_code (4 : Nat) (Option.some Jvm.ClassFile.FieldType.int)) ∈ gw := gw_of 236 (by decide +kernel) (by decide +kernel)
theorem m237 : (Jvm.Cond.methodLink "NumberLeases$Pool" (150 : Nat) ({ cls := "NumberLeases$Pool", name := "startsSpan", desc := "(I)Z" } : Jvm.MethodName)) ∈ gw := gw_of 237 (by decide +kernel) (by decide +kernel)
theorem m239 : (Jvm.Cond.instanceMethod ({ cls := "NumberLeases$Pool", name := "startsSpan", desc := "(I)Z" } : Jvm.MethodName)) ∈ gw := gw_of 239 (by decide +kernel) (by decide +kernel)
theorem m240 : (Jvm.Cond.code ({ cls := "NumberLeases$Pool", name := "startsSpan", desc := "(I)Z" } : Jvm.MethodName) prog_4_method_40_code (2 : Nat) (Option.some Jvm.ClassFile.FieldType.boolean)) ∈ gw := gw_of 240 (by decide +kernel) (by decide +kernel)
theorem m241 : (Jvm.Cond.methodLink "NumberLeases$Pool" (127 : Nat) ({ cls := "NumberLeases$Pool", name := "rowFrom", desc := "(I)I" } : Jvm.MethodName)) ∈ gw := gw_of 241 (by decide +kernel) (by decide +kernel)
theorem m243 : (Jvm.Cond.instanceMethod ({ cls := "NumberLeases$Pool", name := "rowFrom", desc := "(I)I" } : Jvm.MethodName)) ∈ gw := gw_of 243 (by decide +kernel) (by decide +kernel)
theorem m244 : (Jvm.Cond.code ({ cls := "NumberLeases$Pool", name := "rowFrom", desc := "(I)I" } : Jvm.MethodName) prog_4_method_35_code (3 : Nat) (Option.some Jvm.ClassFile.FieldType.int)) ∈ gw := gw_of 244 (by decide +kernel) (by decide +kernel)
theorem m245 : (Jvm.Cond.methodLink "NumberLeasesLaw" (73 : Nat) ({ cls := "NumberLeases", name := "count", desc := "(I)I" } : Jvm.MethodName)) ∈ gw := gw_of 245 (by decide +kernel) (by decide +kernel)
theorem m246 : (Jvm.Cond.instanceMethod ({ cls := "NumberLeases", name := "count", desc := "(I)I" } : Jvm.MethodName)) ∈ gw := gw_of 246 (by decide +kernel) (by decide +kernel)
theorem m247 : (Jvm.Cond.selects "NumberLeases" ({ cls := "NumberLeases", name := "count", desc := "(I)I" } : Jvm.MethodName) ({ cls := "NumberLeases", name := "count", desc := "(I)I" } : Jvm.MethodName)) ∈ gw := gw_of 247 (by decide +kernel) (by decide +kernel)
theorem m248 : (Jvm.Cond.code ({ cls := "NumberLeases", name := "count", desc := "(I)I" } : Jvm.MethodName) prog_1_method_18_code (2 : Nat) (Option.some Jvm.ClassFile.FieldType.int)) ∈ gw := gw_of 248 (by decide +kernel) (by decide +kernel)
theorem m249 : (Jvm.Cond.methodLink "NumberLeases" (148 : Nat) ({ cls := "NumberLeases", name := "countOf", desc := "(I)I" } : Jvm.MethodName)) ∈ gw := gw_of 249 (by decide +kernel) (by decide +kernel)
theorem m251 : (Jvm.Cond.instanceMethod ({ cls := "NumberLeases", name := "countOf", desc := "(I)I" } : Jvm.MethodName)) ∈ gw := gw_of 251 (by decide +kernel) (by decide +kernel)
theorem m252 : (Jvm.Cond.code ({ cls := "NumberLeases", name := "countOf", desc := "(I)I" } : Jvm.MethodName) prog_1_method_34_code (2 : Nat) (Option.some Jvm.ClassFile.FieldType.int)) ∈ gw := gw_of 252 (by decide +kernel) (by decide +kernel)
theorem m253 : (Jvm.Cond.methodLink "NumberLeases" (221 : Nat) ({ cls := "NumberLeases$Pool", name := "ofAll", desc := "(I)I" } : Jvm.MethodName)) ∈ gw := gw_of 253 (by decide +kernel) (by decide +kernel)
theorem m254 : (Jvm.Cond.instanceMethod ({ cls := "NumberLeases$Pool", name := "ofAll", desc := "(I)I" } : Jvm.MethodName)) ∈ gw := gw_of 254 (by decide +kernel) (by decide +kernel)
theorem m255 : (Jvm.Cond.selects "NumberLeases$Pool" ({ cls := "NumberLeases$Pool", name := "ofAll", desc := "(I)I" } : Jvm.MethodName) ({ cls := "NumberLeases$Pool", name := "ofAll", desc := "(I)I" } : Jvm.MethodName)) ∈ gw := gw_of 255 (by decide +kernel) (by decide +kernel)
theorem m256 : (Jvm.Cond.code ({ cls := "NumberLeases$Pool", name := "ofAll", desc := "(I)I" } : Jvm.MethodName) prog_4_method_27_code (2 : Nat) (Option.some Jvm.ClassFile.FieldType.int)) ∈ gw := gw_of 256 (by decide +kernel) (by decide +kernel)
theorem m257 : (Jvm.Cond.methodLink "NumberLeases$Pool" (130 : Nat) ({ cls := "NumberLeases$Pool", name := "freeNumbers", desc := "()I" } : Jvm.MethodName)) ∈ gw := gw_of 257 (by decide +kernel) (by decide +kernel)
theorem m258 : (Jvm.Cond.instanceMethod ({ cls := "NumberLeases$Pool", name := "freeNumbers", desc := "()I" } : Jvm.MethodName)) ∈ gw := gw_of 258 (by decide +kernel) (by decide +kernel)
theorem m259 : (Jvm.Cond.selects "NumberLeases$Pool" ({ cls := "NumberLeases$Pool", name := "freeNumbers", desc := "()I" } : Jvm.MethodName) ({ cls := "NumberLeases$Pool", name := "freeNumbers", desc := "()I" } : Jvm.MethodName)) ∈ gw := gw_of 259 (by decide +kernel) (by decide +kernel)
theorem m260 : (Jvm.Cond.code ({ cls := "NumberLeases$Pool", name := "freeNumbers", desc := "()I" } : Jvm.MethodName) prog_4_method_28_code (1 : Nat) (Option.some Jvm.ClassFile.FieldType.int)) ∈ gw := gw_of 260 (by decide +kernel) (by decide +kernel)
theorem m261 : (Jvm.Cond.methodLink "NumberLeases$Pool" (134 : Nat) ({ cls := "NumberLeases$Pool", name := "numbersIn", desc := "(I)I" } : Jvm.MethodName)) ∈ gw := gw_of 261 (by decide +kernel) (by decide +kernel)
theorem m263 : (Jvm.Cond.instanceMethod ({ cls := "NumberLeases$Pool", name := "numbersIn", desc := "(I)I" } : Jvm.MethodName)) ∈ gw := gw_of 263 (by decide +kernel) (by decide +kernel)
theorem m264 : (Jvm.Cond.code ({ cls := "NumberLeases$Pool", name := "numbersIn", desc := "(I)I" } : Jvm.MethodName) prog_4_method_29_code (4 : Nat) (Option.some Jvm.ClassFile.FieldType.int)) ∈ gw := gw_of 264 (by decide +kernel) (by decide +kernel)
theorem m265 : (Jvm.Cond.methodLink "NumberLeases$Pool" (95 : Nat) ({ cls := "NumberLeases$Pool", name := "stateOf", desc := "(I)I" } : Jvm.MethodName)) ∈ gw := gw_of 265 (by decide +kernel) (by decide +kernel)
theorem m267 : (Jvm.Cond.instanceMethod ({ cls := "NumberLeases$Pool", name := "stateOf", desc := "(I)I" } : Jvm.MethodName)) ∈ gw := gw_of 267 (by decide +kernel) (by decide +kernel)
theorem m268 : (Jvm.Cond.code ({ cls := "NumberLeases$Pool", name := "stateOf", desc := "(I)I" } : Jvm.MethodName) prog_4_method_23_code (2 : Nat) (Option.some Jvm.ClassFile.FieldType.int)) ∈ gw := gw_of 268 (by decide +kernel) (by decide +kernel)
theorem m270 : (Jvm.Cond.static ({ cls := "NumberLeases", name := "sum", desc := "([I)I" } : Jvm.MethodName)) ∈ gw := gw_of 270 (by decide +kernel) (by decide +kernel)
theorem m271 : (Jvm.Cond.code ({ cls := "NumberLeases", name := "sum", desc := "([I)I" } : Jvm.MethodName) prog_1_method_45_code (6 : Nat) (Option.some Jvm.ClassFile.FieldType.int)) ∈ gw := gw_of 271 (by decide +kernel) (by decide +kernel)
theorem m272 : (Jvm.Cond.methodLink "NumberLeases$Pool" (141 : Nat) ({ cls := "NumberLeases$Pool", name := "spans", desc := "()I" } : Jvm.MethodName)) ∈ gw := gw_of 272 (by decide +kernel) (by decide +kernel)
theorem m273 : (Jvm.Cond.instanceMethod ({ cls := "NumberLeases$Pool", name := "spans", desc := "()I" } : Jvm.MethodName)) ∈ gw := gw_of 273 (by decide +kernel) (by decide +kernel)
theorem m274 : (Jvm.Cond.selects "NumberLeases$Pool" ({ cls := "NumberLeases$Pool", name := "spans", desc := "()I" } : Jvm.MethodName) ({ cls := "NumberLeases$Pool", name := "spans", desc := "()I" } : Jvm.MethodName)) ∈ gw := gw_of 274 (by decide +kernel) (by decide +kernel)
theorem m275 : (Jvm.Cond.code ({ cls := "NumberLeases$Pool", name := "spans", desc := "()I" } : Jvm.MethodName) prog_4_method_38_code (3 : Nat) (Option.some Jvm.ClassFile.FieldType.int)) ∈ gw := gw_of 275 (by decide +kernel) (by decide +kernel)
theorem m276 : (Jvm.Cond.methodLink "NumberLeases$Pool" (144 : Nat) ({ cls := "NumberLeases$Pool", name := "longestRow", desc := "()I" } : Jvm.MethodName)) ∈ gw := gw_of 276 (by decide +kernel) (by decide +kernel)
theorem m277 : (Jvm.Cond.instanceMethod ({ cls := "NumberLeases$Pool", name := "longestRow", desc := "()I" } : Jvm.MethodName)) ∈ gw := gw_of 277 (by decide +kernel) (by decide +kernel)
theorem m278 : (Jvm.Cond.selects "NumberLeases$Pool" ({ cls := "NumberLeases$Pool", name := "longestRow", desc := "()I" } : Jvm.MethodName) ({ cls := "NumberLeases$Pool", name := "longestRow", desc := "()I" } : Jvm.MethodName)) ∈ gw := gw_of 278 (by decide +kernel) (by decide +kernel)
theorem m279 : (Jvm.Cond.code ({ cls := "NumberLeases$Pool", name := "longestRow", desc := "()I" } : Jvm.MethodName) prog_4_method_37_code (3 : Nat) (Option.some Jvm.ClassFile.FieldType.int)) ∈ gw := gw_of 279 (by decide +kernel) (by decide +kernel)
theorem m280 : (Jvm.Cond.methodLink "NumberLeases$Pool" (147 : Nat) ({ cls := "java/lang/Math", name := "max", desc := "(II)I" } : Jvm.MethodName)) ∈ gw := gw_of 280 (by decide +kernel) (by decide +kernel)
theorem m281 : (Jvm.Cond.static ({ cls := "java/lang/Math", name := "max", desc := "(II)I" } : Jvm.MethodName)) ∈ gw := gw_of 281 (by decide +kernel) (by decide +kernel)
theorem m282 : (Jvm.Cond.code ({ cls := "java/lang/Math", name := "max", desc := "(II)I" } : Jvm.MethodName) prog_12_method_65_code (2 : Nat) (Option.some Jvm.ClassFile.FieldType.int)) ∈ gw := gw_of 282 (by decide +kernel) (by decide +kernel)
theorem m283 : (Jvm.Cond.methodLink "NumberLeasesLaw" (47 : Nat) ({ cls := "NumberLeasesLaw", name := "low", desc := "(II)I" } : Jvm.MethodName)) ∈ gw := gw_of 283 (by decide +kernel) (by decide +kernel)
theorem m284 : (Jvm.Cond.static ({ cls := "NumberLeasesLaw", name := "low", desc := "(II)I" } : Jvm.MethodName)) ∈ gw := gw_of 284 (by decide +kernel) (by decide +kernel)
theorem m285 : (Jvm.Cond.code ({ cls := "NumberLeasesLaw", name := "low", desc := "(II)I" } : Jvm.MethodName) method_2_code (2 : Nat) (Option.some Jvm.ClassFile.FieldType.int)) ∈ gw := gw_of 285 (by decide +kernel) (by decide +kernel)
theorem m286 : (Jvm.Cond.constant "NumberLeasesLaw" (7 : Nat) (2147483647 : Int32)) ∈ gw := gw_of 286 (by decide +kernel) (by decide +kernel)
theorem m287 : (Jvm.Cond.methodLink "NumberLeasesLaw" (41 : Nat) ({ cls := "NumberLeasesLaw", name := "cell", desc := "([II)I" } : Jvm.MethodName)) ∈ gw := gw_of 287 (by decide +kernel) (by decide +kernel)
theorem m288 : (Jvm.Cond.static ({ cls := "NumberLeasesLaw", name := "cell", desc := "([II)I" } : Jvm.MethodName)) ∈ gw := gw_of 288 (by decide +kernel) (by decide +kernel)
theorem m289 : (Jvm.Cond.code ({ cls := "NumberLeasesLaw", name := "cell", desc := "([II)I" } : Jvm.MethodName) method_3_code (2 : Nat) (Option.some Jvm.ClassFile.FieldType.int)) ∈ gw := gw_of 289 (by decide +kernel) (by decide +kernel)
theorem m290 : (Jvm.Cond.constant "NumberLeasesLaw" (8 : Nat) (40503 : Int32)) ∈ gw := gw_of 290 (by decide +kernel) (by decide +kernel)
theorem m291 : (Jvm.Cond.methodLink "NumberLeasesLaw" (50 : Nat) ({ cls := "NumberLeasesLaw", name := "take", desc := "(LNumberLeases;II)I" } : Jvm.MethodName)) ∈ gw := gw_of 291 (by decide +kernel) (by decide +kernel)
theorem m292 : (Jvm.Cond.static ({ cls := "NumberLeasesLaw", name := "take", desc := "(LNumberLeases;II)I" } : Jvm.MethodName)) ∈ gw := gw_of 292 (by decide +kernel) (by decide +kernel)
theorem m293 : (Jvm.Cond.codeWith ({ cls := "NumberLeasesLaw", name := "take", desc := "(LNumberLeases;II)I" } : Jvm.MethodName) method_4_code (4 : Nat) (Option.some Jvm.ClassFile.FieldType.int) [((0 : Nat), (6 : Nat), (7 : Nat), (15 : Nat))]) ∈ gw := gw_of 293 (by decide +kernel) (by decide +kernel)
theorem m294 : (Jvm.Cond.classLink "NumberLeasesLaw" (15 : Nat) "java/lang/IllegalStateException") ∈ gw := gw_of 294 (by decide +kernel) (by decide +kernel)
theorem m295 : (Jvm.Cond.methodLink "NumberLeasesLaw" (9 : Nat) ({ cls := "NumberLeases", name := "take", desc := "(II)I" } : Jvm.MethodName)) ∈ gw := gw_of 295 (by decide +kernel) (by decide +kernel)
theorem m296 : (Jvm.Cond.instanceMethod ({ cls := "NumberLeases", name := "take", desc := "(II)I" } : Jvm.MethodName)) ∈ gw := gw_of 296 (by decide +kernel) (by decide +kernel)
theorem m297 : (Jvm.Cond.selects "NumberLeases" ({ cls := "NumberLeases", name := "take", desc := "(II)I" } : Jvm.MethodName) ({ cls := "NumberLeases", name := "take", desc := "(II)I" } : Jvm.MethodName)) ∈ gw := gw_of 297 (by decide +kernel) (by decide +kernel)
theorem m298 : (Jvm.Cond.code ({ cls := "NumberLeases", name := "take", desc := "(II)I" } : Jvm.MethodName) prog_1_method_2_code (3 : Nat) (Option.some Jvm.ClassFile.FieldType.int)) ∈ gw := gw_of 298 (by decide +kernel) (by decide +kernel)
theorem m299 : (Jvm.Cond.methodLink "NumberLeases" (33 : Nat) ({ cls := "NumberLeases", name := "leaseLowest", desc := "(III)I" } : Jvm.MethodName)) ∈ gw := gw_of 299 (by decide +kernel) (by decide +kernel)
theorem m301 : (Jvm.Cond.instanceMethod ({ cls := "NumberLeases", name := "leaseLowest", desc := "(III)I" } : Jvm.MethodName)) ∈ gw := gw_of 301 (by decide +kernel) (by decide +kernel)
theorem m302 : (Jvm.Cond.code ({ cls := "NumberLeases", name := "leaseLowest", desc := "(III)I" } : Jvm.MethodName) prog_1_method_32_code (4 : Nat) (Option.some Jvm.ClassFile.FieldType.int)) ∈ gw := gw_of 302 (by decide +kernel) (by decide +kernel)
theorem m303 : (Jvm.Cond.methodLink "NumberLeases" (37 : Nat) ({ cls := "NumberLeases", name := "needHolder", desc := "(I)V" } : Jvm.MethodName)) ∈ gw := gw_of 303 (by decide +kernel) (by decide +kernel)
theorem m304 : (Jvm.Cond.static ({ cls := "NumberLeases", name := "needHolder", desc := "(I)V" } : Jvm.MethodName)) ∈ gw := gw_of 304 (by decide +kernel) (by decide +kernel)
theorem m305 : (Jvm.Cond.code ({ cls := "NumberLeases", name := "needHolder", desc := "(I)V" } : Jvm.MethodName) prog_1_method_27_code (1 : Nat) (Option.none : Option Jvm.ClassFile.FieldType)) ∈ gw := gw_of 305 (by decide +kernel) (by decide +kernel)
theorem m306 : (Jvm.Cond.classLink "NumberLeases" (194 : Nat) "java/lang/IndexOutOfBoundsException") ∈ gw := gw_of 306 (by decide +kernel) (by decide +kernel)
theorem m307 : (Jvm.Cond.instantiable "java/lang/IndexOutOfBoundsException" (6 : Nat)) ∈ gw := gw_of 307 (by decide +kernel) (by decide +kernel)
theorem m309 : (Jvm.Cond.selects "java/lang/IndexOutOfBoundsException" ({ cls := "java/lang/Throwable", name := "fillInStackTrace", desc := "(I)Ljava/lang/Throwable;" } : Jvm.MethodName) ({ cls := "java/lang/Throwable", name := "fillInStackTrace", desc := "(I)Ljava/lang/Throwable;" } : Jvm.MethodName)) ∈ gw := gw_of 309 (by decide +kernel) (by decide +kernel)
theorem m315 : (Jvm.Cond.methodLink "NumberLeases" (196 : Nat) ({ cls := "java/lang/IndexOutOfBoundsException", name := "<init>", desc := "()V" } : Jvm.MethodName)) ∈ gw := gw_of 315 (by decide +kernel) (by decide +kernel)
theorem m316 : (Jvm.Cond.instanceMethod ({ cls := "java/lang/IndexOutOfBoundsException", name := "<init>", desc := "()V" } : Jvm.MethodName)) ∈ gw := gw_of 316 (by decide +kernel) (by decide +kernel)
theorem m317 : (Jvm.Cond.code ({ cls := "java/lang/IndexOutOfBoundsException", name := "<init>", desc := "()V" } : Jvm.MethodName) prog_11_method_1_code (1 : Nat) (Option.none : Option Jvm.ClassFile.FieldType)) ∈ gw := gw_of 317 (by decide +kernel) (by decide +kernel)
theorem m318 : (Jvm.Cond.methodLink "java/lang/IndexOutOfBoundsException" (1 : Nat) ({ cls := "java/lang/RuntimeException", name := "<init>", desc := "()V" } : Jvm.MethodName)) ∈ gw := gw_of 318 (by decide +kernel) (by decide +kernel)
theorem m321 : (Jvm.Cond.methodLink "NumberLeases" (203 : Nat) ({ cls := "NumberLeases$Pool", name := "mayLease", desc := "(II)Z" } : Jvm.MethodName)) ∈ gw := gw_of 321 (by decide +kernel) (by decide +kernel)
theorem m322 : (Jvm.Cond.instanceMethod ({ cls := "NumberLeases$Pool", name := "mayLease", desc := "(II)Z" } : Jvm.MethodName)) ∈ gw := gw_of 322 (by decide +kernel) (by decide +kernel)
theorem m323 : (Jvm.Cond.selects "NumberLeases$Pool" ({ cls := "NumberLeases$Pool", name := "mayLease", desc := "(II)Z" } : Jvm.MethodName) ({ cls := "NumberLeases$Pool", name := "mayLease", desc := "(II)Z" } : Jvm.MethodName)) ∈ gw := gw_of 323 (by decide +kernel) (by decide +kernel)
theorem m324 : (Jvm.Cond.code ({ cls := "NumberLeases$Pool", name := "mayLease", desc := "(II)Z" } : Jvm.MethodName) prog_4_method_5_code (3 : Nat) (Option.some Jvm.ClassFile.FieldType.boolean)) ∈ gw := gw_of 324 (by decide +kernel) (by decide +kernel)
theorem m325 : (Jvm.Cond.methodLink "NumberLeases$Pool" (77 : Nat) ({ cls := "NumberLeases$Pool", name := "hasRoom", desc := "(II)Z" } : Jvm.MethodName)) ∈ gw := gw_of 325 (by decide +kernel) (by decide +kernel)
theorem m327 : (Jvm.Cond.instanceMethod ({ cls := "NumberLeases$Pool", name := "hasRoom", desc := "(II)Z" } : Jvm.MethodName)) ∈ gw := gw_of 327 (by decide +kernel) (by decide +kernel)
theorem m328 : (Jvm.Cond.code ({ cls := "NumberLeases$Pool", name := "hasRoom", desc := "(II)Z" } : Jvm.MethodName) prog_4_method_10_code (3 : Nat) (Option.some Jvm.ClassFile.FieldType.boolean)) ∈ gw := gw_of 328 (by decide +kernel) (by decide +kernel)
theorem m329 : (Jvm.Cond.methodLink "NumberLeases$Pool" (88 : Nat) ({ cls := "NumberLeases$Pool", name := "numbersOf", desc := "(I)I" } : Jvm.MethodName)) ∈ gw := gw_of 329 (by decide +kernel) (by decide +kernel)
theorem m331 : (Jvm.Cond.instanceMethod ({ cls := "NumberLeases$Pool", name := "numbersOf", desc := "(I)I" } : Jvm.MethodName)) ∈ gw := gw_of 331 (by decide +kernel) (by decide +kernel)
theorem m332 : (Jvm.Cond.code ({ cls := "NumberLeases$Pool", name := "numbersOf", desc := "(I)I" } : Jvm.MethodName) prog_4_method_30_code (4 : Nat) (Option.some Jvm.ClassFile.FieldType.int)) ∈ gw := gw_of 332 (by decide +kernel) (by decide +kernel)
theorem m333 : (Jvm.Cond.methodLink "NumberLeases$Pool" (81 : Nat) ({ cls := "NumberLeases$Pool", name := "lowestRow", desc := "(I)I" } : Jvm.MethodName)) ∈ gw := gw_of 333 (by decide +kernel) (by decide +kernel)
theorem m335 : (Jvm.Cond.instanceMethod ({ cls := "NumberLeases$Pool", name := "lowestRow", desc := "(I)I" } : Jvm.MethodName)) ∈ gw := gw_of 335 (by decide +kernel) (by decide +kernel)
theorem m336 : (Jvm.Cond.code ({ cls := "NumberLeases$Pool", name := "lowestRow", desc := "(I)I" } : Jvm.MethodName) prog_4_method_36_code (3 : Nat) (Option.some Jvm.ClassFile.FieldType.int)) ∈ gw := gw_of 336 (by decide +kernel) (by decide +kernel)
theorem m337 : (Jvm.Cond.methodLink "NumberLeases" (52 : Nat) ({ cls := "NumberLeases", name := "needState", desc := "(Z)V" } : Jvm.MethodName)) ∈ gw := gw_of 337 (by decide +kernel) (by decide +kernel)
theorem m338 : (Jvm.Cond.static ({ cls := "NumberLeases", name := "needState", desc := "(Z)V" } : Jvm.MethodName)) ∈ gw := gw_of 338 (by decide +kernel) (by decide +kernel)
theorem m339 : (Jvm.Cond.code ({ cls := "NumberLeases", name := "needState", desc := "(Z)V" } : Jvm.MethodName) prog_1_method_31_code (1 : Nat) (Option.none : Option Jvm.ClassFile.FieldType)) ∈ gw := gw_of 339 (by decide +kernel) (by decide +kernel)
theorem m340 : (Jvm.Cond.classLink "NumberLeases" (200 : Nat) "java/lang/IllegalStateException") ∈ gw := gw_of 340 (by decide +kernel) (by decide +kernel)
theorem m341 : (Jvm.Cond.instantiable "java/lang/IllegalStateException" (6 : Nat)) ∈ gw := gw_of 341 (by decide +kernel) (by decide +kernel)
theorem m343 : (Jvm.Cond.selects "java/lang/IllegalStateException" ({ cls := "java/lang/Throwable", name := "fillInStackTrace", desc := "(I)Ljava/lang/Throwable;" } : Jvm.MethodName) ({ cls := "java/lang/Throwable", name := "fillInStackTrace", desc := "(I)Ljava/lang/Throwable;" } : Jvm.MethodName)) ∈ gw := gw_of 343 (by decide +kernel) (by decide +kernel)
theorem m349 : (Jvm.Cond.methodLink "NumberLeases" (202 : Nat) ({ cls := "java/lang/IllegalStateException", name := "<init>", desc := "()V" } : Jvm.MethodName)) ∈ gw := gw_of 349 (by decide +kernel) (by decide +kernel)
theorem m350 : (Jvm.Cond.instanceMethod ({ cls := "java/lang/IllegalStateException", name := "<init>", desc := "()V" } : Jvm.MethodName)) ∈ gw := gw_of 350 (by decide +kernel) (by decide +kernel)
theorem m351 : (Jvm.Cond.code ({ cls := "java/lang/IllegalStateException", name := "<init>", desc := "()V" } : Jvm.MethodName) prog_10_method_1_code (1 : Nat) (Option.none : Option Jvm.ClassFile.FieldType)) ∈ gw := gw_of 351 (by decide +kernel) (by decide +kernel)
theorem m352 : (Jvm.Cond.methodLink "java/lang/IllegalStateException" (1 : Nat) ({ cls := "java/lang/RuntimeException", name := "<init>", desc := "()V" } : Jvm.MethodName)) ∈ gw := gw_of 352 (by decide +kernel) (by decide +kernel)
theorem m355 : (Jvm.Cond.methodLink "NumberLeases" (56 : Nat) ({ cls := "NumberLeases$Saves", name := "keep", desc := "(LNumberLeases$Pool;)V" } : Jvm.MethodName)) ∈ gw := gw_of 355 (by decide +kernel) (by decide +kernel)
theorem m356 : (Jvm.Cond.instanceMethod ({ cls := "NumberLeases$Saves", name := "keep", desc := "(LNumberLeases$Pool;)V" } : Jvm.MethodName)) ∈ gw := gw_of 356 (by decide +kernel) (by decide +kernel)
theorem m357 : (Jvm.Cond.selects "NumberLeases$Saves" ({ cls := "NumberLeases$Saves", name := "keep", desc := "(LNumberLeases$Pool;)V" } : Jvm.MethodName) ({ cls := "NumberLeases$Saves", name := "keep", desc := "(LNumberLeases$Pool;)V" } : Jvm.MethodName)) ∈ gw := gw_of 357 (by decide +kernel) (by decide +kernel)
theorem m358 : (Jvm.Cond.code ({ cls := "NumberLeases$Saves", name := "keep", desc := "(LNumberLeases$Pool;)V" } : Jvm.MethodName) prog_5_method_2_code (3 : Nat) (Option.none : Option Jvm.ClassFile.FieldType)) ∈ gw := gw_of 358 (by decide +kernel) (by decide +kernel)
theorem m359 : (Jvm.Cond.methodLink "NumberLeases$Saves" (22 : Nat) ({ cls := "NumberLeases$Saves", name := "dropOldest", desc := "()V" } : Jvm.MethodName)) ∈ gw := gw_of 359 (by decide +kernel) (by decide +kernel)
theorem m361 : (Jvm.Cond.instanceMethod ({ cls := "NumberLeases$Saves", name := "dropOldest", desc := "()V" } : Jvm.MethodName)) ∈ gw := gw_of 361 (by decide +kernel) (by decide +kernel)
theorem m362 : (Jvm.Cond.code ({ cls := "NumberLeases$Saves", name := "dropOldest", desc := "()V" } : Jvm.MethodName) prog_5_method_4_code (3 : Nat) (Option.none : Option Jvm.ClassFile.FieldType)) ∈ gw := gw_of 362 (by decide +kernel) (by decide +kernel)
theorem m363 : (Jvm.Cond.methodLink "NumberLeases$Saves" (25 : Nat) ({ cls := "NumberLeases$Pool", name := "copyFrom", desc := "(LNumberLeases$Pool;)V" } : Jvm.MethodName)) ∈ gw := gw_of 363 (by decide +kernel) (by decide +kernel)
theorem m364 : (Jvm.Cond.instanceMethod ({ cls := "NumberLeases$Pool", name := "copyFrom", desc := "(LNumberLeases$Pool;)V" } : Jvm.MethodName)) ∈ gw := gw_of 364 (by decide +kernel) (by decide +kernel)
theorem m365 : (Jvm.Cond.selects "NumberLeases$Pool" ({ cls := "NumberLeases$Pool", name := "copyFrom", desc := "(LNumberLeases$Pool;)V" } : Jvm.MethodName) ({ cls := "NumberLeases$Pool", name := "copyFrom", desc := "(LNumberLeases$Pool;)V" } : Jvm.MethodName)) ∈ gw := gw_of 365 (by decide +kernel) (by decide +kernel)
theorem m366 : (Jvm.Cond.code ({ cls := "NumberLeases$Pool", name := "copyFrom", desc := "(LNumberLeases$Pool;)V" } : Jvm.MethodName) prog_4_method_2_code (2 : Nat) (Option.none : Option Jvm.ClassFile.FieldType)) ∈ gw := gw_of 366 (by decide +kernel) (by decide +kernel)
theorem m367 : (Jvm.Cond.methodLink "NumberLeases$Pool" (61 : Nat) ({ cls := "NumberLeases$Pool", name := "copyRow", desc := "([I[I)V" } : Jvm.MethodName)) ∈ gw := gw_of 367 (by decide +kernel) (by decide +kernel)
theorem m368 : (Jvm.Cond.static ({ cls := "NumberLeases$Pool", name := "copyRow", desc := "([I[I)V" } : Jvm.MethodName)) ∈ gw := gw_of 368 (by decide +kernel) (by decide +kernel)
theorem m369 : (Jvm.Cond.code ({ cls := "NumberLeases$Pool", name := "copyRow", desc := "([I[I)V" } : Jvm.MethodName) prog_4_method_3_code (2 : Nat) (Option.none : Option Jvm.ClassFile.FieldType)) ∈ gw := gw_of 369 (by decide +kernel) (by decide +kernel)
theorem m370 : (Jvm.Cond.methodLink "NumberLeases$Pool" (65 : Nat) ({ cls := "java/lang/Math", name := "min", desc := "(II)I" } : Jvm.MethodName)) ∈ gw := gw_of 370 (by decide +kernel) (by decide +kernel)
theorem m371 : (Jvm.Cond.static ({ cls := "java/lang/Math", name := "min", desc := "(II)I" } : Jvm.MethodName)) ∈ gw := gw_of 371 (by decide +kernel) (by decide +kernel)
theorem m372 : (Jvm.Cond.code ({ cls := "java/lang/Math", name := "min", desc := "(II)I" } : Jvm.MethodName) prog_12_method_69_code (2 : Nat) (Option.some Jvm.ClassFile.FieldType.int)) ∈ gw := gw_of 372 (by decide +kernel) (by decide +kernel)
theorem m373 : (Jvm.Cond.methodLink "NumberLeases$Pool" (71 : Nat) ({ cls := "java/lang/System", name := "arraycopy", desc := "(Ljava/lang/Object;ILjava/lang/Object;II)V" } : Jvm.MethodName)) ∈ gw := gw_of 373 (by decide +kernel) (by decide +kernel)
theorem m374 : (Jvm.Cond.static ({ cls := "java/lang/System", name := "arraycopy", desc := "(Ljava/lang/Object;ILjava/lang/Object;II)V" } : Jvm.MethodName)) ∈ gw := gw_of 374 (by decide +kernel) (by decide +kernel)
theorem m375 : (Jvm.Cond.native ({ cls := "java/lang/System", name := "arraycopy", desc := "(Ljava/lang/Object;ILjava/lang/Object;II)V" } : Jvm.MethodName)) ∈ gw := gw_of 375 (by decide +kernel) (by decide +kernel)
theorem m376 : (Jvm.Cond.methodLink "NumberLeases" (206 : Nat) ({ cls := "NumberLeases$Pool", name := "leaseRow", desc := "(III)I" } : Jvm.MethodName)) ∈ gw := gw_of 376 (by decide +kernel) (by decide +kernel)
theorem m377 : (Jvm.Cond.instanceMethod ({ cls := "NumberLeases$Pool", name := "leaseRow", desc := "(III)I" } : Jvm.MethodName)) ∈ gw := gw_of 377 (by decide +kernel) (by decide +kernel)
theorem m378 : (Jvm.Cond.selects "NumberLeases$Pool" ({ cls := "NumberLeases$Pool", name := "leaseRow", desc := "(III)I" } : Jvm.MethodName) ({ cls := "NumberLeases$Pool", name := "leaseRow", desc := "(III)I" } : Jvm.MethodName)) ∈ gw := gw_of 378 (by decide +kernel) (by decide +kernel)
theorem m379 : (Jvm.Cond.code ({ cls := "NumberLeases$Pool", name := "leaseRow", desc := "(III)I" } : Jvm.MethodName) prog_4_method_11_code (6 : Nat) (Option.some Jvm.ClassFile.FieldType.int)) ∈ gw := gw_of 379 (by decide +kernel) (by decide +kernel)
theorem m380 : (Jvm.Cond.methodLink "NumberLeases$Pool" (91 : Nat) ({ cls := "NumberLeases$Pool", name := "lease", desc := "(III)V" } : Jvm.MethodName)) ∈ gw := gw_of 380 (by decide +kernel) (by decide +kernel)
theorem m382 : (Jvm.Cond.instanceMethod ({ cls := "NumberLeases$Pool", name := "lease", desc := "(III)V" } : Jvm.MethodName)) ∈ gw := gw_of 382 (by decide +kernel) (by decide +kernel)
theorem m383 : (Jvm.Cond.code ({ cls := "NumberLeases$Pool", name := "lease", desc := "(III)V" } : Jvm.MethodName) prog_4_method_12_code (4 : Nat) (Option.none : Option Jvm.ClassFile.FieldType)) ∈ gw := gw_of 383 (by decide +kernel) (by decide +kernel)
theorem m384 : (Jvm.Cond.methodLink "NumberLeasesLaw" (94 : Nat) ({ cls := "NumberLeasesLaw", name := "set", desc := "(LNumberLeases;II)I" } : Jvm.MethodName)) ∈ gw := gw_of 384 (by decide +kernel) (by decide +kernel)
theorem m385 : (Jvm.Cond.static ({ cls := "NumberLeasesLaw", name := "set", desc := "(LNumberLeases;II)I" } : Jvm.MethodName)) ∈ gw := gw_of 385 (by decide +kernel) (by decide +kernel)
theorem m386 : (Jvm.Cond.codeWith ({ cls := "NumberLeasesLaw", name := "set", desc := "(LNumberLeases;II)I" } : Jvm.MethodName) method_9_code (4 : Nat) (Option.some Jvm.ClassFile.FieldType.int) [((0 : Nat), (6 : Nat), (7 : Nat), (35 : Nat)), ((0 : Nat), (6 : Nat), (11 : Nat), (15 : Nat))]) ∈ gw := gw_of 386 (by decide +kernel) (by decide +kernel)
theorem m387 : (Jvm.Cond.classLink "NumberLeasesLaw" (35 : Nat) "java/lang/IllegalArgumentException") ∈ gw := gw_of 387 (by decide +kernel) (by decide +kernel)
theorem m388 : (Jvm.Cond.methodLink "NumberLeasesLaw" (32 : Nat) ({ cls := "NumberLeases", name := "set", desc := "(II)I" } : Jvm.MethodName)) ∈ gw := gw_of 388 (by decide +kernel) (by decide +kernel)
theorem m389 : (Jvm.Cond.instanceMethod ({ cls := "NumberLeases", name := "set", desc := "(II)I" } : Jvm.MethodName)) ∈ gw := gw_of 389 (by decide +kernel) (by decide +kernel)
theorem m390 : (Jvm.Cond.selects "NumberLeases" ({ cls := "NumberLeases", name := "set", desc := "(II)I" } : Jvm.MethodName) ({ cls := "NumberLeases", name := "set", desc := "(II)I" } : Jvm.MethodName)) ∈ gw := gw_of 390 (by decide +kernel) (by decide +kernel)
theorem m391 : (Jvm.Cond.code ({ cls := "NumberLeases", name := "set", desc := "(II)I" } : Jvm.MethodName) prog_1_method_9_code (4 : Nat) (Option.some Jvm.ClassFile.FieldType.int)) ∈ gw := gw_of 391 (by decide +kernel) (by decide +kernel)
theorem m392 : (Jvm.Cond.methodLink "NumberLeases" (92 : Nat) ({ cls := "NumberLeases", name := "needSetting", desc := "(I)V" } : Jvm.MethodName)) ∈ gw := gw_of 392 (by decide +kernel) (by decide +kernel)
theorem m393 : (Jvm.Cond.static ({ cls := "NumberLeases", name := "needSetting", desc := "(I)V" } : Jvm.MethodName)) ∈ gw := gw_of 393 (by decide +kernel) (by decide +kernel)
theorem m394 : (Jvm.Cond.code ({ cls := "NumberLeases", name := "needSetting", desc := "(I)V" } : Jvm.MethodName) prog_1_method_29_code (1 : Nat) (Option.none : Option Jvm.ClassFile.FieldType)) ∈ gw := gw_of 394 (by decide +kernel) (by decide +kernel)
theorem m395 : (Jvm.Cond.fieldLink "NumberLeases" (95 : Nat) "NumberLeases" "LEAST_SETTING" "[I") ∈ gw := gw_of 395 (by decide +kernel) (by decide +kernel)
theorem m397 : (Jvm.Cond.fieldLink "NumberLeases" (98 : Nat) "NumberLeases" "MOST_SETTING" "[I") ∈ gw := gw_of 397 (by decide +kernel) (by decide +kernel)
theorem m399 : (Jvm.Cond.methodLink "NumberLeases" (101 : Nat) ({ cls := "NumberLeases$Pool", name := "fitsIn", desc := "(I)Z" } : Jvm.MethodName)) ∈ gw := gw_of 399 (by decide +kernel) (by decide +kernel)
theorem m400 : (Jvm.Cond.instanceMethod ({ cls := "NumberLeases$Pool", name := "fitsIn", desc := "(I)Z" } : Jvm.MethodName)) ∈ gw := gw_of 400 (by decide +kernel) (by decide +kernel)
theorem m401 : (Jvm.Cond.selects "NumberLeases$Pool" ({ cls := "NumberLeases$Pool", name := "fitsIn", desc := "(I)Z" } : Jvm.MethodName) ({ cls := "NumberLeases$Pool", name := "fitsIn", desc := "(I)Z" } : Jvm.MethodName)) ∈ gw := gw_of 401 (by decide +kernel) (by decide +kernel)
theorem m402 : (Jvm.Cond.code ({ cls := "NumberLeases$Pool", name := "fitsIn", desc := "(I)Z" } : Jvm.MethodName) prog_4_method_9_code (3 : Nat) (Option.some Jvm.ClassFile.FieldType.boolean)) ∈ gw := gw_of 402 (by decide +kernel) (by decide +kernel)
theorem m403 : (Jvm.Cond.methodLink "NumberLeasesLaw" (99 : Nat) ({ cls := "NumberLeasesLaw", name := "act", desc := "(LNumberLeases;[II)I" } : Jvm.MethodName)) ∈ gw := gw_of 403 (by decide +kernel) (by decide +kernel)
theorem m404 : (Jvm.Cond.static ({ cls := "NumberLeasesLaw", name := "act", desc := "(LNumberLeases;[II)I" } : Jvm.MethodName)) ∈ gw := gw_of 404 (by decide +kernel) (by decide +kernel)
theorem m405 : (Jvm.Cond.code ({ cls := "NumberLeasesLaw", name := "act", desc := "(LNumberLeases;[II)I" } : Jvm.MethodName) method_10_code (7 : Nat) (Option.some Jvm.ClassFile.FieldType.int)) ∈ gw := gw_of 405 (by decide +kernel) (by decide +kernel)
theorem m406 : (Jvm.Cond.methodLink "NumberLeasesLaw" (37 : Nat) ({ cls := "NumberLeases", name := "setting", desc := "(I)I" } : Jvm.MethodName)) ∈ gw := gw_of 406 (by decide +kernel) (by decide +kernel)
theorem m407 : (Jvm.Cond.instanceMethod ({ cls := "NumberLeases", name := "setting", desc := "(I)I" } : Jvm.MethodName)) ∈ gw := gw_of 407 (by decide +kernel) (by decide +kernel)
theorem m408 : (Jvm.Cond.selects "NumberLeases" ({ cls := "NumberLeases", name := "setting", desc := "(I)I" } : Jvm.MethodName) ({ cls := "NumberLeases", name := "setting", desc := "(I)I" } : Jvm.MethodName)) ∈ gw := gw_of 408 (by decide +kernel) (by decide +kernel)
theorem m409 : (Jvm.Cond.code ({ cls := "NumberLeases", name := "setting", desc := "(I)I" } : Jvm.MethodName) prog_1_method_19_code (2 : Nat) (Option.some Jvm.ClassFile.FieldType.int)) ∈ gw := gw_of 409 (by decide +kernel) (by decide +kernel)
theorem m410 : (Jvm.Cond.methodLink "NumberLeasesLaw" (53 : Nat) ({ cls := "NumberLeasesLaw", name := "span", desc := "(LNumberLeases;III)I" } : Jvm.MethodName)) ∈ gw := gw_of 410 (by decide +kernel) (by decide +kernel)
theorem m411 : (Jvm.Cond.static ({ cls := "NumberLeasesLaw", name := "span", desc := "(LNumberLeases;III)I" } : Jvm.MethodName)) ∈ gw := gw_of 411 (by decide +kernel) (by decide +kernel)
theorem m412 : (Jvm.Cond.codeWith ({ cls := "NumberLeasesLaw", name := "span", desc := "(LNumberLeases;III)I" } : Jvm.MethodName) method_5_code (5 : Nat) (Option.some Jvm.ClassFile.FieldType.int) [((0 : Nat), (7 : Nat), (8 : Nat), (15 : Nat))]) ∈ gw := gw_of 412 (by decide +kernel) (by decide +kernel)
theorem m413 : (Jvm.Cond.methodLink "NumberLeasesLaw" (17 : Nat) ({ cls := "NumberLeases", name := "takeSpan", desc := "(III)I" } : Jvm.MethodName)) ∈ gw := gw_of 413 (by decide +kernel) (by decide +kernel)
theorem m414 : (Jvm.Cond.instanceMethod ({ cls := "NumberLeases", name := "takeSpan", desc := "(III)I" } : Jvm.MethodName)) ∈ gw := gw_of 414 (by decide +kernel) (by decide +kernel)
theorem m415 : (Jvm.Cond.selects "NumberLeases" ({ cls := "NumberLeases", name := "takeSpan", desc := "(III)I" } : Jvm.MethodName) ({ cls := "NumberLeases", name := "takeSpan", desc := "(III)I" } : Jvm.MethodName)) ∈ gw := gw_of 415 (by decide +kernel) (by decide +kernel)
theorem m416 : (Jvm.Cond.code ({ cls := "NumberLeases", name := "takeSpan", desc := "(III)I" } : Jvm.MethodName) prog_1_method_3_code (4 : Nat) (Option.some Jvm.ClassFile.FieldType.int)) ∈ gw := gw_of 416 (by decide +kernel) (by decide +kernel)
theorem m417 : (Jvm.Cond.methodLink "NumberLeasesLaw" (57 : Nat) ({ cls := "NumberLeasesLaw", name := "wish", desc := "(LNumberLeases;III)I" } : Jvm.MethodName)) ∈ gw := gw_of 417 (by decide +kernel) (by decide +kernel)
theorem m418 : (Jvm.Cond.static ({ cls := "NumberLeasesLaw", name := "wish", desc := "(LNumberLeases;III)I" } : Jvm.MethodName)) ∈ gw := gw_of 418 (by decide +kernel) (by decide +kernel)
theorem m419 : (Jvm.Cond.codeWith ({ cls := "NumberLeasesLaw", name := "wish", desc := "(LNumberLeases;III)I" } : Jvm.MethodName) method_6_code (5 : Nat) (Option.some Jvm.ClassFile.FieldType.int) [((0 : Nat), (7 : Nat), (8 : Nat), (24 : Nat)), ((0 : Nat), (7 : Nat), (13 : Nat), (15 : Nat))]) ∈ gw := gw_of 419 (by decide +kernel) (by decide +kernel)
theorem m420 : (Jvm.Cond.classLink "NumberLeasesLaw" (24 : Nat) "java/lang/IndexOutOfBoundsException") ∈ gw := gw_of 420 (by decide +kernel) (by decide +kernel)
theorem m421 : (Jvm.Cond.methodLink "NumberLeasesLaw" (21 : Nat) ({ cls := "NumberLeases", name := "wish", desc := "(III)I" } : Jvm.MethodName)) ∈ gw := gw_of 421 (by decide +kernel) (by decide +kernel)
theorem m422 : (Jvm.Cond.instanceMethod ({ cls := "NumberLeases", name := "wish", desc := "(III)I" } : Jvm.MethodName)) ∈ gw := gw_of 422 (by decide +kernel) (by decide +kernel)
theorem m423 : (Jvm.Cond.selects "NumberLeases" ({ cls := "NumberLeases", name := "wish", desc := "(III)I" } : Jvm.MethodName) ({ cls := "NumberLeases", name := "wish", desc := "(III)I" } : Jvm.MethodName)) ∈ gw := gw_of 423 (by decide +kernel) (by decide +kernel)
theorem m424 : (Jvm.Cond.code ({ cls := "NumberLeases", name := "wish", desc := "(III)I" } : Jvm.MethodName) prog_1_method_4_code (4 : Nat) (Option.some Jvm.ClassFile.FieldType.int)) ∈ gw := gw_of 424 (by decide +kernel) (by decide +kernel)
theorem m425 : (Jvm.Cond.methodLink "NumberLeases" (41 : Nat) ({ cls := "NumberLeases", name := "needNumber", desc := "(I)V" } : Jvm.MethodName)) ∈ gw := gw_of 425 (by decide +kernel) (by decide +kernel)
theorem m427 : (Jvm.Cond.instanceMethod ({ cls := "NumberLeases", name := "needNumber", desc := "(I)V" } : Jvm.MethodName)) ∈ gw := gw_of 427 (by decide +kernel) (by decide +kernel)
theorem m428 : (Jvm.Cond.code ({ cls := "NumberLeases", name := "needNumber", desc := "(I)V" } : Jvm.MethodName) prog_1_method_28_code (2 : Nat) (Option.none : Option Jvm.ClassFile.FieldType)) ∈ gw := gw_of 428 (by decide +kernel) (by decide +kernel)
theorem m429 : (Jvm.Cond.methodLink "NumberLeases" (197 : Nat) ({ cls := "NumberLeases$Pool", name := "hasNumber", desc := "(I)Z" } : Jvm.MethodName)) ∈ gw := gw_of 429 (by decide +kernel) (by decide +kernel)
theorem m430 : (Jvm.Cond.instanceMethod ({ cls := "NumberLeases$Pool", name := "hasNumber", desc := "(I)Z" } : Jvm.MethodName)) ∈ gw := gw_of 430 (by decide +kernel) (by decide +kernel)
theorem m431 : (Jvm.Cond.selects "NumberLeases$Pool" ({ cls := "NumberLeases$Pool", name := "hasNumber", desc := "(I)Z" } : Jvm.MethodName) ({ cls := "NumberLeases$Pool", name := "hasNumber", desc := "(I)Z" } : Jvm.MethodName)) ∈ gw := gw_of 431 (by decide +kernel) (by decide +kernel)
theorem m432 : (Jvm.Cond.code ({ cls := "NumberLeases$Pool", name := "hasNumber", desc := "(I)Z" } : Jvm.MethodName) prog_4_method_4_code (2 : Nat) (Option.some Jvm.ClassFile.FieldType.boolean)) ∈ gw := gw_of 432 (by decide +kernel) (by decide +kernel)
theorem m433 : (Jvm.Cond.methodLink "NumberLeases" (48 : Nat) ({ cls := "NumberLeases$Pool", name := "mayWish", desc := "(II)Z" } : Jvm.MethodName)) ∈ gw := gw_of 433 (by decide +kernel) (by decide +kernel)
theorem m434 : (Jvm.Cond.instanceMethod ({ cls := "NumberLeases$Pool", name := "mayWish", desc := "(II)Z" } : Jvm.MethodName)) ∈ gw := gw_of 434 (by decide +kernel) (by decide +kernel)
theorem m435 : (Jvm.Cond.selects "NumberLeases$Pool" ({ cls := "NumberLeases$Pool", name := "mayWish", desc := "(II)Z" } : Jvm.MethodName) ({ cls := "NumberLeases$Pool", name := "mayWish", desc := "(II)Z" } : Jvm.MethodName)) ∈ gw := gw_of 435 (by decide +kernel) (by decide +kernel)
theorem m436 : (Jvm.Cond.code ({ cls := "NumberLeases$Pool", name := "mayWish", desc := "(II)Z" } : Jvm.MethodName) prog_4_method_6_code (3 : Nat) (Option.some Jvm.ClassFile.FieldType.boolean)) ∈ gw := gw_of 436 (by decide +kernel) (by decide +kernel)
theorem m437 : (Jvm.Cond.methodLink "NumberLeases$Pool" (85 : Nat) ({ cls := "NumberLeases$Pool", name := "placeOfWish", desc := "(II)I" } : Jvm.MethodName)) ∈ gw := gw_of 437 (by decide +kernel) (by decide +kernel)
theorem m438 : (Jvm.Cond.instanceMethod ({ cls := "NumberLeases$Pool", name := "placeOfWish", desc := "(II)I" } : Jvm.MethodName)) ∈ gw := gw_of 438 (by decide +kernel) (by decide +kernel)
theorem m439 : (Jvm.Cond.selects "NumberLeases$Pool" ({ cls := "NumberLeases$Pool", name := "placeOfWish", desc := "(II)I" } : Jvm.MethodName) ({ cls := "NumberLeases$Pool", name := "placeOfWish", desc := "(II)I" } : Jvm.MethodName)) ∈ gw := gw_of 439 (by decide +kernel) (by decide +kernel)
theorem m440 : (Jvm.Cond.code ({ cls := "NumberLeases$Pool", name := "placeOfWish", desc := "(II)I" } : Jvm.MethodName) prog_4_method_17_code (4 : Nat) (Option.some Jvm.ClassFile.FieldType.int)) ∈ gw := gw_of 440 (by decide +kernel) (by decide +kernel)
theorem m441 : (Jvm.Cond.methodLink "NumberLeases" (60 : Nat) ({ cls := "NumberLeases$Pool", name := "addWish", desc := "(III)I" } : Jvm.MethodName)) ∈ gw := gw_of 441 (by decide +kernel) (by decide +kernel)
theorem m442 : (Jvm.Cond.instanceMethod ({ cls := "NumberLeases$Pool", name := "addWish", desc := "(III)I" } : Jvm.MethodName)) ∈ gw := gw_of 442 (by decide +kernel) (by decide +kernel)
theorem m443 : (Jvm.Cond.selects "NumberLeases$Pool" ({ cls := "NumberLeases$Pool", name := "addWish", desc := "(III)I" } : Jvm.MethodName) ({ cls := "NumberLeases$Pool", name := "addWish", desc := "(III)I" } : Jvm.MethodName)) ∈ gw := gw_of 443 (by decide +kernel) (by decide +kernel)
theorem m444 : (Jvm.Cond.code ({ cls := "NumberLeases$Pool", name := "addWish", desc := "(III)I" } : Jvm.MethodName) prog_4_method_16_code (5 : Nat) (Option.some Jvm.ClassFile.FieldType.int)) ∈ gw := gw_of 444 (by decide +kernel) (by decide +kernel)
theorem m445 : (Jvm.Cond.methodLink "NumberLeasesLaw" (59 : Nat) ({ cls := "NumberLeasesLaw", name := "renew", desc := "(LNumberLeases;III)I" } : Jvm.MethodName)) ∈ gw := gw_of 445 (by decide +kernel) (by decide +kernel)
theorem m446 : (Jvm.Cond.static ({ cls := "NumberLeasesLaw", name := "renew", desc := "(LNumberLeases;III)I" } : Jvm.MethodName)) ∈ gw := gw_of 446 (by decide +kernel) (by decide +kernel)
theorem m447 : (Jvm.Cond.codeWith ({ cls := "NumberLeasesLaw", name := "renew", desc := "(LNumberLeases;III)I" } : Jvm.MethodName) method_8_code (5 : Nat) (Option.some Jvm.ClassFile.FieldType.int) [((0 : Nat), (7 : Nat), (8 : Nat), (15 : Nat))]) ∈ gw := gw_of 447 (by decide +kernel) (by decide +kernel)
theorem m448 : (Jvm.Cond.methodLink "NumberLeasesLaw" (29 : Nat) ({ cls := "NumberLeases", name := "renew", desc := "(III)I" } : Jvm.MethodName)) ∈ gw := gw_of 448 (by decide +kernel) (by decide +kernel)
theorem m449 : (Jvm.Cond.instanceMethod ({ cls := "NumberLeases", name := "renew", desc := "(III)I" } : Jvm.MethodName)) ∈ gw := gw_of 449 (by decide +kernel) (by decide +kernel)
theorem m450 : (Jvm.Cond.selects "NumberLeases" ({ cls := "NumberLeases", name := "renew", desc := "(III)I" } : Jvm.MethodName) ({ cls := "NumberLeases", name := "renew", desc := "(III)I" } : Jvm.MethodName)) ∈ gw := gw_of 450 (by decide +kernel) (by decide +kernel)
theorem m451 : (Jvm.Cond.code ({ cls := "NumberLeases", name := "renew", desc := "(III)I" } : Jvm.MethodName) prog_1_method_6_code (4 : Nat) (Option.some Jvm.ClassFile.FieldType.int)) ∈ gw := gw_of 451 (by decide +kernel) (by decide +kernel)
theorem m452 : (Jvm.Cond.methodLink "NumberLeases" (75 : Nat) ({ cls := "NumberLeases$Pool", name := "mayRenew", desc := "(II)Z" } : Jvm.MethodName)) ∈ gw := gw_of 452 (by decide +kernel) (by decide +kernel)
theorem m453 : (Jvm.Cond.instanceMethod ({ cls := "NumberLeases$Pool", name := "mayRenew", desc := "(II)Z" } : Jvm.MethodName)) ∈ gw := gw_of 453 (by decide +kernel) (by decide +kernel)
theorem m454 : (Jvm.Cond.selects "NumberLeases$Pool" ({ cls := "NumberLeases$Pool", name := "mayRenew", desc := "(II)Z" } : Jvm.MethodName) ({ cls := "NumberLeases$Pool", name := "mayRenew", desc := "(II)Z" } : Jvm.MethodName)) ∈ gw := gw_of 454 (by decide +kernel) (by decide +kernel)
theorem m455 : (Jvm.Cond.code ({ cls := "NumberLeases$Pool", name := "mayRenew", desc := "(II)Z" } : Jvm.MethodName) prog_4_method_7_code (3 : Nat) (Option.some Jvm.ClassFile.FieldType.boolean)) ∈ gw := gw_of 455 (by decide +kernel) (by decide +kernel)
theorem m456 : (Jvm.Cond.methodLink "NumberLeases" (78 : Nat) ({ cls := "NumberLeases$Pool", name := "prolong", desc := "(II)I" } : Jvm.MethodName)) ∈ gw := gw_of 456 (by decide +kernel) (by decide +kernel)
theorem m457 : (Jvm.Cond.instanceMethod ({ cls := "NumberLeases$Pool", name := "prolong", desc := "(II)I" } : Jvm.MethodName)) ∈ gw := gw_of 457 (by decide +kernel) (by decide +kernel)
theorem m458 : (Jvm.Cond.selects "NumberLeases$Pool" ({ cls := "NumberLeases$Pool", name := "prolong", desc := "(II)I" } : Jvm.MethodName) ({ cls := "NumberLeases$Pool", name := "prolong", desc := "(II)I" } : Jvm.MethodName)) ∈ gw := gw_of 458 (by decide +kernel) (by decide +kernel)
theorem m459 : (Jvm.Cond.code ({ cls := "NumberLeases$Pool", name := "prolong", desc := "(II)I" } : Jvm.MethodName) prog_4_method_13_code (4 : Nat) (Option.some Jvm.ClassFile.FieldType.int)) ∈ gw := gw_of 459 (by decide +kernel) (by decide +kernel)
theorem m460 : (Jvm.Cond.methodLink "NumberLeasesLaw" (61 : Nat) ({ cls := "NumberLeases", name := "giveBack", desc := "(III)I" } : Jvm.MethodName)) ∈ gw := gw_of 460 (by decide +kernel) (by decide +kernel)
theorem m461 : (Jvm.Cond.instanceMethod ({ cls := "NumberLeases", name := "giveBack", desc := "(III)I" } : Jvm.MethodName)) ∈ gw := gw_of 461 (by decide +kernel) (by decide +kernel)
theorem m462 : (Jvm.Cond.selects "NumberLeases" ({ cls := "NumberLeases", name := "giveBack", desc := "(III)I" } : Jvm.MethodName) ({ cls := "NumberLeases", name := "giveBack", desc := "(III)I" } : Jvm.MethodName)) ∈ gw := gw_of 462 (by decide +kernel) (by decide +kernel)
theorem m463 : (Jvm.Cond.code ({ cls := "NumberLeases", name := "giveBack", desc := "(III)I" } : Jvm.MethodName) prog_1_method_7_code (4 : Nat) (Option.some Jvm.ClassFile.FieldType.int)) ∈ gw := gw_of 463 (by decide +kernel) (by decide +kernel)
theorem m464 : (Jvm.Cond.methodLink "NumberLeases" (81 : Nat) ({ cls := "NumberLeases$Pool", name := "freeSpan", desc := "(III)I" } : Jvm.MethodName)) ∈ gw := gw_of 464 (by decide +kernel) (by decide +kernel)
theorem m465 : (Jvm.Cond.instanceMethod ({ cls := "NumberLeases$Pool", name := "freeSpan", desc := "(III)I" } : Jvm.MethodName)) ∈ gw := gw_of 465 (by decide +kernel) (by decide +kernel)
theorem m466 : (Jvm.Cond.selects "NumberLeases$Pool" ({ cls := "NumberLeases$Pool", name := "freeSpan", desc := "(III)I" } : Jvm.MethodName) ({ cls := "NumberLeases$Pool", name := "freeSpan", desc := "(III)I" } : Jvm.MethodName)) ∈ gw := gw_of 466 (by decide +kernel) (by decide +kernel)
theorem m467 : (Jvm.Cond.code ({ cls := "NumberLeases$Pool", name := "freeSpan", desc := "(III)I" } : Jvm.MethodName) prog_4_method_14_code (6 : Nat) (Option.some Jvm.ClassFile.FieldType.int)) ∈ gw := gw_of 467 (by decide +kernel) (by decide +kernel)
theorem m468 : (Jvm.Cond.methodLink "NumberLeases$Pool" (98 : Nat) ({ cls := "NumberLeases$Pool", name := "free", desc := "(I)V" } : Jvm.MethodName)) ∈ gw := gw_of 468 (by decide +kernel) (by decide +kernel)
theorem m470 : (Jvm.Cond.instanceMethod ({ cls := "NumberLeases$Pool", name := "free", desc := "(I)V" } : Jvm.MethodName)) ∈ gw := gw_of 470 (by decide +kernel) (by decide +kernel)
theorem m471 : (Jvm.Cond.code ({ cls := "NumberLeases$Pool", name := "free", desc := "(I)V" } : Jvm.MethodName) prog_4_method_15_code (5 : Nat) (Option.none : Option Jvm.ClassFile.FieldType)) ∈ gw := gw_of 471 (by decide +kernel) (by decide +kernel)
theorem m472 : (Jvm.Cond.methodLink "NumberLeases$Pool" (102 : Nat) ({ cls := "NumberLeases$Pool", name := "dropWish", desc := "(II)V" } : Jvm.MethodName)) ∈ gw := gw_of 472 (by decide +kernel) (by decide +kernel)
theorem m473 : (Jvm.Cond.instanceMethod ({ cls := "NumberLeases$Pool", name := "dropWish", desc := "(II)V" } : Jvm.MethodName)) ∈ gw := gw_of 473 (by decide +kernel) (by decide +kernel)
theorem m474 : (Jvm.Cond.selects "NumberLeases$Pool" ({ cls := "NumberLeases$Pool", name := "dropWish", desc := "(II)V" } : Jvm.MethodName) ({ cls := "NumberLeases$Pool", name := "dropWish", desc := "(II)V" } : Jvm.MethodName)) ∈ gw := gw_of 474 (by decide +kernel) (by decide +kernel)
theorem m475 : (Jvm.Cond.code ({ cls := "NumberLeases$Pool", name := "dropWish", desc := "(II)V" } : Jvm.MethodName) prog_4_method_18_code (5 : Nat) (Option.none : Option Jvm.ClassFile.FieldType)) ∈ gw := gw_of 475 (by decide +kernel) (by decide +kernel)
theorem m476 : (Jvm.Cond.methodLink "NumberLeasesLaw" (64 : Nat) ({ cls := "NumberLeasesLaw", name := "unwish", desc := "(LNumberLeases;II)I" } : Jvm.MethodName)) ∈ gw := gw_of 476 (by decide +kernel) (by decide +kernel)
theorem m477 : (Jvm.Cond.static ({ cls := "NumberLeasesLaw", name := "unwish", desc := "(LNumberLeases;II)I" } : Jvm.MethodName)) ∈ gw := gw_of 477 (by decide +kernel) (by decide +kernel)
theorem m478 : (Jvm.Cond.codeWith ({ cls := "NumberLeasesLaw", name := "unwish", desc := "(LNumberLeases;II)I" } : Jvm.MethodName) method_7_code (4 : Nat) (Option.some Jvm.ClassFile.FieldType.int) [((0 : Nat), (6 : Nat), (7 : Nat), (15 : Nat))]) ∈ gw := gw_of 478 (by decide +kernel) (by decide +kernel)
theorem m479 : (Jvm.Cond.methodLink "NumberLeasesLaw" (26 : Nat) ({ cls := "NumberLeases", name := "unwish", desc := "(II)I" } : Jvm.MethodName)) ∈ gw := gw_of 479 (by decide +kernel) (by decide +kernel)
theorem m480 : (Jvm.Cond.instanceMethod ({ cls := "NumberLeases", name := "unwish", desc := "(II)I" } : Jvm.MethodName)) ∈ gw := gw_of 480 (by decide +kernel) (by decide +kernel)
theorem m481 : (Jvm.Cond.selects "NumberLeases" ({ cls := "NumberLeases", name := "unwish", desc := "(II)I" } : Jvm.MethodName) ({ cls := "NumberLeases", name := "unwish", desc := "(II)I" } : Jvm.MethodName)) ∈ gw := gw_of 481 (by decide +kernel) (by decide +kernel)
theorem m482 : (Jvm.Cond.code ({ cls := "NumberLeases", name := "unwish", desc := "(II)I" } : Jvm.MethodName) prog_1_method_5_code (4 : Nat) (Option.some Jvm.ClassFile.FieldType.int)) ∈ gw := gw_of 482 (by decide +kernel) (by decide +kernel)
theorem m483 : (Jvm.Cond.methodLink "NumberLeases" (63 : Nat) ({ cls := "NumberLeases$Pool", name := "placeOfWish", desc := "(II)I" } : Jvm.MethodName)) ∈ gw := gw_of 483 (by decide +kernel) (by decide +kernel)
theorem m484 : (Jvm.Cond.methodLink "NumberLeases" (67 : Nat) ({ cls := "NumberLeases$Pool", name := "dropWish", desc := "(II)V" } : Jvm.MethodName)) ∈ gw := gw_of 484 (by decide +kernel) (by decide +kernel)
theorem m485 : (Jvm.Cond.methodLink "NumberLeasesLaw" (66 : Nat) ({ cls := "NumberLeases", name := "pass", desc := "(I)I" } : Jvm.MethodName)) ∈ gw := gw_of 485 (by decide +kernel) (by decide +kernel)
theorem m486 : (Jvm.Cond.instanceMethod ({ cls := "NumberLeases", name := "pass", desc := "(I)I" } : Jvm.MethodName)) ∈ gw := gw_of 486 (by decide +kernel) (by decide +kernel)
theorem m487 : (Jvm.Cond.selects "NumberLeases" ({ cls := "NumberLeases", name := "pass", desc := "(I)I" } : Jvm.MethodName) ({ cls := "NumberLeases", name := "pass", desc := "(I)I" } : Jvm.MethodName)) ∈ gw := gw_of 487 (by decide +kernel) (by decide +kernel)
theorem m488 : (Jvm.Cond.code ({ cls := "NumberLeases", name := "pass", desc := "(I)I" } : Jvm.MethodName) prog_1_method_8_code (2 : Nat) (Option.some Jvm.ClassFile.FieldType.int)) ∈ gw := gw_of 488 (by decide +kernel) (by decide +kernel)
theorem m489 : (Jvm.Cond.methodLink "NumberLeases" (84 : Nat) ({ cls := "NumberLeases$Pool", name := "hasTimeFor", desc := "(I)Z" } : Jvm.MethodName)) ∈ gw := gw_of 489 (by decide +kernel) (by decide +kernel)
theorem m490 : (Jvm.Cond.instanceMethod ({ cls := "NumberLeases$Pool", name := "hasTimeFor", desc := "(I)Z" } : Jvm.MethodName)) ∈ gw := gw_of 490 (by decide +kernel) (by decide +kernel)
theorem m491 : (Jvm.Cond.selects "NumberLeases$Pool" ({ cls := "NumberLeases$Pool", name := "hasTimeFor", desc := "(I)Z" } : Jvm.MethodName) ({ cls := "NumberLeases$Pool", name := "hasTimeFor", desc := "(I)Z" } : Jvm.MethodName)) ∈ gw := gw_of 491 (by decide +kernel) (by decide +kernel)
theorem m492 : (Jvm.Cond.code ({ cls := "NumberLeases$Pool", name := "hasTimeFor", desc := "(I)Z" } : Jvm.MethodName) prog_4_method_8_code (2 : Nat) (Option.some Jvm.ClassFile.FieldType.boolean)) ∈ gw := gw_of 492 (by decide +kernel) (by decide +kernel)
theorem m493 : (Jvm.Cond.methodLink "NumberLeases" (88 : Nat) ({ cls := "NumberLeases$Pool", name := "passUnits", desc := "(I)I" } : Jvm.MethodName)) ∈ gw := gw_of 493 (by decide +kernel) (by decide +kernel)
theorem m494 : (Jvm.Cond.instanceMethod ({ cls := "NumberLeases$Pool", name := "passUnits", desc := "(I)I" } : Jvm.MethodName)) ∈ gw := gw_of 494 (by decide +kernel) (by decide +kernel)
theorem m495 : (Jvm.Cond.selects "NumberLeases$Pool" ({ cls := "NumberLeases$Pool", name := "passUnits", desc := "(I)I" } : Jvm.MethodName) ({ cls := "NumberLeases$Pool", name := "passUnits", desc := "(I)I" } : Jvm.MethodName)) ∈ gw := gw_of 495 (by decide +kernel) (by decide +kernel)
theorem m496 : (Jvm.Cond.code ({ cls := "NumberLeases$Pool", name := "passUnits", desc := "(I)I" } : Jvm.MethodName) prog_4_method_19_code (4 : Nat) (Option.some Jvm.ClassFile.FieldType.int)) ∈ gw := gw_of 496 (by decide +kernel) (by decide +kernel)
theorem m497 : (Jvm.Cond.methodLink "NumberLeases$Pool" (106 : Nat) ({ cls := "NumberLeases$Pool", name := "countUnits", desc := "()V" } : Jvm.MethodName)) ∈ gw := gw_of 497 (by decide +kernel) (by decide +kernel)
theorem m499 : (Jvm.Cond.instanceMethod ({ cls := "NumberLeases$Pool", name := "countUnits", desc := "()V" } : Jvm.MethodName)) ∈ gw := gw_of 499 (by decide +kernel) (by decide +kernel)
theorem m500 : (Jvm.Cond.code ({ cls := "NumberLeases$Pool", name := "countUnits", desc := "()V" } : Jvm.MethodName) prog_4_method_21_code (2 : Nat) (Option.none : Option Jvm.ClassFile.FieldType)) ∈ gw := gw_of 500 (by decide +kernel) (by decide +kernel)
theorem m501 : (Jvm.Cond.methodLink "NumberLeases$Pool" (109 : Nat) ({ cls := "NumberLeases$Pool", name := "freeDue", desc := "()V" } : Jvm.MethodName)) ∈ gw := gw_of 501 (by decide +kernel) (by decide +kernel)
theorem m503 : (Jvm.Cond.instanceMethod ({ cls := "NumberLeases$Pool", name := "freeDue", desc := "()V" } : Jvm.MethodName)) ∈ gw := gw_of 503 (by decide +kernel) (by decide +kernel)
theorem m504 : (Jvm.Cond.code ({ cls := "NumberLeases$Pool", name := "freeDue", desc := "()V" } : Jvm.MethodName) prog_4_method_22_code (2 : Nat) (Option.none : Option Jvm.ClassFile.FieldType)) ∈ gw := gw_of 504 (by decide +kernel) (by decide +kernel)
theorem m505 : (Jvm.Cond.methodLink "NumberLeasesLaw" (96 : Nat) ({ cls := "NumberLeasesLaw", name := "undo", desc := "(LNumberLeases;)I" } : Jvm.MethodName)) ∈ gw := gw_of 505 (by decide +kernel) (by decide +kernel)
theorem m506 : (Jvm.Cond.static ({ cls := "NumberLeasesLaw", name := "undo", desc := "(LNumberLeases;)I" } : Jvm.MethodName)) ∈ gw := gw_of 506 (by decide +kernel) (by decide +kernel)
theorem m507 : (Jvm.Cond.codeWith ({ cls := "NumberLeasesLaw", name := "undo", desc := "(LNumberLeases;)I" } : Jvm.MethodName) method_11_code (2 : Nat) (Option.some Jvm.ClassFile.FieldType.int) [((0 : Nat), (4 : Nat), (5 : Nat), (15 : Nat))]) ∈ gw := gw_of 507 (by decide +kernel) (by decide +kernel)
theorem m508 : (Jvm.Cond.methodLink "NumberLeasesLaw" (69 : Nat) ({ cls := "NumberLeases", name := "undo", desc := "()I" } : Jvm.MethodName)) ∈ gw := gw_of 508 (by decide +kernel) (by decide +kernel)
theorem m509 : (Jvm.Cond.instanceMethod ({ cls := "NumberLeases", name := "undo", desc := "()I" } : Jvm.MethodName)) ∈ gw := gw_of 509 (by decide +kernel) (by decide +kernel)
theorem m510 : (Jvm.Cond.selects "NumberLeases" ({ cls := "NumberLeases", name := "undo", desc := "()I" } : Jvm.MethodName) ({ cls := "NumberLeases", name := "undo", desc := "()I" } : Jvm.MethodName)) ∈ gw := gw_of 510 (by decide +kernel) (by decide +kernel)
theorem m511 : (Jvm.Cond.code ({ cls := "NumberLeases", name := "undo", desc := "()I" } : Jvm.MethodName) prog_1_method_14_code (1 : Nat) (Option.some Jvm.ClassFile.FieldType.int)) ∈ gw := gw_of 511 (by decide +kernel) (by decide +kernel)
theorem m512 : (Jvm.Cond.methodLink "NumberLeases" (136 : Nat) ({ cls := "NumberLeases$Saves", name := "restore", desc := "(LNumberLeases$Pool;)V" } : Jvm.MethodName)) ∈ gw := gw_of 512 (by decide +kernel) (by decide +kernel)
theorem m513 : (Jvm.Cond.instanceMethod ({ cls := "NumberLeases$Saves", name := "restore", desc := "(LNumberLeases$Pool;)V" } : Jvm.MethodName)) ∈ gw := gw_of 513 (by decide +kernel) (by decide +kernel)
theorem m514 : (Jvm.Cond.selects "NumberLeases$Saves" ({ cls := "NumberLeases$Saves", name := "restore", desc := "(LNumberLeases$Pool;)V" } : Jvm.MethodName) ({ cls := "NumberLeases$Saves", name := "restore", desc := "(LNumberLeases$Pool;)V" } : Jvm.MethodName)) ∈ gw := gw_of 514 (by decide +kernel) (by decide +kernel)
theorem m515 : (Jvm.Cond.code ({ cls := "NumberLeases$Saves", name := "restore", desc := "(LNumberLeases$Pool;)V" } : Jvm.MethodName) prog_5_method_3_code (3 : Nat) (Option.none : Option Jvm.ClassFile.FieldType)) ∈ gw := gw_of 515 (by decide +kernel) (by decide +kernel)
theorem m516 : (Jvm.Cond.methodLink "NumberLeasesLaw" (103 : Nat) ({ cls := "NumberLeasesLaw", name := "numbers", desc := "(LNumberLeases;)Z" } : Jvm.MethodName)) ∈ gw := gw_of 516 (by decide +kernel) (by decide +kernel)
theorem m517 : (Jvm.Cond.static ({ cls := "NumberLeasesLaw", name := "numbers", desc := "(LNumberLeases;)Z" } : Jvm.MethodName)) ∈ gw := gw_of 517 (by decide +kernel) (by decide +kernel)
theorem m518 : (Jvm.Cond.code ({ cls := "NumberLeasesLaw", name := "numbers", desc := "(LNumberLeases;)Z" } : Jvm.MethodName) method_12_code (9 : Nat) (Option.some Jvm.ClassFile.FieldType.boolean)) ∈ gw := gw_of 518 (by decide +kernel) (by decide +kernel)
theorem m519 : (Jvm.Cond.methodLink "NumberLeasesLaw" (76 : Nat) ({ cls := "NumberLeases", name := "number", desc := "(II)I" } : Jvm.MethodName)) ∈ gw := gw_of 519 (by decide +kernel) (by decide +kernel)
theorem m520 : (Jvm.Cond.instanceMethod ({ cls := "NumberLeases", name := "number", desc := "(II)I" } : Jvm.MethodName)) ∈ gw := gw_of 520 (by decide +kernel) (by decide +kernel)
theorem m521 : (Jvm.Cond.selects "NumberLeases" ({ cls := "NumberLeases", name := "number", desc := "(II)I" } : Jvm.MethodName) ({ cls := "NumberLeases", name := "number", desc := "(II)I" } : Jvm.MethodName)) ∈ gw := gw_of 521 (by decide +kernel) (by decide +kernel)
theorem m522 : (Jvm.Cond.code ({ cls := "NumberLeases", name := "number", desc := "(II)I" } : Jvm.MethodName) prog_1_method_15_code (3 : Nat) (Option.some Jvm.ClassFile.FieldType.int)) ∈ gw := gw_of 522 (by decide +kernel) (by decide +kernel)
theorem m523 : (Jvm.Cond.methodLink "NumberLeases" (139 : Nat) ({ cls := "NumberLeases$Pool", name := "ofNumber", desc := "(II)I" } : Jvm.MethodName)) ∈ gw := gw_of 523 (by decide +kernel) (by decide +kernel)
theorem m524 : (Jvm.Cond.instanceMethod ({ cls := "NumberLeases$Pool", name := "ofNumber", desc := "(II)I" } : Jvm.MethodName)) ∈ gw := gw_of 524 (by decide +kernel) (by decide +kernel)
theorem m525 : (Jvm.Cond.selects "NumberLeases$Pool" ({ cls := "NumberLeases$Pool", name := "ofNumber", desc := "(II)I" } : Jvm.MethodName) ({ cls := "NumberLeases$Pool", name := "ofNumber", desc := "(II)I" } : Jvm.MethodName)) ∈ gw := gw_of 525 (by decide +kernel) (by decide +kernel)
theorem m526 : (Jvm.Cond.code ({ cls := "NumberLeases$Pool", name := "ofNumber", desc := "(II)I" } : Jvm.MethodName) prog_4_method_24_code (5 : Nat) (Option.some Jvm.ClassFile.FieldType.int)) ∈ gw := gw_of 526 (by decide +kernel) (by decide +kernel)
theorem m527 : (Jvm.Cond.methodLink "NumberLeasesLaw" (79 : Nat) ({ cls := "NumberLeases", name := "whoAfter", desc := "(II)I" } : Jvm.MethodName)) ∈ gw := gw_of 527 (by decide +kernel) (by decide +kernel)
theorem m528 : (Jvm.Cond.instanceMethod ({ cls := "NumberLeases", name := "whoAfter", desc := "(II)I" } : Jvm.MethodName)) ∈ gw := gw_of 528 (by decide +kernel) (by decide +kernel)
theorem m529 : (Jvm.Cond.selects "NumberLeases" ({ cls := "NumberLeases", name := "whoAfter", desc := "(II)I" } : Jvm.MethodName) ({ cls := "NumberLeases", name := "whoAfter", desc := "(II)I" } : Jvm.MethodName)) ∈ gw := gw_of 529 (by decide +kernel) (by decide +kernel)
theorem m530 : (Jvm.Cond.code ({ cls := "NumberLeases", name := "whoAfter", desc := "(II)I" } : Jvm.MethodName) prog_1_method_20_code (3 : Nat) (Option.some Jvm.ClassFile.FieldType.int)) ∈ gw := gw_of 530 (by decide +kernel) (by decide +kernel)
theorem m531 : (Jvm.Cond.methodLink "NumberLeases" (151 : Nat) ({ cls := "NumberLeases", name := "holderAfter", desc := "(II)I" } : Jvm.MethodName)) ∈ gw := gw_of 531 (by decide +kernel) (by decide +kernel)
theorem m533 : (Jvm.Cond.instanceMethod ({ cls := "NumberLeases", name := "holderAfter", desc := "(II)I" } : Jvm.MethodName)) ∈ gw := gw_of 533 (by decide +kernel) (by decide +kernel)
theorem m534 : (Jvm.Cond.code ({ cls := "NumberLeases", name := "holderAfter", desc := "(II)I" } : Jvm.MethodName) prog_1_method_35_code (6 : Nat) (Option.some Jvm.ClassFile.FieldType.int)) ∈ gw := gw_of 534 (by decide +kernel) (by decide +kernel)
theorem m535 : (Jvm.Cond.methodLink "NumberLeases" (224 : Nat) ({ cls := "NumberLeases$Pool", name := "copyFrom", desc := "(LNumberLeases$Pool;)V" } : Jvm.MethodName)) ∈ gw := gw_of 535 (by decide +kernel) (by decide +kernel)
theorem m536 : (Jvm.Cond.methodLink "NumberLeases" (230 : Nat) ({ cls := "NumberLeases$Pool", name := "leap", desc := "(I)Z" } : Jvm.MethodName)) ∈ gw := gw_of 536 (by decide +kernel) (by decide +kernel)
theorem m537 : (Jvm.Cond.instanceMethod ({ cls := "NumberLeases$Pool", name := "leap", desc := "(I)Z" } : Jvm.MethodName)) ∈ gw := gw_of 537 (by decide +kernel) (by decide +kernel)
theorem m538 : (Jvm.Cond.selects "NumberLeases$Pool" ({ cls := "NumberLeases$Pool", name := "leap", desc := "(I)Z" } : Jvm.MethodName) ({ cls := "NumberLeases$Pool", name := "leap", desc := "(I)Z" } : Jvm.MethodName)) ∈ gw := gw_of 538 (by decide +kernel) (by decide +kernel)
theorem m539 : (Jvm.Cond.code ({ cls := "NumberLeases$Pool", name := "leap", desc := "(I)Z" } : Jvm.MethodName) prog_4_method_20_code (4 : Nat) (Option.some Jvm.ClassFile.FieldType.boolean)) ∈ gw := gw_of 539 (by decide +kernel) (by decide +kernel)
theorem m540 : (Jvm.Cond.methodLink "NumberLeasesLaw" (82 : Nat) ({ cls := "NumberLeases", name := "wishedIn", desc := "(II)I" } : Jvm.MethodName)) ∈ gw := gw_of 540 (by decide +kernel) (by decide +kernel)
theorem m541 : (Jvm.Cond.instanceMethod ({ cls := "NumberLeases", name := "wishedIn", desc := "(II)I" } : Jvm.MethodName)) ∈ gw := gw_of 541 (by decide +kernel) (by decide +kernel)
theorem m542 : (Jvm.Cond.selects "NumberLeases" ({ cls := "NumberLeases", name := "wishedIn", desc := "(II)I" } : Jvm.MethodName) ({ cls := "NumberLeases", name := "wishedIn", desc := "(II)I" } : Jvm.MethodName)) ∈ gw := gw_of 542 (by decide +kernel) (by decide +kernel)
theorem m543 : (Jvm.Cond.code ({ cls := "NumberLeases", name := "wishedIn", desc := "(II)I" } : Jvm.MethodName) prog_1_method_22_code (3 : Nat) (Option.some Jvm.ClassFile.FieldType.int)) ∈ gw := gw_of 543 (by decide +kernel) (by decide +kernel)
theorem m544 : (Jvm.Cond.methodLink "NumberLeases" (157 : Nat) ({ cls := "NumberLeases", name := "timeToWished", desc := "(II)I" } : Jvm.MethodName)) ∈ gw := gw_of 544 (by decide +kernel) (by decide +kernel)
theorem m546 : (Jvm.Cond.instanceMethod ({ cls := "NumberLeases", name := "timeToWished", desc := "(II)I" } : Jvm.MethodName)) ∈ gw := gw_of 546 (by decide +kernel) (by decide +kernel)
theorem m547 : (Jvm.Cond.code ({ cls := "NumberLeases", name := "timeToWished", desc := "(II)I" } : Jvm.MethodName) prog_1_method_37_code (5 : Nat) (Option.some Jvm.ClassFile.FieldType.int)) ∈ gw := gw_of 547 (by decide +kernel) (by decide +kernel)
theorem m548 : (Jvm.Cond.methodLink "NumberLeasesLaw" (107 : Nat) ({ cls := "NumberLeasesLaw", name := "holders", desc := "(LNumberLeases;)Z" } : Jvm.MethodName)) ∈ gw := gw_of 548 (by decide +kernel) (by decide +kernel)
theorem m549 : (Jvm.Cond.static ({ cls := "NumberLeasesLaw", name := "holders", desc := "(LNumberLeases;)Z" } : Jvm.MethodName)) ∈ gw := gw_of 549 (by decide +kernel) (by decide +kernel)
theorem m550 : (Jvm.Cond.code ({ cls := "NumberLeasesLaw", name := "holders", desc := "(LNumberLeases;)Z" } : Jvm.MethodName) method_13_code (9 : Nat) (Option.some Jvm.ClassFile.FieldType.boolean)) ∈ gw := gw_of 550 (by decide +kernel) (by decide +kernel)
theorem m551 : (Jvm.Cond.methodLink "NumberLeasesLaw" (85 : Nat) ({ cls := "NumberLeases", name := "holder", desc := "(II)I" } : Jvm.MethodName)) ∈ gw := gw_of 551 (by decide +kernel) (by decide +kernel)
theorem m552 : (Jvm.Cond.instanceMethod ({ cls := "NumberLeases", name := "holder", desc := "(II)I" } : Jvm.MethodName)) ∈ gw := gw_of 552 (by decide +kernel) (by decide +kernel)
theorem m553 : (Jvm.Cond.selects "NumberLeases" ({ cls := "NumberLeases", name := "holder", desc := "(II)I" } : Jvm.MethodName) ({ cls := "NumberLeases", name := "holder", desc := "(II)I" } : Jvm.MethodName)) ∈ gw := gw_of 553 (by decide +kernel) (by decide +kernel)
theorem m554 : (Jvm.Cond.code ({ cls := "NumberLeases", name := "holder", desc := "(II)I" } : Jvm.MethodName) prog_1_method_16_code (3 : Nat) (Option.some Jvm.ClassFile.FieldType.int)) ∈ gw := gw_of 554 (by decide +kernel) (by decide +kernel)
theorem m555 : (Jvm.Cond.methodLink "NumberLeases" (142 : Nat) ({ cls := "NumberLeases$Pool", name := "ofHolder", desc := "(II)I" } : Jvm.MethodName)) ∈ gw := gw_of 555 (by decide +kernel) (by decide +kernel)
theorem m556 : (Jvm.Cond.instanceMethod ({ cls := "NumberLeases$Pool", name := "ofHolder", desc := "(II)I" } : Jvm.MethodName)) ∈ gw := gw_of 556 (by decide +kernel) (by decide +kernel)
theorem m557 : (Jvm.Cond.selects "NumberLeases$Pool" ({ cls := "NumberLeases$Pool", name := "ofHolder", desc := "(II)I" } : Jvm.MethodName) ({ cls := "NumberLeases$Pool", name := "ofHolder", desc := "(II)I" } : Jvm.MethodName)) ∈ gw := gw_of 557 (by decide +kernel) (by decide +kernel)
theorem m558 : (Jvm.Cond.code ({ cls := "NumberLeases$Pool", name := "ofHolder", desc := "(II)I" } : Jvm.MethodName) prog_4_method_25_code (3 : Nat) (Option.some Jvm.ClassFile.FieldType.int)) ∈ gw := gw_of 558 (by decide +kernel) (by decide +kernel)
theorem m559 : (Jvm.Cond.methodLink "NumberLeases$Pool" (112 : Nat) ({ cls := "NumberLeases$Pool", name := "numbersOfIn", desc := "(II)I" } : Jvm.MethodName)) ∈ gw := gw_of 559 (by decide +kernel) (by decide +kernel)
theorem m561 : (Jvm.Cond.instanceMethod ({ cls := "NumberLeases$Pool", name := "numbersOfIn", desc := "(II)I" } : Jvm.MethodName)) ∈ gw := gw_of 561 (by decide +kernel) (by decide +kernel)
theorem m562 : (Jvm.Cond.code ({ cls := "NumberLeases$Pool", name := "numbersOfIn", desc := "(II)I" } : Jvm.MethodName) prog_4_method_31_code (5 : Nat) (Option.some Jvm.ClassFile.FieldType.int)) ∈ gw := gw_of 562 (by decide +kernel) (by decide +kernel)
theorem m563 : (Jvm.Cond.methodLink "NumberLeases$Pool" (115 : Nat) ({ cls := "NumberLeases$Pool", name := "wishesOf", desc := "(I)I" } : Jvm.MethodName)) ∈ gw := gw_of 563 (by decide +kernel) (by decide +kernel)
theorem m565 : (Jvm.Cond.instanceMethod ({ cls := "NumberLeases$Pool", name := "wishesOf", desc := "(I)I" } : Jvm.MethodName)) ∈ gw := gw_of 565 (by decide +kernel) (by decide +kernel)
theorem m566 : (Jvm.Cond.code ({ cls := "NumberLeases$Pool", name := "wishesOf", desc := "(I)I" } : Jvm.MethodName) prog_4_method_32_code (4 : Nat) (Option.some Jvm.ClassFile.FieldType.int)) ∈ gw := gw_of 566 (by decide +kernel) (by decide +kernel)
theorem m567 : (Jvm.Cond.methodLink "NumberLeases$Pool" (118 : Nat) ({ cls := "NumberLeases$Pool", name := "leastOf", desc := "(I)I" } : Jvm.MethodName)) ∈ gw := gw_of 567 (by decide +kernel) (by decide +kernel)
theorem m569 : (Jvm.Cond.instanceMethod ({ cls := "NumberLeases$Pool", name := "leastOf", desc := "(I)I" } : Jvm.MethodName)) ∈ gw := gw_of 569 (by decide +kernel) (by decide +kernel)
theorem m570 : (Jvm.Cond.code ({ cls := "NumberLeases$Pool", name := "leastOf", desc := "(I)I" } : Jvm.MethodName) prog_4_method_33_code (3 : Nat) (Option.some Jvm.ClassFile.FieldType.int)) ∈ gw := gw_of 570 (by decide +kernel) (by decide +kernel)
theorem m571 : (Jvm.Cond.methodLink "NumberLeases$Pool" (121 : Nat) ({ cls := "NumberLeases$Pool", name := "leastEndOf", desc := "(I)I" } : Jvm.MethodName)) ∈ gw := gw_of 571 (by decide +kernel) (by decide +kernel)
theorem m573 : (Jvm.Cond.instanceMethod ({ cls := "NumberLeases$Pool", name := "leastEndOf", desc := "(I)I" } : Jvm.MethodName)) ∈ gw := gw_of 573 (by decide +kernel) (by decide +kernel)
theorem m574 : (Jvm.Cond.code ({ cls := "NumberLeases$Pool", name := "leastEndOf", desc := "(I)I" } : Jvm.MethodName) prog_4_method_34_code (4 : Nat) (Option.some Jvm.ClassFile.FieldType.int)) ∈ gw := gw_of 574 (by decide +kernel) (by decide +kernel)
theorem m575 : (Jvm.Cond.methodLink "NumberLeasesLaw" (110 : Nat) ({ cls := "NumberLeasesLaw", name := "spans", desc := "(LNumberLeases;)Z" } : Jvm.MethodName)) ∈ gw := gw_of 575 (by decide +kernel) (by decide +kernel)
theorem m576 : (Jvm.Cond.static ({ cls := "NumberLeasesLaw", name := "spans", desc := "(LNumberLeases;)Z" } : Jvm.MethodName)) ∈ gw := gw_of 576 (by decide +kernel) (by decide +kernel)
theorem m577 : (Jvm.Cond.code ({ cls := "NumberLeasesLaw", name := "spans", desc := "(LNumberLeases;)Z" } : Jvm.MethodName) method_14_code (9 : Nat) (Option.some Jvm.ClassFile.FieldType.boolean)) ∈ gw := gw_of 577 (by decide +kernel) (by decide +kernel)
theorem m578 : (Jvm.Cond.methodLink "NumberLeasesLaw" (90 : Nat) ({ cls := "NumberLeases", name := "freeIn", desc := "(I)I" } : Jvm.MethodName)) ∈ gw := gw_of 578 (by decide +kernel) (by decide +kernel)
theorem m579 : (Jvm.Cond.instanceMethod ({ cls := "NumberLeases", name := "freeIn", desc := "(I)I" } : Jvm.MethodName)) ∈ gw := gw_of 579 (by decide +kernel) (by decide +kernel)
theorem m580 : (Jvm.Cond.selects "NumberLeases" ({ cls := "NumberLeases", name := "freeIn", desc := "(I)I" } : Jvm.MethodName) ({ cls := "NumberLeases", name := "freeIn", desc := "(I)I" } : Jvm.MethodName)) ∈ gw := gw_of 580 (by decide +kernel) (by decide +kernel)
theorem m581 : (Jvm.Cond.code ({ cls := "NumberLeases", name := "freeIn", desc := "(I)I" } : Jvm.MethodName) prog_1_method_21_code (2 : Nat) (Option.some Jvm.ClassFile.FieldType.int)) ∈ gw := gw_of 581 (by decide +kernel) (by decide +kernel)
theorem m582 : (Jvm.Cond.methodLink "NumberLeases" (154 : Nat) ({ cls := "NumberLeases", name := "timeToFree", desc := "(I)I" } : Jvm.MethodName)) ∈ gw := gw_of 582 (by decide +kernel) (by decide +kernel)
theorem m584 : (Jvm.Cond.instanceMethod ({ cls := "NumberLeases", name := "timeToFree", desc := "(I)I" } : Jvm.MethodName)) ∈ gw := gw_of 584 (by decide +kernel) (by decide +kernel)
theorem m585 : (Jvm.Cond.code ({ cls := "NumberLeases", name := "timeToFree", desc := "(I)I" } : Jvm.MethodName) prog_1_method_36_code (4 : Nat) (Option.some Jvm.ClassFile.FieldType.int)) ∈ gw := gw_of 585 (by decide +kernel) (by decide +kernel)
theorem m586 : (Jvm.Cond.methodLink "NumberLeases" (236 : Nat) ({ cls := "NumberLeases$Pool", name := "freeNumbers", desc := "()I" } : Jvm.MethodName)) ∈ gw := gw_of 586 (by decide +kernel) (by decide +kernel)
theorem iX1 : ∀ w ∈ wsX10, w ∈ gw := fun w h => List.mem_filter.mpr ((by decide +kernel : ∀ w ∈ wsX10, w ∈ lw_tbl ∧ goodWord w = true) w h)
theorem iX2 : ∀ w ∈ wsX20, w ∈ gw := fun w h => List.mem_filter.mpr ((by decide +kernel : ∀ w ∈ wsX20, w ∈ lw_tbl ∧ goodWord w = true) w h)
theorem iX3 : ∀ w ∈ wsX30, w ∈ gw := fun w h => List.mem_filter.mpr ((by decide +kernel : ∀ w ∈ wsX30, w ∈ lw_tbl ∧ goodWord w = true) w h)
theorem iX4 : ∀ w ∈ wsX40, w ∈ gw := fun w h => List.mem_filter.mpr ((by decide +kernel : ∀ w ∈ wsX40, w ∈ lw_tbl ∧ goodWord w = true) w h)
theorem iX5 : ∀ w ∈ wsX50, w ∈ gw := fun w h => List.mem_filter.mpr ((by decide +kernel : ∀ w ∈ wsX50, w ∈ lw_tbl ∧ goodWord w = true) w h)
end
section
/-! THE WORLD: objects are numbered o, their cells j (0 the object itself, then its arrays of ints), at the address ad E o j. A state is S o j i; the rest: which pool each saved place holds, the law's long, how many exceptions were made.
objects: 0 pool, 1 ahead, 2..7 the kept pools, 8 orders, 9 saves, 11 the NumberLeases -/
abbrev jO : Type := Nat → Nat → Int32
abbrev jS : Type := Nat → jO
abbrev jX : Type := (Nat → Nat) × Int64 × Nat
abbrev jG : Type := jS × jX
/-- the first address, the classes, the class of arrays of ints, the script (its address, its length, its values), the class of arrays of pools, the addresses of the two tables -/
abbrev jE : Type := Nat × va_G × (ClassId × (Nat × Nat × (Nat → Int32)) × ClassId) × (Nat × Nat)
def aln (o j : Nat) : Nat :=
  if j = 0 then 0
  else if o < 8 then (if j = 1 then 4 else if j < 8 then 64 else if j < 10 then 192 else if j < 13 then 8 else 0)
  else if o = 8 then (if j = 1 then 60 else 0)
  else 0
def wid (o : Nat) : Nat := if o < 8 then 13 else if o = 8 then 2 else if o = 9 then 2 else if o = 11 then 1 else 0
def bas (o : Nat) : Nat := if o < 2 then 13 * o + 1 else if o < 8 then 13 * o + 3 else if o = 8 then 107 else if o = 9 then 27 else 0
def lcs : List (Nat × Nat) := [11, 0, 1, 9, 2, 3, 4, 5, 6, 7, 8].flatMap fun o => (List.range (wid o)).map fun j => (o, j)
def loc (k : Nat) : Nat × Nat := lcs.getD k (99, 0)
theorem loc_ok : ∀ k, k < 109 → bas (loc k).1 + (loc k).2 = k ∧ (loc k).2 < wid (loc k).1 := by decide +kernel
theorem loc_off : ∀ o, o < 13 → ∀ j, j < wid o → loc (bas o + j) = (o, j) ∧ bas o + j < 109 := by decide +kernel
def ad (E : jE) (o j : Nat) : Nat := E.1 + (bas o + j)
def jA (E : jE) : Nat → Prop := fun q => E.1 ≤ q
def jtys (E : jE) : List (ClassId × FieldType) := [(E.2.2.1.1, .int), (E.2.2.1.1, .int), (E.2.2.1.2.2, .object RX2)]
def poolF (E : jE) (o : Nat) (P : jO) : List Value := [.int (P 0 0), .int (P 0 1), .int (P 0 2), .int (P 0 3), .ref (ad E o 1), .ref (ad E o 2), .ref (ad E o 3), .ref (ad E o 4), .ref (ad E o 5), .ref (ad E o 6), .ref (ad E o 7), .ref (ad E o 8), .ref (ad E o 9), .ref (ad E o 10), .ref (ad E o 11), .ref (ad E o 12)]
def ordF (E : jE) (P : jO) : List Value := [.ref (ad E 8 1), .int (P 0 0), .int (P 0 1), .int (P 0 2), .int (P 0 3), .int (P 0 4), .int (P 0 5), .int (P 0 6)]
def savF (E : jE) (P : jO) : List Value := [.ref (ad E 9 1), .int (P 0 0)]
def nulF (E : jE) : List Value := [.ref (ad E 0 0), .ref (ad E 1 0), .ref (ad E 9 0), .ref (ad E 8 0)]
def scal (E : jE) (k : jX) (o : Nat) (P : jO) (j : Nat) : va_E :=
  if o < 8 then .inr (1, poolF E o P)
  else if o = 8 then .inr (0, ordF E P)
  else if o = 9 then (if j = 0 then .inr (2, savF E P) else .inl (E.2.2.1.2.2, 6, .inr (.inr (.inr (.inr fun i => some (ad E (k.1 i) 0))))))
  else .inr (3, nulF E)
def cel (E : jE) (k : jX) (o : Nat) (P : jO) (j : Nat) : va_E := if 0 < aln o j then .inl (E.2.2.1.1, aln o j, .inl (P j)) else scal E k o P j
def wld (E : jE) (G : jG) : va_W := (List.range 109).map fun q => (E.1 + q, cel E G.2 (loc q).1 (G.1 (loc q).1) (loc q).2)
def setO (S : jS) (o : Nat) (P : jO) : jS := fun o' => if o' = o then P else S o'
theorem setO_at (S : jS) (o : Nat) (P : jO) : setO S o P o = P := by simp [setO]
theorem setO_ne {S : jS} {o o' : Nat} {P : jO} (h : o' ≠ o) : setO S o P o' = S o' := by simp [setO, h]
theorem setO_self (S : jS) (o : Nat) : setO S o (S o) = S := by
  funext o'
  by_cases h : o' = o
  · subst h; simp [setO]
  · simp [setO, h]
theorem setO_two (S : jS) (o : Nat) (P P' : jO) : setO (setO S o P) o P' = setO S o P' := by
  funext o'
  by_cases h : o' = o <;> simp [setO, h]
def putA (P : jO) (j : Nat) (f : Nat → Int32) : jO := fun j' => if j' = j then f else P j'
def put (P : jO) (j i : Nat) (v : Int32) : jO := putA P j (upd (P j) i v)
theorem putA_at (P : jO) (j : Nat) (f : Nat → Int32) : putA P j f j = f := by simp [putA]
theorem putA_ne {P : jO} {j j' : Nat} {f : Nat → Int32} (h : j' ≠ j) : putA P j f j' = P j' := by simp [putA, h]
theorem put_ne {P : jO} {j j' i : Nat} {v : Int32} (h : j' ≠ j) : put P j i v j' = P j' := putA_ne h
theorem put_at (P : jO) (j i : Nat) (v : Int32) (i' : Nat) : put P j i v j i' = if i' = i then v else P j i' := by simp [put, putA, upd]
theorem put_app (P : jO) (j i : Nat) (v : Int32) (j' i' : Nat) : put P j i v j' i' = if j' = j ∧ i' = i then v else P j' i' := by
  by_cases h : j' = j
  · subst h; simp [put_at]
  · simp [put_ne h, h]
theorem wld_len (E : jE) (G : jG) : (wld E G).length = 109 := by simp [wld]
theorem wld_get (E : jE) (S : jS) (k : jX) {o j : Nat} (ho : o < 13) (hj : j < wid o) : (wld E (S, k))[bas o + j]? = some (ad E o j, cel E k o (S o) j) := by
  obtain ⟨h1, h2⟩ := loc_off o ho j hj
  simp [wld, h2, h1, ad]
theorem wld_at (E : jE) (G : jG) {q : Nat} (hq : q < 109) : (wld E G)[q]? = some (E.1 + q, cel E G.2 (loc q).1 (G.1 (loc q).1) (loc q).2) := by
  simp [wld, hq]
theorem wld_set (E : jE) (S : jS) (k : jX) {o j : Nat} (ho : o < 13) (hj : j < wid o) (P P' : jO) (e : va_E) (he : cel E k o P' j = e) (hr : ∀ j', j' < wid o → j' ≠ j → cel E k o P' j' = cel E k o P j') :
    (wld E (setO S o P, k)).set (bas o + j) (ad E o j, e) = wld E (setO S o P', k) := by
  obtain ⟨h1, h2⟩ := loc_off o ho j hj
  apply List.ext_getElem?
  intro i
  by_cases hi : i < 109
  · by_cases hq : i = bas o + j
    · subst hq
      rw [List.getElem?_set_self (by rw [wld_len]; exact hi), wld_get E _ k ho hj, setO_at, he]
    · rw [List.getElem?_set_ne (Ne.symm hq), wld_at E _ hi, wld_at E _ hi]
      congr 2
      show cel E k (loc i).1 (setO S o P (loc i).1) (loc i).2 = cel E k (loc i).1 (setO S o P' (loc i).1) (loc i).2
      by_cases h3 : (loc i).1 = o
      · have h4 : (loc i).2 ≠ j := by
          intro h
          have h5 := (loc_ok i hi).1
          rw [h3, h] at h5
          exact hq h5.symm
        have h6 := (loc_ok i hi).2
        rw [h3] at h6
        rw [h3, setO_at, setO_at, hr _ h6 h4]
      · rw [setO_ne h3, setO_ne h3]
  · rw [List.getElem?_eq_none (by rw [List.length_set, wld_len]; omega), List.getElem?_eq_none (by rw [wld_len]; omega)]
theorem wld_D (E : jE) (G : jG) : va_D (jA E) (wld E G) := by
  have key : ∀ (i : Nat) (p : Nat × va_E), (wld E G)[i]? = some p → p.1 = E.1 + i := by
    intro i p h
    have hi : i < 109 := by
      have := (List.getElem?_eq_some_iff.mp h).1
      rwa [wld_len] at this
    rw [wld_at E G hi] at h
    rw [← Option.some.inj h]
  refine ⟨fun i j p q hi hj hpq => ?_, fun k q hk => ?_⟩
  · have h1 := key i p hi
    have h2 := key j q hj
    omega
  · have h1 := key k q hk
    show E.1 ≤ q.1
    omega
theorem aln_0 (o : Nat) : aln o 0 = 0 := by simp [aln]
theorem cel_arr {E : jE} {k : jX} {o j : Nat} {P : jO} (h : 0 < aln o j) : cel E k o P j = .inl (E.2.2.1.1, aln o j, .inl (P j)) := by simp [cel, h]
theorem cel_0 (E : jE) (k : jX) (o : Nat) (P : jO) : cel E k o P 0 = scal E k o P 0 := by simp [cel, aln_0]
theorem aln_pos : ∀ o, o < 13 → ∀ j, j < wid o → j ≠ 0 → o ≠ 9 → 0 < aln o j := by decide +kernel
theorem aln_wid : ∀ o, o < 13 → ∀ j, 0 < aln o j → j < wid o := by
  intro o ho j h
  unfold aln at h
  unfold wid
  repeat' split at h
  all_goals (repeat' split) <;> omega
theorem scal_put {E : jE} {k : jX} {o : Nat} {P P' : jO} (h : P' 0 = P 0) (j : Nat) : scal E k o P' j = scal E k o P j := by
  unfold scal poolF ordF savF
  rw [h]
theorem scal_P {E : jE} {k : jX} {o : Nat} {P P' : jO} {j : Nat} (ho : o < 13) (hj : j < wid o) (h0 : j ≠ 0) (h : ¬ 0 < aln o j) : scal E k o P' j = scal E k o P j := by
  have h9 : o = 9 := by
    rcases Nat.decEq o 9 with q | q
    · exact absurd (aln_pos o ho j hj h0 q) h
    · exact q
  subst h9
  simp [scal, h0]
theorem wld_arr (E : jE) (S : jS) (k : jX) {o j : Nat} (ho : o < 13) (h : 0 < aln o j) (P : jO) (f : Nat → Int32) :
    (wld E (setO S o P, k)).set (bas o + j) (ad E o j, .inl (E.2.2.1.1, aln o j, .inl f)) = wld E (setO S o (putA P j f), k) := by
  have h0 : j ≠ 0 := by
    intro q
    subst q
    simp [aln_0] at h
  refine wld_set E S k ho (aln_wid o ho j h) P _ _ (by rw [cel_arr h, putA_at]) (fun j' _ hj' => ?_)
  unfold cel
  rw [putA_ne hj', scal_put (putA_ne (Ne.symm h0))]
theorem wld_fld (E : jE) (S : jS) (k : jX) {o : Nat} (ho : o ≠ 10 ∧ o < 12) (P : jO) (i : Nat) (v : Int32) (fs : va_E) (hf : scal E k o (put P 0 i v) 0 = fs) :
    (wld E (setO S o P, k)).set (bas o + 0) (ad E o 0, fs) = wld E (setO S o (put P 0 i v), k) := by
  have hw : 0 < wid o := by
    unfold wid
    repeat' split
    all_goals omega
  refine wld_set E S k (by omega) hw P _ _ (by rw [cel_0, hf]) (fun j' hw' hj' => ?_)
  unfold cel
  rw [put_ne hj']
  split
  · rfl
  · exact scal_P (by omega) hw' hj' ‹_›
end
section
/-! THE JUDGEMENT: J G pc L st: from the frame at pc with locals L and stack st, the world in the state G, the machine comes to the method's end as its contract says. jR: J is such a judgement. Rows turn J at an instruction into J at the next. -/
def lh (nL : Nat) (ls : Array Slot) (L : List (Option Value)) : Prop := ls.size = nL ∧ L.length = nL ∧ lv_wf ls ∧ ∀ (i : Nat) (v : Value), L[i]? = some (some v) → ls[i]? = some (.val v)
def lprs : List (Option Value) → Nat → List (Nat × Value)
  | [], _ => []
  | none :: t, i => lprs t (i + 1)
  | some v :: t, i => (i, v) :: lprs t (i + 1)
theorem lprs_mem : ∀ (L : List (Option Value)) (i0 : Nat) (q : Nat × Value), q ∈ lprs L i0 ↔ ∃ i : Nat, q.1 = i0 + i ∧ L[i]? = some (some q.2)
  | [], i0, q => by simp [lprs]
  | none :: t, i0, q => by
    rw [lprs, lprs_mem t (i0 + 1) q]
    constructor
    · rintro ⟨i, h1, h2⟩
      exact ⟨i + 1, by omega, by simpa using h2⟩
    · rintro ⟨i, h1, h2⟩
      cases i with
      | zero => simp at h2
      | succ i => exact ⟨i, by omega, by simpa using h2⟩
  | some v :: t, i0, q => by
    rw [lprs, List.mem_cons, lprs_mem t (i0 + 1) q]
    constructor
    · rintro (rfl | ⟨i, h1, h2⟩)
      · exact ⟨0, rfl, rfl⟩
      · exact ⟨i + 1, by omega, by simpa using h2⟩
    · rintro ⟨i, h1, h2⟩
      cases i with
      | zero =>
        left
        obtain ⟨a, b⟩ := q
        simp at h1 h2
        rw [h1, h2]
      | succ i => exact Or.inr ⟨i, by omega, by simpa using h2⟩
theorem lh_has {nL : Nat} {ls : Array Slot} {L : List (Option Value)} (h : lh nL ls L) : lv_has ls nL (lprs L 0) := by
  refine ⟨h.1, h.2.2.1, fun q hq => ?_⟩
  obtain ⟨i, e, hi⟩ := (lprs_mem L 0 q).mp hq
  have e2 : q.1 = i := by omega
  rw [e2]
  exact h.2.2.2 i q.2 hi
def nc2 : Option Value → Bool
  | some v => v.category != 2
  | none => true
/-- the locals L' are L with v stored at i -/
def lpt (L : List (Option Value)) (i : Nat) (v : Value) (L' : List (Option Value)) : Prop :=
  L'.length = L.length ∧ i < L.length ∧ (v.category = 2 → i + 1 < L.length) ∧ ∀ (j : Nat) (w : Value), L'[j]? = some (some w) → (j = i ∧ w = v) ∨ (L[j]? = some (some w) ∧ j ≠ i ∧ ¬ (j + 1 = i ∧ w.category = 2) ∧ (v.category = 2 → j ≠ i + 1))
theorem lh_put1 {nL i : Nat} {v : Value} {ls : Array Slot} {L L' : List (Option Value)} (hL : L.length = nL) (hc : v.category = 1) (hp : lpt L i v L') (h : lv_has ls nL ((i, v) :: (lprs L 0).filter (fun q => !(q.1 == i) && !(q.1 + 1 == i && q.2.category == 2)))) : lh nL ls L' := by
  refine ⟨h.1, by rw [hp.1, hL], h.2.1, fun j w hj => ?_⟩
  rcases hp.2.2.2 j w hj with ⟨rfl, rfl⟩ | ⟨h1, h2, h3, -⟩
  · exact h.2.2 _ List.mem_cons_self
  · refine h.2.2 (j, w) (List.mem_cons_of_mem _ (List.mem_filter.mpr ⟨(lprs_mem L 0 (j, w)).mpr ⟨j, by simp, h1⟩, ?_⟩))
    simp only [Bool.and_eq_true, Bool.not_eq_true', beq_eq_false_iff_ne, Bool.and_eq_false_iff]
    refine ⟨h2, ?_⟩
    by_cases h4 : j + 1 = i
    · right
      intro h5
      exact h3 ⟨h4, h5⟩
    · exact Or.inl h4
theorem lh_put2 {nL i : Nat} {v : Value} {ls : Array Slot} {L L' : List (Option Value)} (hL : L.length = nL) (hc : v.category = 2) (hp : lpt L i v L') (h : lv_has ls nL ((i, v) :: (lprs L 0).filter (fun q => !(q.1 == i) && (!(q.1 == i + 1) && !(q.1 + 1 == i && q.2.category == 2))))) : lh nL ls L' := by
  refine ⟨h.1, by rw [hp.1, hL], h.2.1, fun j w hj => ?_⟩
  rcases hp.2.2.2 j w hj with ⟨rfl, rfl⟩ | ⟨h1, h2, h3, h6⟩
  · exact h.2.2 _ List.mem_cons_self
  · refine h.2.2 (j, w) (List.mem_cons_of_mem _ (List.mem_filter.mpr ⟨(lprs_mem L 0 (j, w)).mpr ⟨j, by simp, h1⟩, ?_⟩))
    simp only [Bool.and_eq_true, Bool.not_eq_true', beq_eq_false_iff_ne, Bool.and_eq_false_iff]
    refine ⟨h2, h6 hc, ?_⟩
    by_cases h4 : j + 1 = i
    · right
      intro h5
      exact h3 ⟨h4, h5⟩
    · exact Or.inl h4
theorem lpt_0 {a : Option Value} {t : List (Option Value)} {v : Value} (hc : v.category = 1) : lpt (a :: t) 0 v (some v :: t) := by
  refine ⟨rfl, Nat.zero_lt_succ _, fun h => by omega, fun j w hj => ?_⟩
  cases j with
  | zero => left; simp at hj; exact ⟨rfl, hj.symm⟩
  | succ j => right; exact ⟨by simpa using hj, by omega, by omega, fun h => by omega⟩
theorem lpt_20 {a b : Option Value} {t : List (Option Value)} {v : Value} (hc : v.category = 2) : lpt (a :: b :: t) 0 v (some v :: none :: t) := by
  refine ⟨rfl, Nat.zero_lt_succ _, fun _ => by simp, fun j w hj => ?_⟩
  cases j with
  | zero => left; simp at hj; exact ⟨rfl, hj.symm⟩
  | succ j =>
    cases j with
    | zero => simp at hj
    | succ j => right; exact ⟨by simpa using hj, by omega, by omega, fun _ => by omega⟩
theorem lpt_s {a : Option Value} {L L' : List (Option Value)} {i : Nat} {v : Value} (ha : i = 0 → nc2 a = true) (h : lpt L i v L') : lpt (a :: L) (i + 1) v (a :: L') := by
  obtain ⟨h1, h2, h3, h4⟩ := h
  refine ⟨by simp [h1], by simp [h2], fun h => by simp [h3 h], fun j w hj => ?_⟩
  cases j with
  | zero =>
    right
    simp at hj
    subst hj
    refine ⟨rfl, by omega, fun q => ?_, fun _ => by omega⟩
    have hi : i = 0 := by omega
    have h5 := ha hi
    simp [nc2] at h5
    exact h5 q.2
  | succ j =>
    rcases h4 j w (by simpa using hj) with ⟨rfl, rfl⟩ | ⟨g1, g2, g3, g4⟩
    · exact Or.inl ⟨rfl, rfl⟩
    · right
      exact ⟨by simpa using g1, by omega, fun q => g3 ⟨by omega, q.2⟩, fun h => by have := g4 h; omega⟩
theorem jp0 {a0 : Option Value} {t : List (Option Value)} {v : Value} (hc : v.category = 1) : lpt (a0 :: t) 0 v (some v :: t) := lpt_0 hc
theorem jq0 {a0 b : Option Value} {t : List (Option Value)} {v : Value} (hc : v.category = 2) : lpt (a0 :: b :: t) 0 v (some v :: none :: t) := lpt_20 hc
theorem jg0 {t : List (Option Value)} {v : Value} : (some v :: t)[0]? = some (some v) := rfl
theorem jp1 {a0 a1 : Option Value} {t : List (Option Value)} {v : Value} (h : nc2 a0 = true) (hc : v.category = 1) : lpt (a0 :: a1 :: t) 1 v (a0 :: some v :: t) := lpt_s (fun _ => h) (lpt_0 hc)
theorem jq1 {a0 a1 b : Option Value} {t : List (Option Value)} {v : Value} (h : nc2 a0 = true) (hc : v.category = 2) : lpt (a0 :: a1 :: b :: t) 1 v (a0 :: some v :: none :: t) := lpt_s (fun _ => h) (lpt_20 hc)
theorem jg1 {a0 : Option Value} {t : List (Option Value)} {v : Value} : (a0 :: some v :: t)[1]? = some (some v) := rfl
theorem jp2 {a0 a1 a2 : Option Value} {t : List (Option Value)} {v : Value} (h : nc2 a1 = true) (hc : v.category = 1) : lpt (a0 :: a1 :: a2 :: t) 2 v (a0 :: a1 :: some v :: t) := lpt_s (fun q => by omega) (lpt_s (fun _ => h) (lpt_0 hc))
theorem jq2 {a0 a1 a2 b : Option Value} {t : List (Option Value)} {v : Value} (h : nc2 a1 = true) (hc : v.category = 2) : lpt (a0 :: a1 :: a2 :: b :: t) 2 v (a0 :: a1 :: some v :: none :: t) := lpt_s (fun q => by omega) (lpt_s (fun _ => h) (lpt_20 hc))
theorem jg2 {a0 a1 : Option Value} {t : List (Option Value)} {v : Value} : (a0 :: a1 :: some v :: t)[2]? = some (some v) := rfl
theorem jp3 {a0 a1 a2 a3 : Option Value} {t : List (Option Value)} {v : Value} (h : nc2 a2 = true) (hc : v.category = 1) : lpt (a0 :: a1 :: a2 :: a3 :: t) 3 v (a0 :: a1 :: a2 :: some v :: t) := lpt_s (fun q => by omega) (lpt_s (fun q => by omega) (lpt_s (fun _ => h) (lpt_0 hc)))
theorem jq3 {a0 a1 a2 a3 b : Option Value} {t : List (Option Value)} {v : Value} (h : nc2 a2 = true) (hc : v.category = 2) : lpt (a0 :: a1 :: a2 :: a3 :: b :: t) 3 v (a0 :: a1 :: a2 :: some v :: none :: t) := lpt_s (fun q => by omega) (lpt_s (fun q => by omega) (lpt_s (fun _ => h) (lpt_20 hc)))
theorem jg3 {a0 a1 a2 : Option Value} {t : List (Option Value)} {v : Value} : (a0 :: a1 :: a2 :: some v :: t)[3]? = some (some v) := rfl
theorem jp4 {a0 a1 a2 a3 a4 : Option Value} {t : List (Option Value)} {v : Value} (h : nc2 a3 = true) (hc : v.category = 1) : lpt (a0 :: a1 :: a2 :: a3 :: a4 :: t) 4 v (a0 :: a1 :: a2 :: a3 :: some v :: t) := lpt_s (fun q => by omega) (lpt_s (fun q => by omega) (lpt_s (fun q => by omega) (lpt_s (fun _ => h) (lpt_0 hc))))
theorem jq4 {a0 a1 a2 a3 a4 b : Option Value} {t : List (Option Value)} {v : Value} (h : nc2 a3 = true) (hc : v.category = 2) : lpt (a0 :: a1 :: a2 :: a3 :: a4 :: b :: t) 4 v (a0 :: a1 :: a2 :: a3 :: some v :: none :: t) := lpt_s (fun q => by omega) (lpt_s (fun q => by omega) (lpt_s (fun q => by omega) (lpt_s (fun _ => h) (lpt_20 hc))))
theorem jg4 {a0 a1 a2 a3 : Option Value} {t : List (Option Value)} {v : Value} : (a0 :: a1 :: a2 :: a3 :: some v :: t)[4]? = some (some v) := rfl
theorem jp5 {a0 a1 a2 a3 a4 a5 : Option Value} {t : List (Option Value)} {v : Value} (h : nc2 a4 = true) (hc : v.category = 1) : lpt (a0 :: a1 :: a2 :: a3 :: a4 :: a5 :: t) 5 v (a0 :: a1 :: a2 :: a3 :: a4 :: some v :: t) := lpt_s (fun q => by omega) (lpt_s (fun q => by omega) (lpt_s (fun q => by omega) (lpt_s (fun q => by omega) (lpt_s (fun _ => h) (lpt_0 hc)))))
theorem jq5 {a0 a1 a2 a3 a4 a5 b : Option Value} {t : List (Option Value)} {v : Value} (h : nc2 a4 = true) (hc : v.category = 2) : lpt (a0 :: a1 :: a2 :: a3 :: a4 :: a5 :: b :: t) 5 v (a0 :: a1 :: a2 :: a3 :: a4 :: some v :: none :: t) := lpt_s (fun q => by omega) (lpt_s (fun q => by omega) (lpt_s (fun q => by omega) (lpt_s (fun q => by omega) (lpt_s (fun _ => h) (lpt_20 hc)))))
theorem jg5 {a0 a1 a2 a3 a4 : Option Value} {t : List (Option Value)} {v : Value} : (a0 :: a1 :: a2 :: a3 :: a4 :: some v :: t)[5]? = some (some v) := rfl
theorem jp6 {a0 a1 a2 a3 a4 a5 a6 : Option Value} {t : List (Option Value)} {v : Value} (h : nc2 a5 = true) (hc : v.category = 1) : lpt (a0 :: a1 :: a2 :: a3 :: a4 :: a5 :: a6 :: t) 6 v (a0 :: a1 :: a2 :: a3 :: a4 :: a5 :: some v :: t) := lpt_s (fun q => by omega) (lpt_s (fun q => by omega) (lpt_s (fun q => by omega) (lpt_s (fun q => by omega) (lpt_s (fun q => by omega) (lpt_s (fun _ => h) (lpt_0 hc))))))
theorem jq6 {a0 a1 a2 a3 a4 a5 a6 b : Option Value} {t : List (Option Value)} {v : Value} (h : nc2 a5 = true) (hc : v.category = 2) : lpt (a0 :: a1 :: a2 :: a3 :: a4 :: a5 :: a6 :: b :: t) 6 v (a0 :: a1 :: a2 :: a3 :: a4 :: a5 :: some v :: none :: t) := lpt_s (fun q => by omega) (lpt_s (fun q => by omega) (lpt_s (fun q => by omega) (lpt_s (fun q => by omega) (lpt_s (fun q => by omega) (lpt_s (fun _ => h) (lpt_20 hc))))))
theorem jg6 {a0 a1 a2 a3 a4 a5 : Option Value} {t : List (Option Value)} {v : Value} : (a0 :: a1 :: a2 :: a3 :: a4 :: a5 :: some v :: t)[6]? = some (some v) := rfl
theorem jp7 {a0 a1 a2 a3 a4 a5 a6 a7 : Option Value} {t : List (Option Value)} {v : Value} (h : nc2 a6 = true) (hc : v.category = 1) : lpt (a0 :: a1 :: a2 :: a3 :: a4 :: a5 :: a6 :: a7 :: t) 7 v (a0 :: a1 :: a2 :: a3 :: a4 :: a5 :: a6 :: some v :: t) := lpt_s (fun q => by omega) (lpt_s (fun q => by omega) (lpt_s (fun q => by omega) (lpt_s (fun q => by omega) (lpt_s (fun q => by omega) (lpt_s (fun q => by omega) (lpt_s (fun _ => h) (lpt_0 hc)))))))
theorem jq7 {a0 a1 a2 a3 a4 a5 a6 a7 b : Option Value} {t : List (Option Value)} {v : Value} (h : nc2 a6 = true) (hc : v.category = 2) : lpt (a0 :: a1 :: a2 :: a3 :: a4 :: a5 :: a6 :: a7 :: b :: t) 7 v (a0 :: a1 :: a2 :: a3 :: a4 :: a5 :: a6 :: some v :: none :: t) := lpt_s (fun q => by omega) (lpt_s (fun q => by omega) (lpt_s (fun q => by omega) (lpt_s (fun q => by omega) (lpt_s (fun q => by omega) (lpt_s (fun q => by omega) (lpt_s (fun _ => h) (lpt_20 hc)))))))
theorem jg7 {a0 a1 a2 a3 a4 a5 a6 : Option Value} {t : List (Option Value)} {v : Value} : (a0 :: a1 :: a2 :: a3 :: a4 :: a5 :: a6 :: some v :: t)[7]? = some (some v) := rfl
theorem jp8 {a0 a1 a2 a3 a4 a5 a6 a7 a8 : Option Value} {t : List (Option Value)} {v : Value} (h : nc2 a7 = true) (hc : v.category = 1) : lpt (a0 :: a1 :: a2 :: a3 :: a4 :: a5 :: a6 :: a7 :: a8 :: t) 8 v (a0 :: a1 :: a2 :: a3 :: a4 :: a5 :: a6 :: a7 :: some v :: t) := lpt_s (fun q => by omega) (lpt_s (fun q => by omega) (lpt_s (fun q => by omega) (lpt_s (fun q => by omega) (lpt_s (fun q => by omega) (lpt_s (fun q => by omega) (lpt_s (fun q => by omega) (lpt_s (fun _ => h) (lpt_0 hc))))))))
theorem jq8 {a0 a1 a2 a3 a4 a5 a6 a7 a8 b : Option Value} {t : List (Option Value)} {v : Value} (h : nc2 a7 = true) (hc : v.category = 2) : lpt (a0 :: a1 :: a2 :: a3 :: a4 :: a5 :: a6 :: a7 :: a8 :: b :: t) 8 v (a0 :: a1 :: a2 :: a3 :: a4 :: a5 :: a6 :: a7 :: some v :: none :: t) := lpt_s (fun q => by omega) (lpt_s (fun q => by omega) (lpt_s (fun q => by omega) (lpt_s (fun q => by omega) (lpt_s (fun q => by omega) (lpt_s (fun q => by omega) (lpt_s (fun q => by omega) (lpt_s (fun _ => h) (lpt_20 hc))))))))
theorem jg8 {a0 a1 a2 a3 a4 a5 a6 a7 : Option Value} {t : List (Option Value)} {v : Value} : (a0 :: a1 :: a2 :: a3 :: a4 :: a5 :: a6 :: a7 :: some v :: t)[8]? = some (some v) := rfl
theorem jp9 {a0 a1 a2 a3 a4 a5 a6 a7 a8 a9 : Option Value} {t : List (Option Value)} {v : Value} (h : nc2 a8 = true) (hc : v.category = 1) : lpt (a0 :: a1 :: a2 :: a3 :: a4 :: a5 :: a6 :: a7 :: a8 :: a9 :: t) 9 v (a0 :: a1 :: a2 :: a3 :: a4 :: a5 :: a6 :: a7 :: a8 :: some v :: t) := lpt_s (fun q => by omega) (lpt_s (fun q => by omega) (lpt_s (fun q => by omega) (lpt_s (fun q => by omega) (lpt_s (fun q => by omega) (lpt_s (fun q => by omega) (lpt_s (fun q => by omega) (lpt_s (fun q => by omega) (lpt_s (fun _ => h) (lpt_0 hc)))))))))
theorem jq9 {a0 a1 a2 a3 a4 a5 a6 a7 a8 a9 b : Option Value} {t : List (Option Value)} {v : Value} (h : nc2 a8 = true) (hc : v.category = 2) : lpt (a0 :: a1 :: a2 :: a3 :: a4 :: a5 :: a6 :: a7 :: a8 :: a9 :: b :: t) 9 v (a0 :: a1 :: a2 :: a3 :: a4 :: a5 :: a6 :: a7 :: a8 :: some v :: none :: t) := lpt_s (fun q => by omega) (lpt_s (fun q => by omega) (lpt_s (fun q => by omega) (lpt_s (fun q => by omega) (lpt_s (fun q => by omega) (lpt_s (fun q => by omega) (lpt_s (fun q => by omega) (lpt_s (fun q => by omega) (lpt_s (fun _ => h) (lpt_20 hc)))))))))
theorem jg9 {a0 a1 a2 a3 a4 a5 a6 a7 a8 : Option Value} {t : List (Option Value)} {v : Value} : (a0 :: a1 :: a2 :: a3 :: a4 :: a5 :: a6 :: a7 :: a8 :: some v :: t)[9]? = some (some v) := rfl
theorem jp10 {a0 a1 a2 a3 a4 a5 a6 a7 a8 a9 a10 : Option Value} {t : List (Option Value)} {v : Value} (h : nc2 a9 = true) (hc : v.category = 1) : lpt (a0 :: a1 :: a2 :: a3 :: a4 :: a5 :: a6 :: a7 :: a8 :: a9 :: a10 :: t) 10 v (a0 :: a1 :: a2 :: a3 :: a4 :: a5 :: a6 :: a7 :: a8 :: a9 :: some v :: t) := lpt_s (fun q => by omega) (lpt_s (fun q => by omega) (lpt_s (fun q => by omega) (lpt_s (fun q => by omega) (lpt_s (fun q => by omega) (lpt_s (fun q => by omega) (lpt_s (fun q => by omega) (lpt_s (fun q => by omega) (lpt_s (fun q => by omega) (lpt_s (fun _ => h) (lpt_0 hc))))))))))
theorem jq10 {a0 a1 a2 a3 a4 a5 a6 a7 a8 a9 a10 b : Option Value} {t : List (Option Value)} {v : Value} (h : nc2 a9 = true) (hc : v.category = 2) : lpt (a0 :: a1 :: a2 :: a3 :: a4 :: a5 :: a6 :: a7 :: a8 :: a9 :: a10 :: b :: t) 10 v (a0 :: a1 :: a2 :: a3 :: a4 :: a5 :: a6 :: a7 :: a8 :: a9 :: some v :: none :: t) := lpt_s (fun q => by omega) (lpt_s (fun q => by omega) (lpt_s (fun q => by omega) (lpt_s (fun q => by omega) (lpt_s (fun q => by omega) (lpt_s (fun q => by omega) (lpt_s (fun q => by omega) (lpt_s (fun q => by omega) (lpt_s (fun q => by omega) (lpt_s (fun _ => h) (lpt_20 hc))))))))))
theorem jg10 {a0 a1 a2 a3 a4 a5 a6 a7 a8 a9 : Option Value} {t : List (Option Value)} {v : Value} : (a0 :: a1 :: a2 :: a3 :: a4 :: a5 :: a6 :: a7 :: a8 :: a9 :: some v :: t)[10]? = some (some v) := rfl
theorem jp11 {a0 a1 a2 a3 a4 a5 a6 a7 a8 a9 a10 a11 : Option Value} {t : List (Option Value)} {v : Value} (h : nc2 a10 = true) (hc : v.category = 1) : lpt (a0 :: a1 :: a2 :: a3 :: a4 :: a5 :: a6 :: a7 :: a8 :: a9 :: a10 :: a11 :: t) 11 v (a0 :: a1 :: a2 :: a3 :: a4 :: a5 :: a6 :: a7 :: a8 :: a9 :: a10 :: some v :: t) := lpt_s (fun q => by omega) (lpt_s (fun q => by omega) (lpt_s (fun q => by omega) (lpt_s (fun q => by omega) (lpt_s (fun q => by omega) (lpt_s (fun q => by omega) (lpt_s (fun q => by omega) (lpt_s (fun q => by omega) (lpt_s (fun q => by omega) (lpt_s (fun q => by omega) (lpt_s (fun _ => h) (lpt_0 hc)))))))))))
theorem jq11 {a0 a1 a2 a3 a4 a5 a6 a7 a8 a9 a10 a11 b : Option Value} {t : List (Option Value)} {v : Value} (h : nc2 a10 = true) (hc : v.category = 2) : lpt (a0 :: a1 :: a2 :: a3 :: a4 :: a5 :: a6 :: a7 :: a8 :: a9 :: a10 :: a11 :: b :: t) 11 v (a0 :: a1 :: a2 :: a3 :: a4 :: a5 :: a6 :: a7 :: a8 :: a9 :: a10 :: some v :: none :: t) := lpt_s (fun q => by omega) (lpt_s (fun q => by omega) (lpt_s (fun q => by omega) (lpt_s (fun q => by omega) (lpt_s (fun q => by omega) (lpt_s (fun q => by omega) (lpt_s (fun q => by omega) (lpt_s (fun q => by omega) (lpt_s (fun q => by omega) (lpt_s (fun q => by omega) (lpt_s (fun _ => h) (lpt_20 hc)))))))))))
theorem jg11 {a0 a1 a2 a3 a4 a5 a6 a7 a8 a9 a10 : Option Value} {t : List (Option Value)} {v : Value} : (a0 :: a1 :: a2 :: a3 :: a4 :: a5 :: a6 :: a7 :: a8 :: a9 :: a10 :: some v :: t)[11]? = some (some v) := rfl
/-! the base: what the tables and the statics say, at the method's entry -/
def lsS (j : Nat) : Int32 := if j = 1 then 1 else if j = 3 then 4 else 0
def msS (j : Nat) : Int32 := if j = 0 then 50 else if j = 2 then 1 else 64
def xw : List Cond := [.declares (Bundle.init0 "java/lang/RuntimeException"), .declares (Bundle.init0 "java/lang/Exception"), .declares (Bundle.init0 Bundle.tN), .castable "java/lang/IndexOutOfBoundsException" "java/lang/IndexOutOfBoundsException", .castable "java/lang/IllegalArgumentException" "java/lang/IllegalArgumentException", .castable "java/lang/IllegalStateException" "java/lang/IllegalStateException"]
def ncs : List (String × String) := [("java/lang/IllegalArgumentException", "java/lang/IndexOutOfBoundsException"), ("java/lang/IllegalStateException", "java/lang/IndexOutOfBoundsException"), ("java/lang/IndexOutOfBoundsException", "java/lang/IllegalArgumentException"), ("java/lang/IllegalStateException", "java/lang/IllegalArgumentException"), ("java/lang/IndexOutOfBoundsException", "java/lang/IllegalStateException"), ("java/lang/IllegalArgumentException", "java/lang/IllegalStateException")]
theorem castable_moved {C T : String} {u U : State} (hvm : u.vm.Alike U.vm) (h : va_Nw (.castable C T) u) : va_Nw (.castable C T) U := by
  unfold va_Nw at *
  simp only [Cond.before, Cond.holds, Cond.value] at h ⊢
  rw [hvm.findClass, hvm.findClass]
  revert h
  cases h1 : u.vm.findClass C <;> cases h2 : u.vm.findClass T <;> simp [hvm.assignable]
theorem xw_moved {u U : State} (hW : u.WarmedH U.vm) (h : ∀ w ∈ xw, va_Nw w u) : ∀ w ∈ xw, va_Nw w U := by
  intro w hw
  have h1 := h w hw
  simp only [xw, List.mem_cons, List.not_mem_nil, or_false] at hw
  rcases hw with rfl | rfl | rfl | rfl | rfl | rfl
  · exact va_Nw.warmD hW h1
  · exact va_Nw.warmD hW h1
  · exact va_Nw.warmD hW h1
  · exact castable_moved hW.alike h1
  · exact castable_moved hW.alike h1
  · exact castable_moved hW.alike h1
def jB (E : jE) (U : State) (H : Heap) : Prop := va_K E.2.1 vwCl (jtys E) U ∧ vx_Zq Bundle.tN "UNASSIGNED_STACK" Bundle.steD (jA E) U H ∧ vx_Zq Bundle.tN "SUPPRESSED_SENTINEL" Bundle.listD (jA E) U H ∧ va_Z RX4 "LEAST_SETTING" "[I" (.ref E.2.2.2.1) (jA E) U H ∧ va_Z RX4 "MOST_SETTING" "[I" (.ref E.2.2.2.2) (jA E) U H ∧ va_T .int E.2.2.2.1 4 (fun j => .int (lsS j)) (jA E) U H ∧ va_T .int E.2.2.2.2 4 (fun j => .int (msS j)) (jA E) U H ∧ (E.1 ≤ H.size ∧ E.2.2.1.2.1.1 < E.1 ∧ E.2.2.1.2.1.2.1 ≤ 5000 ∧ va_X E.2.2.1.2.1.1 E.2.2.1.2.1.2.1 E.2.2.1.2.1.2.2 U H) ∧ va_Nw (.methodLinkNest "NumberLeases$Pool" 137 ⟨"NumberLeases", "sum", "([I)I"⟩ "NumberLeases") U ∧ (∀ w ∈ xw, va_Nw w U) ∧ ∀ q ∈ ncs, va_Nc q.1 q.2 U
theorem jB.moved {E : jE} {u U : State} {H : Heap} (hW : u.WarmedH U.vm) (h : jB E u H) : jB E U H := by
  obtain ⟨h1, h2, h3, h4, h5, h6, h7, h8, h9, h10, h11⟩ := h
  have hvm := hW.alike
  exact ⟨h1.moved hvm, h2.moved hvm, h3.moved hvm, h4.moved hvm, h5.moved hvm, h6.moved hvm, h7.moved hvm, ⟨h8.1, h8.2.1, h8.2.2.1, h8.2.2.2.moved hvm⟩, va_Nw.warmM hW h9, xw_moved hW h10, fun q hq => (h11 q hq).moved hvm⟩
theorem jB.go {E : jE} {s U : State} {H : Heap} {locs : List Loc} (h : jB E s s.heap) (hS : va_S (jA E) s.heap H locs) (hvm : s.WarmedH U.vm) (hH : U.heap = H) : jB E U U.heap := by
  have h9 : jB E s H := by
    obtain ⟨h1, h2, h3, h4, h5, h6, h7, h8, h9, h10, h11⟩ := h
    exact ⟨h1, h2.kept hS.2.1, h3.kept hS.2.1, h4.kept hS.2.1, h5.kept hS.2.1, h6.kept hS.2.1, h7.kept hS.2.1, ⟨Nat.le_trans h8.1 hS.1, h8.2.1, h8.2.2.1, h8.2.2.2.kept (hS.2.1 _ (Nat.lt_of_lt_of_le h8.2.1 h8.1) (Nat.not_le.mpr h8.2.1))⟩, h9, h10, h11⟩
  rw [hH]
  exact h9.moved hvm
abbrev jT : Type := jG → Nat → List (Option Value) → List Value → Prop
def jW (p : Program) (l : Launch) (e : Env) (R : Room) (s : State) (m : MethodId) (args : Array Value) (below : List Frame) (meth : Method) (c : Code) (Q : State → Prop) (E : jE) (nL n0 cap cb sb : Nat) : jT := fun G pc L st =>
  n0 ≤ G.2.2.2 → G.2.2.2 ≤ n0 + cap → ∀ (H : Heap) (locs : List Loc) (ls : Array Slot), va_P E.2.1 vwCl (wld E G) H → va_S (jA E) s.heap H locs → lh nL ls L →
    W p l e R s m args below meth c H locs (cb + (G.2.2.2 - n0)) (sb + 6 * (G.2.2.2 - n0)) Q (F0 m pc ls st)
def jR (l : Launch) (E : jE) (own : String) (cc : ByteArray) (nL d n0 cap : Nat) (J : jT) : Prop :=
  ∃ (p : Program) (e : Env) (R : Room) (s : State) (m : MethodId) (args : Array Value) (below : List Frame) (meth : Method) (c : Code) (Q : State → Prop) (cb sb : Nat), J = jW p l e R s m args below meth c Q E nL n0 cap cb sb ∧
    CallFix p m c cc nL s args gw own ∧ d ≤ R.frames ∧ 32 * d ≤ R.locals ∧ cb + cap ≤ R.cells ∧ sb + 6 * cap ≤ R.slots ∧ jB E s s.heap
abbrev rmd (d kx : Nat) : Room := { frames := d, cells := kx, slots := 6 * kx, locals := 32 * d }
def jPc (E : jE) (av : List Value) (G : jG) : Array Value → State → Prop := va_Pc av (fun U => va_P E.2.1 vwCl (wld E G) U.heap ∧ jB E U U.heap)
def jQc (E : jE) (r : Option Value) (G : jG) : Array Value → State → Outcome → State → Prop := fun _ st oc t => (oc = .returned r ∧ va_P E.2.1 vwCl (wld E G) t.heap) ∧ va_F (jA E) st t
/-- THE CONTRACT: y, called with av in the state G, answers r (none: void) and leaves G' -/
def Ct (l : Launch) (E : jE) (y : MethodName) (cc : ByteArray) (nL : Nat) (ret : Option FieldType) (d : Nat) (av : List Value) (G : jG) (r : Option Value) (G' : jG) : Prop :=
  ∃ kx : Nat, G'.2.2.2 = G.2.2.2 + kx ∧ Met l y (.code y cc nL ret :: gw) (rmd d kx) (jPc E av G) (jQc E r G') kx (6 * kx) (jA E)
theorem jPc_blind (E : jE) (av : List Value) (G : jG) : FrameBlind (jPc E av G) := fun a U g mk q => ⟨q.1, q.2.1, jB.moved (u := U) (U := U.calling g mk a) (State.WarmedH.refl U) q.2.2⟩
section ROWS
variable {l : Launch} {E : jE} {own : String} {cc : ByteArray} {nL d n0 cap : Nat} {J : jT} {G : jG} {pc : Nat} {L : List (Option Value)} {rest : List Value}
theorem r_iconst (hJ : jR l E own cc nL d n0 cap J) {n : Int} {v : Int32} (hd : decode cc pc = .ok (.iconst n, 1)) (hv : Int32.ofInt n = v) (k : J G (pc + 1) L (.int v :: rest)) : J G pc L (rest) := by
  obtain ⟨p, e, R, s, m, args, below, meth, c, Q, cb, sb, rfl, ⟨hx, hb, hml, hown, hts⟩, hfr, hlo, hce, hsl, hB⟩ := hJ
  intro h1 h2 H locs ls hP hS hl
  exact lv_iconst hx hb hd hv (k h1 h2 H locs ls hP hS hl)
theorem r_bipush (hJ : jR l E own cc nL d n0 cap J) {n : Int} {v : Int32} (hd : decode cc pc = .ok (.bipush n, 2)) (hv : (Int8.ofInt n).toInt32 = v) (k : J G (pc + 2) L (.int v :: rest)) : J G pc L (rest) := by
  obtain ⟨p, e, R, s, m, args, below, meth, c, Q, cb, sb, rfl, ⟨hx, hb, hml, hown, hts⟩, hfr, hlo, hce, hsl, hB⟩ := hJ
  intro h1 h2 H locs ls hP hS hl
  exact lv_bipush hx hb hd hv (k h1 h2 H locs ls hP hS hl)
theorem r_sipush (hJ : jR l E own cc nL d n0 cap J) {n : Int} {v : Int32} (hd : decode cc pc = .ok (.sipush n, 3)) (hv : (Int16.ofInt n).toInt32 = v) (k : J G (pc + 3) L (.int v :: rest)) : J G pc L (rest) := by
  obtain ⟨p, e, R, s, m, args, below, meth, c, Q, cb, sb, rfl, ⟨hx, hb, hml, hown, hts⟩, hfr, hlo, hce, hsl, hB⟩ := hJ
  intro h1 h2 H locs ls hP hS hl
  exact lv_sipush hx hb hd hv (k h1 h2 H locs ls hP hS hl)
theorem r_lconst (hJ : jR l E own cc nL d n0 cap J) {n : Fin 2} {v : Int64} (hd : decode cc pc = .ok (.lconst n, 1)) (hv : Int64.ofNat (n : Nat) = v) (k : J G (pc + 1) L (.long v :: rest)) : J G pc L (rest) := by
  obtain ⟨p, e, R, s, m, args, below, meth, c, Q, cb, sb, rfl, ⟨hx, hb, hml, hown, hts⟩, hfr, hlo, hce, hsl, hB⟩ := hJ
  intro h1 h2 H locs ls hP hS hl
  exact lv_lconst hx hb hd hv (k h1 h2 H locs ls hP hS hl)
theorem r_iload_n (hJ : jR l E own cc nL d n0 cap J) {q : Fin 4} {i : Nat} {x : Int32} (hd : decode cc pc = .ok (.iload_n q, 1)) (hi : (q : Nat) = i) (hL : L[i]? = some (some (.int x))) (k : J G (pc + 1) L (.int x :: rest)) : J G pc L rest := by
  obtain ⟨p, e, R, s, m, args, below, meth, c, Q, cb, sb, rfl, ⟨hx, hb, hml, hown, hts⟩, hfr, hlo, hce, hsl, hB⟩ := hJ
  intro h1 h2 H locs ls hP hS hl
  exact lv_iload_n hx hb hd hi (hl.2.2.2 i _ hL) (k h1 h2 H locs ls hP hS hl)
theorem r_iload (hJ : jR l E own cc nL d n0 cap J) {i : Nat} {x : Int32} (hd : decode cc pc = .ok (.iload i, 2)) (hL : L[i]? = some (some (.int x))) (k : J G (pc + 2) L (.int x :: rest)) : J G pc L rest := by
  obtain ⟨p, e, R, s, m, args, below, meth, c, Q, cb, sb, rfl, ⟨hx, hb, hml, hown, hts⟩, hfr, hlo, hce, hsl, hB⟩ := hJ
  intro h1 h2 H locs ls hP hS hl
  exact lv_iload hx hb hd (hl.2.2.2 i _ hL) (k h1 h2 H locs ls hP hS hl)
theorem r_istore_n (hJ : jR l E own cc nL d n0 cap J) {q : Fin 4} {i : Nat} {x : Int32} {L' : List (Option Value)} (hd : decode cc pc = .ok (.istore_n q, 1)) (hi : (q : Nat) = i) (hp : lpt L i (.int x) L') (k : J G (pc + 1) L' rest) : J G pc L (.int x :: rest) := by
  obtain ⟨p, e, R, s, m, args, below, meth, c, Q, cb, sb, rfl, ⟨hx, hb, hml, hown, hts⟩, hfr, hlo, hce, hsl, hB⟩ := hJ
  intro h1 h2 H locs ls hP hS hl
  exact lv_istore_n hx hb hd hi (lh_has hl) (hl.2.1 ▸ hp.2.1) rfl (fun ls' hl' => k h1 h2 H locs ls' hP hS (lh_put1 hl.2.1 rfl hp hl'))
theorem r_istore (hJ : jR l E own cc nL d n0 cap J) {i : Nat} {x : Int32} {L' : List (Option Value)} (hd : decode cc pc = .ok (.istore i, 2)) (hp : lpt L i (.int x) L') (k : J G (pc + 2) L' rest) : J G pc L (.int x :: rest) := by
  obtain ⟨p, e, R, s, m, args, below, meth, c, Q, cb, sb, rfl, ⟨hx, hb, hml, hown, hts⟩, hfr, hlo, hce, hsl, hB⟩ := hJ
  intro h1 h2 H locs ls hP hS hl
  exact lv_istore hx hb hd (lh_has hl) (hl.2.1 ▸ hp.2.1) rfl (fun ls' hl' => k h1 h2 H locs ls' hP hS (lh_put1 hl.2.1 rfl hp hl'))
theorem r_lload_n (hJ : jR l E own cc nL d n0 cap J) {q : Fin 4} {i : Nat} {x : Int64} (hd : decode cc pc = .ok (.lload_n q, 1)) (hi : (q : Nat) = i) (hL : L[i]? = some (some (.long x))) (k : J G (pc + 1) L (.long x :: rest)) : J G pc L rest := by
  obtain ⟨p, e, R, s, m, args, below, meth, c, Q, cb, sb, rfl, ⟨hx, hb, hml, hown, hts⟩, hfr, hlo, hce, hsl, hB⟩ := hJ
  intro h1 h2 H locs ls hP hS hl
  exact lv_lload_n hx hb hd hi (hl.2.2.2 i _ hL) (k h1 h2 H locs ls hP hS hl)
theorem r_lload (hJ : jR l E own cc nL d n0 cap J) {i : Nat} {x : Int64} (hd : decode cc pc = .ok (.lload i, 2)) (hL : L[i]? = some (some (.long x))) (k : J G (pc + 2) L (.long x :: rest)) : J G pc L rest := by
  obtain ⟨p, e, R, s, m, args, below, meth, c, Q, cb, sb, rfl, ⟨hx, hb, hml, hown, hts⟩, hfr, hlo, hce, hsl, hB⟩ := hJ
  intro h1 h2 H locs ls hP hS hl
  exact lv_lload hx hb hd (hl.2.2.2 i _ hL) (k h1 h2 H locs ls hP hS hl)
theorem r_lstore_n (hJ : jR l E own cc nL d n0 cap J) {q : Fin 4} {i : Nat} {x : Int64} {L' : List (Option Value)} (hd : decode cc pc = .ok (.lstore_n q, 1)) (hi : (q : Nat) = i) (hp : lpt L i (.long x) L') (k : J G (pc + 1) L' rest) : J G pc L (.long x :: rest) := by
  obtain ⟨p, e, R, s, m, args, below, meth, c, Q, cb, sb, rfl, ⟨hx, hb, hml, hown, hts⟩, hfr, hlo, hce, hsl, hB⟩ := hJ
  intro h1 h2 H locs ls hP hS hl
  exact lv_lstore_n hx hb hd hi (lh_has hl) (hl.2.1 ▸ hp.2.2.1 rfl) rfl (fun ls' hl' => k h1 h2 H locs ls' hP hS (lh_put2 hl.2.1 rfl hp hl'))
theorem r_lstore (hJ : jR l E own cc nL d n0 cap J) {i : Nat} {x : Int64} {L' : List (Option Value)} (hd : decode cc pc = .ok (.lstore i, 2)) (hp : lpt L i (.long x) L') (k : J G (pc + 2) L' rest) : J G pc L (.long x :: rest) := by
  obtain ⟨p, e, R, s, m, args, below, meth, c, Q, cb, sb, rfl, ⟨hx, hb, hml, hown, hts⟩, hfr, hlo, hce, hsl, hB⟩ := hJ
  intro h1 h2 H locs ls hP hS hl
  exact lv_lstore hx hb hd (lh_has hl) (hl.2.1 ▸ hp.2.2.1 rfl) rfl (fun ls' hl' => k h1 h2 H locs ls' hP hS (lh_put2 hl.2.1 rfl hp hl'))
theorem r_aload_n (hJ : jR l E own cc nL d n0 cap J) {q : Fin 4} {i : Nat} {x : Nat} (hd : decode cc pc = .ok (.aload_n q, 1)) (hi : (q : Nat) = i) (hL : L[i]? = some (some (.ref x))) (k : J G (pc + 1) L (.ref x :: rest)) : J G pc L rest := by
  obtain ⟨p, e, R, s, m, args, below, meth, c, Q, cb, sb, rfl, ⟨hx, hb, hml, hown, hts⟩, hfr, hlo, hce, hsl, hB⟩ := hJ
  intro h1 h2 H locs ls hP hS hl
  exact lv_aload_n hx hb hd hi (hl.2.2.2 i _ hL) (k h1 h2 H locs ls hP hS hl)
theorem r_aload (hJ : jR l E own cc nL d n0 cap J) {i : Nat} {x : Nat} (hd : decode cc pc = .ok (.aload i, 2)) (hL : L[i]? = some (some (.ref x))) (k : J G (pc + 2) L (.ref x :: rest)) : J G pc L rest := by
  obtain ⟨p, e, R, s, m, args, below, meth, c, Q, cb, sb, rfl, ⟨hx, hb, hml, hown, hts⟩, hfr, hlo, hce, hsl, hB⟩ := hJ
  intro h1 h2 H locs ls hP hS hl
  exact lv_aload hx hb hd (hl.2.2.2 i _ hL) (k h1 h2 H locs ls hP hS hl)
theorem r_astore_n (hJ : jR l E own cc nL d n0 cap J) {q : Fin 4} {i : Nat} {x : Nat} {L' : List (Option Value)} (hd : decode cc pc = .ok (.astore_n q, 1)) (hi : (q : Nat) = i) (hp : lpt L i (.ref x) L') (k : J G (pc + 1) L' rest) : J G pc L (.ref x :: rest) := by
  obtain ⟨p, e, R, s, m, args, below, meth, c, Q, cb, sb, rfl, ⟨hx, hb, hml, hown, hts⟩, hfr, hlo, hce, hsl, hB⟩ := hJ
  intro h1 h2 H locs ls hP hS hl
  exact lv_astore_n hx hb hd hi (lh_has hl) (hl.2.1 ▸ hp.2.1) rfl (fun ls' hl' => k h1 h2 H locs ls' hP hS (lh_put1 hl.2.1 rfl hp hl'))
theorem r_astore (hJ : jR l E own cc nL d n0 cap J) {i : Nat} {x : Nat} {L' : List (Option Value)} (hd : decode cc pc = .ok (.astore i, 2)) (hp : lpt L i (.ref x) L') (k : J G (pc + 2) L' rest) : J G pc L (.ref x :: rest) := by
  obtain ⟨p, e, R, s, m, args, below, meth, c, Q, cb, sb, rfl, ⟨hx, hb, hml, hown, hts⟩, hfr, hlo, hce, hsl, hB⟩ := hJ
  intro h1 h2 H locs ls hP hS hl
  exact lv_astore hx hb hd (lh_has hl) (hl.2.1 ▸ hp.2.1) rfl (fun ls' hl' => k h1 h2 H locs ls' hP hS (lh_put1 hl.2.1 rfl hp hl'))
theorem r_fload_n (hJ : jR l E own cc nL d n0 cap J) {q : Fin 4} {i : Nat} {x : UInt32} (hd : decode cc pc = .ok (.fload_n q, 1)) (hi : (q : Nat) = i) (hL : L[i]? = some (some (.float x))) (k : J G (pc + 1) L (.float x :: rest)) : J G pc L rest := by
  obtain ⟨p, e, R, s, m, args, below, meth, c, Q, cb, sb, rfl, ⟨hx, hb, hml, hown, hts⟩, hfr, hlo, hce, hsl, hB⟩ := hJ
  intro h1 h2 H locs ls hP hS hl
  exact lv_fload_n hx hb hd hi (hl.2.2.2 i _ hL) (k h1 h2 H locs ls hP hS hl)
theorem r_fload (hJ : jR l E own cc nL d n0 cap J) {i : Nat} {x : UInt32} (hd : decode cc pc = .ok (.fload i, 2)) (hL : L[i]? = some (some (.float x))) (k : J G (pc + 2) L (.float x :: rest)) : J G pc L rest := by
  obtain ⟨p, e, R, s, m, args, below, meth, c, Q, cb, sb, rfl, ⟨hx, hb, hml, hown, hts⟩, hfr, hlo, hce, hsl, hB⟩ := hJ
  intro h1 h2 H locs ls hP hS hl
  exact lv_fload hx hb hd (hl.2.2.2 i _ hL) (k h1 h2 H locs ls hP hS hl)
theorem r_fstore_n (hJ : jR l E own cc nL d n0 cap J) {q : Fin 4} {i : Nat} {x : UInt32} {L' : List (Option Value)} (hd : decode cc pc = .ok (.fstore_n q, 1)) (hi : (q : Nat) = i) (hp : lpt L i (.float x) L') (k : J G (pc + 1) L' rest) : J G pc L (.float x :: rest) := by
  obtain ⟨p, e, R, s, m, args, below, meth, c, Q, cb, sb, rfl, ⟨hx, hb, hml, hown, hts⟩, hfr, hlo, hce, hsl, hB⟩ := hJ
  intro h1 h2 H locs ls hP hS hl
  exact lv_fstore_n hx hb hd hi (lh_has hl) (hl.2.1 ▸ hp.2.1) rfl (fun ls' hl' => k h1 h2 H locs ls' hP hS (lh_put1 hl.2.1 rfl hp hl'))
theorem r_fstore (hJ : jR l E own cc nL d n0 cap J) {i : Nat} {x : UInt32} {L' : List (Option Value)} (hd : decode cc pc = .ok (.fstore i, 2)) (hp : lpt L i (.float x) L') (k : J G (pc + 2) L' rest) : J G pc L (.float x :: rest) := by
  obtain ⟨p, e, R, s, m, args, below, meth, c, Q, cb, sb, rfl, ⟨hx, hb, hml, hown, hts⟩, hfr, hlo, hce, hsl, hB⟩ := hJ
  intro h1 h2 H locs ls hP hS hl
  exact lv_fstore hx hb hd (lh_has hl) (hl.2.1 ▸ hp.2.1) rfl (fun ls' hl' => k h1 h2 H locs ls' hP hS (lh_put1 hl.2.1 rfl hp hl'))
theorem r_dload_n (hJ : jR l E own cc nL d n0 cap J) {q : Fin 4} {i : Nat} {x : UInt64} (hd : decode cc pc = .ok (.dload_n q, 1)) (hi : (q : Nat) = i) (hL : L[i]? = some (some (.double x))) (k : J G (pc + 1) L (.double x :: rest)) : J G pc L rest := by
  obtain ⟨p, e, R, s, m, args, below, meth, c, Q, cb, sb, rfl, ⟨hx, hb, hml, hown, hts⟩, hfr, hlo, hce, hsl, hB⟩ := hJ
  intro h1 h2 H locs ls hP hS hl
  exact lv_dload_n hx hb hd hi (hl.2.2.2 i _ hL) (k h1 h2 H locs ls hP hS hl)
theorem r_dload (hJ : jR l E own cc nL d n0 cap J) {i : Nat} {x : UInt64} (hd : decode cc pc = .ok (.dload i, 2)) (hL : L[i]? = some (some (.double x))) (k : J G (pc + 2) L (.double x :: rest)) : J G pc L rest := by
  obtain ⟨p, e, R, s, m, args, below, meth, c, Q, cb, sb, rfl, ⟨hx, hb, hml, hown, hts⟩, hfr, hlo, hce, hsl, hB⟩ := hJ
  intro h1 h2 H locs ls hP hS hl
  exact lv_dload hx hb hd (hl.2.2.2 i _ hL) (k h1 h2 H locs ls hP hS hl)
theorem r_dstore_n (hJ : jR l E own cc nL d n0 cap J) {q : Fin 4} {i : Nat} {x : UInt64} {L' : List (Option Value)} (hd : decode cc pc = .ok (.dstore_n q, 1)) (hi : (q : Nat) = i) (hp : lpt L i (.double x) L') (k : J G (pc + 1) L' rest) : J G pc L (.double x :: rest) := by
  obtain ⟨p, e, R, s, m, args, below, meth, c, Q, cb, sb, rfl, ⟨hx, hb, hml, hown, hts⟩, hfr, hlo, hce, hsl, hB⟩ := hJ
  intro h1 h2 H locs ls hP hS hl
  exact lv_dstore_n hx hb hd hi (lh_has hl) (hl.2.1 ▸ hp.2.2.1 rfl) rfl (fun ls' hl' => k h1 h2 H locs ls' hP hS (lh_put2 hl.2.1 rfl hp hl'))
theorem r_dstore (hJ : jR l E own cc nL d n0 cap J) {i : Nat} {x : UInt64} {L' : List (Option Value)} (hd : decode cc pc = .ok (.dstore i, 2)) (hp : lpt L i (.double x) L') (k : J G (pc + 2) L' rest) : J G pc L (.double x :: rest) := by
  obtain ⟨p, e, R, s, m, args, below, meth, c, Q, cb, sb, rfl, ⟨hx, hb, hml, hown, hts⟩, hfr, hlo, hce, hsl, hB⟩ := hJ
  intro h1 h2 H locs ls hP hS hl
  exact lv_dstore hx hb hd (lh_has hl) (hl.2.1 ▸ hp.2.2.1 rfl) rfl (fun ls' hl' => k h1 h2 H locs ls' hP hS (lh_put2 hl.2.1 rfl hp hl'))
theorem r_iinc (hJ : jR l E own cc nL d n0 cap J) {i : Nat} {n : Int} {x v : Int32} {L' : List (Option Value)} (hd : decode cc pc = .ok (.iinc i n, 3)) (hL : L[i]? = some (some (.int x))) (hv : x + Int32.ofInt n = v) (hp : lpt L i (.int v) L') (k : J G (pc + 3) L' rest) : J G pc L rest := by
  obtain ⟨p, e, R, s, m, args, below, meth, c, Q, cb, sb, rfl, ⟨hx, hb, hml, hown, hts⟩, hfr, hlo, hce, hsl, hB⟩ := hJ
  intro h1 h2 H locs ls hP hS hl
  obtain ⟨kk, hk⟩ := List.getElem?_of_mem ((lprs_mem L 0 (i, .int x)).mpr ⟨i, by simp, hL⟩)
  exact lv_iinc hx hb hd (lh_has hl) (k := kk) hk hv (hl.2.1 ▸ hp.2.1) rfl (fun ls' hl' => k h1 h2 H locs ls' hP hS (lh_put1 hl.2.1 rfl hp hl'))
theorem r_iadd (hJ : jR l E own cc nL d n0 cap J) {x y : Int32} (hd : decode cc pc = .ok (.iadd, 1)) (k : J G (pc + 1) L (.int (x + y) :: rest)) : J G pc L (.int y :: .int x :: rest) := by
  obtain ⟨p, e, R, s, m, args, below, meth, c, Q, cb, sb, rfl, ⟨hx, hb, hml, hown, hts⟩, hfr, hlo, hce, hsl, hB⟩ := hJ
  intro h1 h2 H locs ls hP hS hl
  exact lv_iadd hx hb hd (k h1 h2 H locs ls hP hS hl)
theorem r_isub (hJ : jR l E own cc nL d n0 cap J) {x y : Int32} (hd : decode cc pc = .ok (.isub, 1)) (k : J G (pc + 1) L (.int (x - y) :: rest)) : J G pc L (.int y :: .int x :: rest) := by
  obtain ⟨p, e, R, s, m, args, below, meth, c, Q, cb, sb, rfl, ⟨hx, hb, hml, hown, hts⟩, hfr, hlo, hce, hsl, hB⟩ := hJ
  intro h1 h2 H locs ls hP hS hl
  exact lv_isub hx hb hd (k h1 h2 H locs ls hP hS hl)
theorem r_imul (hJ : jR l E own cc nL d n0 cap J) {x y : Int32} (hd : decode cc pc = .ok (.imul, 1)) (k : J G (pc + 1) L (.int (x * y) :: rest)) : J G pc L (.int y :: .int x :: rest) := by
  obtain ⟨p, e, R, s, m, args, below, meth, c, Q, cb, sb, rfl, ⟨hx, hb, hml, hown, hts⟩, hfr, hlo, hce, hsl, hB⟩ := hJ
  intro h1 h2 H locs ls hP hS hl
  exact lv_imul hx hb hd (k h1 h2 H locs ls hP hS hl)
theorem r_iand (hJ : jR l E own cc nL d n0 cap J) {x y : Int32} (hd : decode cc pc = .ok (.iand, 1)) (k : J G (pc + 1) L (.int (x &&& y) :: rest)) : J G pc L (.int y :: .int x :: rest) := by
  obtain ⟨p, e, R, s, m, args, below, meth, c, Q, cb, sb, rfl, ⟨hx, hb, hml, hown, hts⟩, hfr, hlo, hce, hsl, hB⟩ := hJ
  intro h1 h2 H locs ls hP hS hl
  exact lv_iand hx hb hd (k h1 h2 H locs ls hP hS hl)
theorem r_ladd (hJ : jR l E own cc nL d n0 cap J) {x y : Int64} (hd : decode cc pc = .ok (.ladd, 1)) (k : J G (pc + 1) L (.long (x + y) :: rest)) : J G pc L (.long y :: .long x :: rest) := by
  obtain ⟨p, e, R, s, m, args, below, meth, c, Q, cb, sb, rfl, ⟨hx, hb, hml, hown, hts⟩, hfr, hlo, hce, hsl, hB⟩ := hJ
  intro h1 h2 H locs ls hP hS hl
  exact lv_ladd hx hb hd (k h1 h2 H locs ls hP hS hl)
theorem r_lsub (hJ : jR l E own cc nL d n0 cap J) {x y : Int64} (hd : decode cc pc = .ok (.lsub, 1)) (k : J G (pc + 1) L (.long (x - y) :: rest)) : J G pc L (.long y :: .long x :: rest) := by
  obtain ⟨p, e, R, s, m, args, below, meth, c, Q, cb, sb, rfl, ⟨hx, hb, hml, hown, hts⟩, hfr, hlo, hce, hsl, hB⟩ := hJ
  intro h1 h2 H locs ls hP hS hl
  exact lv_lsub hx hb hd (k h1 h2 H locs ls hP hS hl)
theorem r_lmul (hJ : jR l E own cc nL d n0 cap J) {x y : Int64} (hd : decode cc pc = .ok (.lmul, 1)) (k : J G (pc + 1) L (.long (x * y) :: rest)) : J G pc L (.long y :: .long x :: rest) := by
  obtain ⟨p, e, R, s, m, args, below, meth, c, Q, cb, sb, rfl, ⟨hx, hb, hml, hown, hts⟩, hfr, hlo, hce, hsl, hB⟩ := hJ
  intro h1 h2 H locs ls hP hS hl
  exact lv_lmul hx hb hd (k h1 h2 H locs ls hP hS hl)
theorem r_i2l (hJ : jR l E own cc nL d n0 cap J) {x : Int32} {v : Int64} (hd : decode cc pc = .ok (.i2l, 1)) (hv : x.toInt64 = v) (k : J G (pc + 1) L (.long v :: rest)) : J G pc L (.int x :: rest) := by
  obtain ⟨p, e, R, s, m, args, below, meth, c, Q, cb, sb, rfl, ⟨hx, hb, hml, hown, hts⟩, hfr, hlo, hce, hsl, hB⟩ := hJ
  intro h1 h2 H locs ls hP hS hl
  exact lv_i2l hx hb hd hv (k h1 h2 H locs ls hP hS hl)
theorem r_dup (hJ : jR l E own cc nL d n0 cap J) {va : Value} (hd : decode cc pc = .ok (.dup, 1)) (hva : va.category = 1) (k : J G (pc + 1) L (va :: va :: rest)) : J G pc L (va :: rest) := by
  obtain ⟨p, e, R, s, m, args, below, meth, c, Q, cb, sb, rfl, ⟨hx, hb, hml, hown, hts⟩, hfr, hlo, hce, hsl, hB⟩ := hJ
  intro h1 h2 H locs ls hP hS hl
  exact lv_dup hx hb hd hva (k h1 h2 H locs ls hP hS hl)
theorem r_pop (hJ : jR l E own cc nL d n0 cap J) {va : Value} (hd : decode cc pc = .ok (.pop, 1)) (hva : va.category = 1) (k : J G (pc + 1) L (rest)) : J G pc L (va :: rest) := by
  obtain ⟨p, e, R, s, m, args, below, meth, c, Q, cb, sb, rfl, ⟨hx, hb, hml, hown, hts⟩, hfr, hlo, hce, hsl, hB⟩ := hJ
  intro h1 h2 H locs ls hP hS hl
  exact lv_pop hx hb hd hva (k h1 h2 H locs ls hP hS hl)
theorem r_dup2_11 (hJ : jR l E own cc nL d n0 cap J) {va vb : Value} (hd : decode cc pc = .ok (.dup2, 1)) (hva : va.category = 1) (hvb : vb.category = 1) (k : J G (pc + 1) L (va :: vb :: va :: vb :: rest)) : J G pc L (va :: vb :: rest) := by
  obtain ⟨p, e, R, s, m, args, below, meth, c, Q, cb, sb, rfl, ⟨hx, hb, hml, hown, hts⟩, hfr, hlo, hce, hsl, hB⟩ := hJ
  intro h1 h2 H locs ls hP hS hl
  exact lv_dup2_11 hx hb hd hva hvb (k h1 h2 H locs ls hP hS hl)
theorem r_ishl (hJ : jR l E own cc nL d n0 cap J) {x y : Int32} (hd : decode cc pc = .ok (.ishl, 1)) (k : J G (pc + 1) L (.int (x <<< (y &&& 31)) :: rest)) : J G pc L (.int y :: .int x :: rest) := by
  obtain ⟨p, e, R, s, m, args, below, meth, c, Q, cb, sb, rfl, ⟨hx, hb, hml, hown, hts⟩, hfr, hlo, hce, hsl, hB⟩ := hJ
  intro h1 h2 H locs ls hP hS hl
  exact lv_ishl hx hb hd (k h1 h2 H locs ls hP hS hl)
theorem r_null (hJ : jR l E own cc nL d n0 cap J) (hd : decode cc pc = .ok (.aconst_null, 1)) (k : J G (pc + 1) L (.null :: rest)) : J G pc L (rest) := by
  obtain ⟨p, e, R, s, m, args, below, meth, c, Q, cb, sb, rfl, ⟨hx, hb, hml, hown, hts⟩, hfr, hlo, hce, hsl, hB⟩ := hJ
  intro h1 h2 H locs ls hP hS hl
  exact lv_null hx hb hd (k h1 h2 H locs ls hP hS hl)
theorem r_if_eq (hJ : jR l E own cc nL d n0 cap J) {x : Int32} {off : Int} {tgt : Nat} (hd : decode cc pc = .ok (.ifCond .eq off, 3)) (ht : (pc : Int) + off = (tgt : Int)) (kt : x = 0 → J G tgt L rest) (kf : ¬ x = 0 → J G (pc + 3) L rest) : J G pc L (.int x :: rest) := by
  obtain ⟨p, e, R, s, m, args, below, meth, c, Q, cb, sb, rfl, ⟨hx, hb, hml, hown, hts⟩, hfr, hlo, hce, hsl, hB⟩ := hJ
  intro h1 h2 H locs ls hP hS hl
  exact lv_if_eq hx hb hd ht (fun q => kt q h1 h2 H locs ls hP hS hl) (fun q => kf q h1 h2 H locs ls hP hS hl)
theorem r_icmp_eq (hJ : jR l E own cc nL d n0 cap J) {x y : Int32} {off : Int} {tgt : Nat} (hd : decode cc pc = .ok (.if_icmp .eq off, 3)) (ht : (pc : Int) + off = (tgt : Int)) (kt : x = y → J G tgt L rest) (kf : ¬ x = y → J G (pc + 3) L rest) : J G pc L (.int y :: .int x :: rest) := by
  obtain ⟨p, e, R, s, m, args, below, meth, c, Q, cb, sb, rfl, ⟨hx, hb, hml, hown, hts⟩, hfr, hlo, hce, hsl, hB⟩ := hJ
  intro h1 h2 H locs ls hP hS hl
  exact lv_icmp_eq hx hb hd ht (fun q => kt q h1 h2 H locs ls hP hS hl) (fun q => kf q h1 h2 H locs ls hP hS hl)
theorem r_if_ne (hJ : jR l E own cc nL d n0 cap J) {x : Int32} {off : Int} {tgt : Nat} (hd : decode cc pc = .ok (.ifCond .ne off, 3)) (ht : (pc : Int) + off = (tgt : Int)) (kt : ¬ x = 0 → J G tgt L rest) (kf : x = 0 → J G (pc + 3) L rest) : J G pc L (.int x :: rest) := by
  obtain ⟨p, e, R, s, m, args, below, meth, c, Q, cb, sb, rfl, ⟨hx, hb, hml, hown, hts⟩, hfr, hlo, hce, hsl, hB⟩ := hJ
  intro h1 h2 H locs ls hP hS hl
  exact lv_if_ne hx hb hd ht (fun q => kt q h1 h2 H locs ls hP hS hl) (fun q => kf q h1 h2 H locs ls hP hS hl)
theorem r_icmp_ne (hJ : jR l E own cc nL d n0 cap J) {x y : Int32} {off : Int} {tgt : Nat} (hd : decode cc pc = .ok (.if_icmp .ne off, 3)) (ht : (pc : Int) + off = (tgt : Int)) (kt : ¬ x = y → J G tgt L rest) (kf : x = y → J G (pc + 3) L rest) : J G pc L (.int y :: .int x :: rest) := by
  obtain ⟨p, e, R, s, m, args, below, meth, c, Q, cb, sb, rfl, ⟨hx, hb, hml, hown, hts⟩, hfr, hlo, hce, hsl, hB⟩ := hJ
  intro h1 h2 H locs ls hP hS hl
  exact lv_icmp_ne hx hb hd ht (fun q => kt q h1 h2 H locs ls hP hS hl) (fun q => kf q h1 h2 H locs ls hP hS hl)
theorem r_if_lt (hJ : jR l E own cc nL d n0 cap J) {x : Int32} {off : Int} {tgt : Nat} (hd : decode cc pc = .ok (.ifCond .lt off, 3)) (ht : (pc : Int) + off = (tgt : Int)) (kt : x < 0 → J G tgt L rest) (kf : ¬ x < 0 → J G (pc + 3) L rest) : J G pc L (.int x :: rest) := by
  obtain ⟨p, e, R, s, m, args, below, meth, c, Q, cb, sb, rfl, ⟨hx, hb, hml, hown, hts⟩, hfr, hlo, hce, hsl, hB⟩ := hJ
  intro h1 h2 H locs ls hP hS hl
  exact lv_if_lt hx hb hd ht (fun q => kt q h1 h2 H locs ls hP hS hl) (fun q => kf q h1 h2 H locs ls hP hS hl)
theorem r_icmp_lt (hJ : jR l E own cc nL d n0 cap J) {x y : Int32} {off : Int} {tgt : Nat} (hd : decode cc pc = .ok (.if_icmp .lt off, 3)) (ht : (pc : Int) + off = (tgt : Int)) (kt : x < y → J G tgt L rest) (kf : ¬ x < y → J G (pc + 3) L rest) : J G pc L (.int y :: .int x :: rest) := by
  obtain ⟨p, e, R, s, m, args, below, meth, c, Q, cb, sb, rfl, ⟨hx, hb, hml, hown, hts⟩, hfr, hlo, hce, hsl, hB⟩ := hJ
  intro h1 h2 H locs ls hP hS hl
  exact lv_icmp_lt hx hb hd ht (fun q => kt q h1 h2 H locs ls hP hS hl) (fun q => kf q h1 h2 H locs ls hP hS hl)
theorem r_if_ge (hJ : jR l E own cc nL d n0 cap J) {x : Int32} {off : Int} {tgt : Nat} (hd : decode cc pc = .ok (.ifCond .ge off, 3)) (ht : (pc : Int) + off = (tgt : Int)) (kt : 0 ≤ x → J G tgt L rest) (kf : ¬ 0 ≤ x → J G (pc + 3) L rest) : J G pc L (.int x :: rest) := by
  obtain ⟨p, e, R, s, m, args, below, meth, c, Q, cb, sb, rfl, ⟨hx, hb, hml, hown, hts⟩, hfr, hlo, hce, hsl, hB⟩ := hJ
  intro h1 h2 H locs ls hP hS hl
  exact lv_if_ge hx hb hd ht (fun q => kt q h1 h2 H locs ls hP hS hl) (fun q => kf q h1 h2 H locs ls hP hS hl)
theorem r_icmp_ge (hJ : jR l E own cc nL d n0 cap J) {x y : Int32} {off : Int} {tgt : Nat} (hd : decode cc pc = .ok (.if_icmp .ge off, 3)) (ht : (pc : Int) + off = (tgt : Int)) (kt : y ≤ x → J G tgt L rest) (kf : ¬ y ≤ x → J G (pc + 3) L rest) : J G pc L (.int y :: .int x :: rest) := by
  obtain ⟨p, e, R, s, m, args, below, meth, c, Q, cb, sb, rfl, ⟨hx, hb, hml, hown, hts⟩, hfr, hlo, hce, hsl, hB⟩ := hJ
  intro h1 h2 H locs ls hP hS hl
  exact lv_icmp_ge hx hb hd ht (fun q => kt q h1 h2 H locs ls hP hS hl) (fun q => kf q h1 h2 H locs ls hP hS hl)
theorem r_if_gt (hJ : jR l E own cc nL d n0 cap J) {x : Int32} {off : Int} {tgt : Nat} (hd : decode cc pc = .ok (.ifCond .gt off, 3)) (ht : (pc : Int) + off = (tgt : Int)) (kt : 0 < x → J G tgt L rest) (kf : ¬ 0 < x → J G (pc + 3) L rest) : J G pc L (.int x :: rest) := by
  obtain ⟨p, e, R, s, m, args, below, meth, c, Q, cb, sb, rfl, ⟨hx, hb, hml, hown, hts⟩, hfr, hlo, hce, hsl, hB⟩ := hJ
  intro h1 h2 H locs ls hP hS hl
  exact lv_if_gt hx hb hd ht (fun q => kt q h1 h2 H locs ls hP hS hl) (fun q => kf q h1 h2 H locs ls hP hS hl)
theorem r_icmp_gt (hJ : jR l E own cc nL d n0 cap J) {x y : Int32} {off : Int} {tgt : Nat} (hd : decode cc pc = .ok (.if_icmp .gt off, 3)) (ht : (pc : Int) + off = (tgt : Int)) (kt : y < x → J G tgt L rest) (kf : ¬ y < x → J G (pc + 3) L rest) : J G pc L (.int y :: .int x :: rest) := by
  obtain ⟨p, e, R, s, m, args, below, meth, c, Q, cb, sb, rfl, ⟨hx, hb, hml, hown, hts⟩, hfr, hlo, hce, hsl, hB⟩ := hJ
  intro h1 h2 H locs ls hP hS hl
  exact lv_icmp_gt hx hb hd ht (fun q => kt q h1 h2 H locs ls hP hS hl) (fun q => kf q h1 h2 H locs ls hP hS hl)
theorem r_if_le (hJ : jR l E own cc nL d n0 cap J) {x : Int32} {off : Int} {tgt : Nat} (hd : decode cc pc = .ok (.ifCond .le off, 3)) (ht : (pc : Int) + off = (tgt : Int)) (kt : x ≤ 0 → J G tgt L rest) (kf : ¬ x ≤ 0 → J G (pc + 3) L rest) : J G pc L (.int x :: rest) := by
  obtain ⟨p, e, R, s, m, args, below, meth, c, Q, cb, sb, rfl, ⟨hx, hb, hml, hown, hts⟩, hfr, hlo, hce, hsl, hB⟩ := hJ
  intro h1 h2 H locs ls hP hS hl
  exact lv_if_le hx hb hd ht (fun q => kt q h1 h2 H locs ls hP hS hl) (fun q => kf q h1 h2 H locs ls hP hS hl)
theorem r_icmp_le (hJ : jR l E own cc nL d n0 cap J) {x y : Int32} {off : Int} {tgt : Nat} (hd : decode cc pc = .ok (.if_icmp .le off, 3)) (ht : (pc : Int) + off = (tgt : Int)) (kt : x ≤ y → J G tgt L rest) (kf : ¬ x ≤ y → J G (pc + 3) L rest) : J G pc L (.int y :: .int x :: rest) := by
  obtain ⟨p, e, R, s, m, args, below, meth, c, Q, cb, sb, rfl, ⟨hx, hb, hml, hown, hts⟩, hfr, hlo, hce, hsl, hB⟩ := hJ
  intro h1 h2 H locs ls hP hS hl
  exact lv_icmp_le hx hb hd ht (fun q => kt q h1 h2 H locs ls hP hS hl) (fun q => kf q h1 h2 H locs ls hP hS hl)
theorem r_goto (hJ : jR l E own cc nL d n0 cap J) {off : Int} {tgt : Nat} (hd : decode cc pc = .ok (.goto off, 3)) (ht : (pc : Int) + off = (tgt : Int)) (k : J G tgt L rest) : J G pc L rest := by
  obtain ⟨p, e, R, s, m, args, below, meth, c, Q, cb, sb, rfl, ⟨hx, hb, hml, hown, hts⟩, hfr, hlo, hce, hsl, hB⟩ := hJ
  intro h1 h2 H locs ls hP hS hl
  exact lv_goto hx hb hd ht (k h1 h2 H locs ls hP hS hl)
theorem r_tableOut (hJ : jR l E own cc nL d n0 cap J) {dflt lo hi : Int} {offs : Array Int} {len : Nat} {x : Int32} {tgt : Nat} (hd : decode cc pc = .ok (.tableswitch dflt lo hi offs, len)) (h : x.toInt < lo ∨ hi < x.toInt) (ht : (pc : Int) + dflt = (tgt : Int)) (k : J G tgt L rest) : J G pc L (.int x :: rest) := by
  obtain ⟨p, e, R, s, m, args, below, meth, c, Q, cb, sb, rfl, ⟨hx, hb, hml, hown, hts⟩, hfr, hlo, hce, hsl, hB⟩ := hJ
  intro h1 h2 H locs ls hP hS hl
  exact lv_tableOut hx hb hd h ht (k h1 h2 H locs ls hP hS hl)
theorem r_tableIn (hJ : jR l E own cc nL d n0 cap J) {dflt lo hi : Int} {offs : Array Int} {len : Nat} {x : Int32} {off : Int} {tgt : Nat} (hd : decode cc pc = .ok (.tableswitch dflt lo hi offs, len)) (g1 : ¬ x.toInt < lo) (g2 : ¬ hi < x.toInt) (ho : offs[(x.toInt - lo).toNat]? = some off) (ht : (pc : Int) + off = (tgt : Int)) (k : J G tgt L rest) : J G pc L (.int x :: rest) := by
  obtain ⟨p, e, R, s, m, args, below, meth, c, Q, cb, sb, rfl, ⟨hx, hb, hml, hown, hts⟩, hfr, hlo, hce, hsl, hB⟩ := hJ
  intro h1 h2 H locs ls hP hS hl
  exact lv_tableIn hx hb hd g1 g2 ho ht (k h1 h2 H locs ls hP hS hl)
theorem r_lookup (hJ : jR l E own cc nL d n0 cap J) {dflt : Int} {ps : Array (Int × Int)} {len : Nat} {x : Int32} {off : Int} {tgt : Nat} (hd : decode cc pc = .ok (.lookupswitch dflt ps, len)) (hp : (ps.toList.zip (ps.toList.drop 1)).all (fun (a, next) => a.1 < next.1) = true) (ho : Op.lookupswitch.offset ps.toList dflt x.toInt = off) (ht : (pc : Int) + off = (tgt : Int)) (k : J G tgt L rest) : J G pc L (.int x :: rest) := by
  obtain ⟨p, e, R, s, m, args, below, meth, c, Q, cb, sb, rfl, ⟨hx, hb, hml, hown, hts⟩, hfr, hlo, hce, hsl, hB⟩ := hJ
  intro h1 h2 H locs ls hP hS hl
  exact lv_lookup hx hb hd hp ho ht (k h1 h2 H locs ls hP hS hl)
theorem r_ifnull (hJ : jR l E own cc nL d n0 cap J) {x : Nat} {off : Int} (hd : decode cc pc = .ok (.ifnull off, 3)) (k : J G (pc + 3) L rest) : J G pc L (.ref x :: rest) := by
  obtain ⟨p, e, R, s, m, args, below, meth, c, Q, cb, sb, rfl, ⟨hx, hb, hml, hown, hts⟩, hfr, hlo, hce, hsl, hB⟩ := hJ
  intro h1 h2 H locs ls hP hS hl
  exact lv_ifnull hx hb hd (k h1 h2 H locs ls hP hS hl)
theorem r_topi {x : Int32} (k : ∀ y : Int32, y = x → J G pc L (.int y :: rest)) : J G pc L (.int x :: rest) := k x rfl
theorem aln_le (o j : Nat) : aln o j ≤ 4800 := by
  unfold aln
  repeat' split
  all_goals omega
theorem r_iald (hJ : jR l E own cc nL d n0 cap J) {S : jS} {x : jX} {o j n : Nat} {i : Int32} (ho : o < 13) (hn : n < aln o j) (hi : i = nI n) (hd : decode cc pc = .ok (.iaload, 1)) (k : J (S, x) (pc + 1) L (.int (S o j n) :: rest)) : J (S, x) pc L (.int i :: .ref (ad E o j) :: rest) := by
  obtain ⟨p, e, R, s, m, args, below, meth, c, Q, cb, sb, rfl, ⟨hx, hb, hml, hown, hts⟩, hfr, hlo, hce, hsl, hB⟩ := hJ
  intro h1 h2 H locs ls hP hS hl
  have ha := aln_le o j
  subst hi
  refine va_iald (D := E.2.1) (ws := wld E (S, x)) hx hb hB.1 hP (bas o + j) 0 (by rw [wld_get E S x ho (aln_wid o ho j (by omega)), cel_arr (by omega)]) rfl (vp_in_nI hn (by omega)) hd ?_
  rw [nI_clamp (by omega)]
  exact k h1 h2 H locs ls hP hS hl
theorem r_iast (hJ : jR l E own cc nL d n0 cap J) {S : jS} {x : jX} {o j n : Nat} {P : jO} {i v : Int32} (ho : o < 13) (hn : n < aln o j) (hi : i = nI n) (hd : decode cc pc = .ok (.iastore, 1)) (k : J (setO S o (put P j n v), x) (pc + 1) L rest) : J (setO S o P, x) pc L (.int v :: .int i :: .ref (ad E o j) :: rest) := by
  obtain ⟨p, e, R, s, m, args, below, meth, c, Q, cb, sb, rfl, ⟨hx, hb, hml, hown, hts⟩, hfr, hlo, hce, hsl, hB⟩ := hJ
  intro h1 h2 H locs ls hP hS hl
  have ha := aln_le o j
  subst hi
  refine va_iast (D := E.2.1) (A := jA E) (ws := wld E (setO S o P, x)) (f := P j) hx hb hB.1 hP (wld_D E _) hS (bas o + j) 0 (by rw [wld_get E _ x ho (aln_wid o ho j (by omega)), cel_arr (by omega), setO_at]) rfl (vp_in_nI hn (by omega)) hd (fun H1 locs1 hP1 _ hS1 => ?_)
  rw [nI_clamp (by omega), wld_arr E S x ho (by omega)] at hP1
  exact k h1 h2 H1 locs1 ls hP1 hS1 hl
theorem r_ialdO (hJ : jR l E own cc nL d n0 cap J) {S : jS} {x : jX} {o j n : Nat} {P : jO} {i : Int32} (ho : o < 13) (hn : n < aln o j) (hi : i = nI n) (hd : decode cc pc = .ok (.iaload, 1)) (k : J (setO S o P, x) (pc + 1) L (.int (P j n) :: rest)) : J (setO S o P, x) pc L (.int i :: .ref (ad E o j) :: rest) :=
  r_iald hJ ho hn hi hd (by rw [setO_at]; exact k)
theorem r_alen (hJ : jR l E own cc nL d n0 cap J) {S : jS} {x : jX} {o j : Nat} {v : Int32} (ho : o < 13) (hn : 0 < aln o j) (hv : nI (aln o j) = v) (hd : decode cc pc = .ok (.arraylength, 1)) (k : J (S, x) (pc + 1) L (.int v :: rest)) : J (S, x) pc L (.ref (ad E o j) :: rest) := by
  obtain ⟨p, e, R, s, m, args, below, meth, c, Q, cb, sb, rfl, ⟨hx, hb, hml, hown, hts⟩, hfr, hlo, hce, hsl, hB⟩ := hJ
  intro h1 h2 H locs ls hP hS hl
  exact va_alen (D := E.2.1) (ws := wld E (S, x)) hx hb hB.1 hP (bas o + j) 0 (by rw [wld_get E S x ho (aln_wid o ho j hn), cel_arr hn]) (x := (aln o j, .inl (S o j))) (ty := .int) rfl hv hd (k h1 h2 H locs ls hP hS hl)
theorem r_get (hJ : jR l E own cc nL d n0 cap J) {o ci kf N ix : Nat} {fs : List Value} {C : String} {T : u_T} {v : Value} (ho : o ≠ 10 ∧ o < 12) (hc : scal E G.2 o (G.1 o) 0 = .inr (ci, fs)) (hcl : vwCl[ci]? = some (C, T, N)) (hin : ∀ w ∈ u_ws C T N, w ∈ gw) (hk : kf < N) (hw : Cond.fieldLink own ix (T kf).1 (T kf).2.1 (T kf).2.2.1 ∈ gw) (hv : fs[kf]? = some v) (hd : decode cc pc = .ok (.getfield ix, 3)) (k : J G (pc + 3) L (v :: rest)) : J G pc L (.ref (ad E o 0) :: rest) := by
  obtain ⟨p, e, R, s, m, args, below, meth, c, Q, cb, sb, rfl, ⟨hx, hb, hml, hown, hts⟩, hfr, hlo, hce, hsl, hB⟩ := hJ
  intro h1 h2 H locs ls hP hS hl
  obtain ⟨S, x⟩ := G
  have hwd : 0 < wid o := by
    unfold wid
    repeat' split
    all_goals omega
  exact va_get (D := E.2.1) (ws := wld E (S, x)) hx hb hts hin hown hB.1 hP (bas o + 0) (by rw [wld_get E S x (by omega) hwd, cel_0, hc]) hcl kf hk (hts _ hw) (fun _ h => h) hv hd (k h1 h2 H locs ls hP hS hl)
theorem r_put (hJ : jR l E own cc nL d n0 cap J) {S : jS} {x : jX} {P : jO} {o ci kf N ix i : Nat} {fs fs' : List Value} {C : String} {T : u_T} {ty : Nat → FieldType} {t : FieldType} {v : Int32} (ho : o ≠ 10 ∧ o < 12) (hc : scal E x o P 0 = .inr (ci, fs)) (hc' : scal E x o (put P 0 i v) 0 = .inr (ci, fs')) (hcl : vwCl[ci]? = some (C, T, N)) (hin : ∀ w ∈ u_ws C T N, w ∈ gw) (hty : ∀ k, k < N → parseFieldDescriptor (T k).2.2.1 = some (ty k)) (hnm : ∀ a, a < N → ∀ b, b < N → a ≠ b → (T a).2.1 ≠ (T b).2.1) (hk : kf < N) (hw : Cond.fieldLink own ix (T kf).1 (T kf).2.1 (T kf).2.2.1 ∈ gw) (hfin : (T kf).2.2.2 = false) (hdd : parseFieldDescriptor (T kf).2.2.1 = some t) (hnr : narrow t (.int v) = .int v) (hft : fits t (.int v) = true) (hlen : kf < fs.length) (hfs : fs.set kf (.int v) = fs') (hd : decode cc pc = .ok (.putfield ix, 3)) (k : J (setO S o (put P 0 i v), x) (pc + 3) L rest) : J (setO S o P, x) pc L (.int v :: .ref (ad E o 0) :: rest) := by
  obtain ⟨p, e, R, s, m, args, below, meth, c, Q, cb, sb, rfl, ⟨hx, hb, hml, hown, hts⟩, hfr, hlo, hce, hsl, hB⟩ := hJ
  intro h1 h2 H locs ls hP hS hl
  have hwd : 0 < wid o := by
    unfold wid
    repeat' split
    all_goals omega
  refine va_put (D := E.2.1) (A := jA E) (ws := wld E (setO S o P, x)) (fs := fs) hx hb hts hin ty hty hnm hown hB.1 hP (wld_D E _) hS (bas o + 0) (by rw [wld_get E _ x (by omega) hwd, cel_0, setO_at, hc]) hcl kf hk (hts _ hw) (fun _ h => h) hfin hdd hnr hft hlen hd (fun H1 locs1 hP1 _ hS1 => ?_)
  rw [hfs, wld_fld E S x ho P i v _ hc'] at hP1
  exact k h1 h2 H1 locs1 ls hP1 hS1 hl
theorem r_getsL (hJ : jR l E own cc nL d n0 cap J) {ix : Nat} (hw : Cond.fieldLink own ix "NumberLeases" "LEAST_SETTING" "[I" ∈ gw) (hd : decode cc pc = .ok (.getstatic ix, 3)) (k : J G (pc + 3) L (.ref E.2.2.2.1 :: rest)) : J G pc L rest := by
  obtain ⟨p, e, R, s, m, args, below, meth, c, Q, cb, sb, rfl, ⟨hx, hb, hml, hown, hts⟩, hfr, hlo, hce, hsl, hB⟩ := hJ
  intro h1 h2 H locs ls hP hS hl
  exact va_gets hx hb hB.2.2.2.1 hS hown (hts _ hw) (fun _ h => h) hd (k h1 h2 H locs ls hP hS hl)
theorem r_getsM (hJ : jR l E own cc nL d n0 cap J) {ix : Nat} (hw : Cond.fieldLink own ix "NumberLeases" "MOST_SETTING" "[I" ∈ gw) (hd : decode cc pc = .ok (.getstatic ix, 3)) (k : J G (pc + 3) L (.ref E.2.2.2.2 :: rest)) : J G pc L rest := by
  obtain ⟨p, e, R, s, m, args, below, meth, c, Q, cb, sb, rfl, ⟨hx, hb, hml, hown, hts⟩, hfr, hlo, hce, hsl, hB⟩ := hJ
  intro h1 h2 H locs ls hP hS hl
  exact va_gets hx hb hB.2.2.2.2.1 hS hown (hts _ hw) (fun _ h => h) hd (k h1 h2 H locs ls hP hS hl)
theorem r_tabL (hJ : jR l E own cc nL d n0 cap J) {i : Int32} {n : Nat} (hi : i = nI n) (hn : n < 4) (hd : decode cc pc = .ok (.iaload, 1)) (k : J G (pc + 1) L (.int (lsS n) :: rest)) : J G pc L (.int i :: .ref E.2.2.2.1 :: rest) := by
  obtain ⟨p, e, R, s, m, args, below, meth, c, Q, cb, sb, rfl, ⟨hx, hb, hml, hown, hts⟩, hfr, hlo, hce, hsl, hB⟩ := hJ
  intro h1 h2 H locs ls hP hS hl
  subst hi
  exact va_ti hx hb hB.2.2.2.2.2.1 hS (vp_in_nI hn (by decide)) (v := .int (lsS n)) (by rw [nI_clamp (by omega)]) hd (k h1 h2 H locs ls hP hS hl)
theorem r_tabM (hJ : jR l E own cc nL d n0 cap J) {i : Int32} {n : Nat} (hi : i = nI n) (hn : n < 4) (hd : decode cc pc = .ok (.iaload, 1)) (k : J G (pc + 1) L (.int (msS n) :: rest)) : J G pc L (.int i :: .ref E.2.2.2.2 :: rest) := by
  obtain ⟨p, e, R, s, m, args, below, meth, c, Q, cb, sb, rfl, ⟨hx, hb, hml, hown, hts⟩, hfr, hlo, hce, hsl, hB⟩ := hJ
  intro h1 h2 H locs ls hP hS hl
  subst hi
  exact va_ti hx hb hB.2.2.2.2.2.2.1 hS (vp_in_nI hn (by decide)) (v := .int (msS n)) (by rw [nI_clamp (by omega)]) hd (k h1 h2 H locs ls hP hS hl)
theorem r_g1_0 (hJ : jR l E own cc nL d n0 cap J) {ix : Nat} (hw : Cond.fieldLink own ix "NumberLeases$Orders" "signs" "[I" ∈ gw) (hd : decode cc pc = .ok (.getfield ix, 3)) (k : J G (pc + 3) L (.ref (ad E 8 1) :: rest)) : J G pc L (.ref (ad E 8 0) :: rest) :=
  r_get hJ (ci := 0) (C := RX1) (T := TX1) (N := 8) (kf := 0) (by decide) (by simp [scal]; rfl) rfl iX1 (by decide) hw rfl hd k
theorem r_g1_1 (hJ : jR l E own cc nL d n0 cap J) {S : jS} {x : jX} {ix : Nat} (hw : Cond.fieldLink own ix "NumberLeases$Orders" "length" "I" ∈ gw) (hd : decode cc pc = .ok (.getfield ix, 3)) (k : J (S, x) (pc + 3) L (.int (S 8 0 0) :: rest)) : J (S, x) pc L (.ref (ad E 8 0) :: rest) :=
  r_get hJ (ci := 0) (C := RX1) (T := TX1) (N := 8) (kf := 1) (by decide) (by simp [scal]; rfl) rfl iX1 (by decide) hw rfl hd k
theorem r_g1_1O (hJ : jR l E own cc nL d n0 cap J) {S : jS} {x : jX} {P : jO} {ix : Nat} (hw : Cond.fieldLink own ix "NumberLeases$Orders" "length" "I" ∈ gw) (hd : decode cc pc = .ok (.getfield ix, 3)) (k : J (setO S 8 P, x) (pc + 3) L (.int (P 0 0) :: rest)) : J (setO S 8 P, x) pc L (.ref (ad E 8 0) :: rest) :=
  r_g1_1 hJ hw hd (by rw [setO_at]; exact k)
theorem r_p1_1 (hJ : jR l E own cc nL d n0 cap J) {S : jS} {x : jX} {P : jO} {v : Int32} {ix : Nat} (hw : Cond.fieldLink own ix "NumberLeases$Orders" "length" "I" ∈ gw) (hd : decode cc pc = .ok (.putfield ix, 3)) (k : J (setO S 8 (put P 0 0 v), x) (pc + 3) L rest) : J (setO S 8 P, x) pc L (.int v :: .ref (ad E 8 0) :: rest) :=
  r_put hJ (ci := 0) (C := RX1) (T := TX1) (N := 8) (kf := 1) (t := .int) (by decide) (by simp [scal]; rfl) (by simp [scal]; rfl) rfl iX1 tyX1_ok nmX1 (by decide) hw rfl (by decide +kernel) rfl rfl (by simp [poolF, ordF, savF]) (by simp [poolF, ordF, savF, put_app]) hd k
theorem r_g1_2 (hJ : jR l E own cc nL d n0 cap J) {S : jS} {x : jX} {ix : Nat} (hw : Cond.fieldLink own ix "NumberLeases$Orders" "at" "I" ∈ gw) (hd : decode cc pc = .ok (.getfield ix, 3)) (k : J (S, x) (pc + 3) L (.int (S 8 0 1) :: rest)) : J (S, x) pc L (.ref (ad E 8 0) :: rest) :=
  r_get hJ (ci := 0) (C := RX1) (T := TX1) (N := 8) (kf := 2) (by decide) (by simp [scal]; rfl) rfl iX1 (by decide) hw rfl hd k
theorem r_g1_2O (hJ : jR l E own cc nL d n0 cap J) {S : jS} {x : jX} {P : jO} {ix : Nat} (hw : Cond.fieldLink own ix "NumberLeases$Orders" "at" "I" ∈ gw) (hd : decode cc pc = .ok (.getfield ix, 3)) (k : J (setO S 8 P, x) (pc + 3) L (.int (P 0 1) :: rest)) : J (setO S 8 P, x) pc L (.ref (ad E 8 0) :: rest) :=
  r_g1_2 hJ hw hd (by rw [setO_at]; exact k)
theorem r_p1_2 (hJ : jR l E own cc nL d n0 cap J) {S : jS} {x : jX} {P : jO} {v : Int32} {ix : Nat} (hw : Cond.fieldLink own ix "NumberLeases$Orders" "at" "I" ∈ gw) (hd : decode cc pc = .ok (.putfield ix, 3)) (k : J (setO S 8 (put P 0 1 v), x) (pc + 3) L rest) : J (setO S 8 P, x) pc L (.int v :: .ref (ad E 8 0) :: rest) :=
  r_put hJ (ci := 0) (C := RX1) (T := TX1) (N := 8) (kf := 2) (t := .int) (by decide) (by simp [scal]; rfl) (by simp [scal]; rfl) rfl iX1 tyX1_ok nmX1 (by decide) hw rfl (by decide +kernel) rfl rfl (by simp [poolF, ordF, savF]) (by simp [poolF, ordF, savF, put_app]) hd k
theorem r_g1_3 (hJ : jR l E own cc nL d n0 cap J) {S : jS} {x : jX} {ix : Nat} (hw : Cond.fieldLink own ix "NumberLeases$Orders" "stopped" "Z" ∈ gw) (hd : decode cc pc = .ok (.getfield ix, 3)) (k : J (S, x) (pc + 3) L (.int (S 8 0 2) :: rest)) : J (S, x) pc L (.ref (ad E 8 0) :: rest) :=
  r_get hJ (ci := 0) (C := RX1) (T := TX1) (N := 8) (kf := 3) (by decide) (by simp [scal]; rfl) rfl iX1 (by decide) hw rfl hd k
theorem r_g1_3O (hJ : jR l E own cc nL d n0 cap J) {S : jS} {x : jX} {P : jO} {ix : Nat} (hw : Cond.fieldLink own ix "NumberLeases$Orders" "stopped" "Z" ∈ gw) (hd : decode cc pc = .ok (.getfield ix, 3)) (k : J (setO S 8 P, x) (pc + 3) L (.int (P 0 2) :: rest)) : J (setO S 8 P, x) pc L (.ref (ad E 8 0) :: rest) :=
  r_g1_3 hJ hw hd (by rw [setO_at]; exact k)
theorem r_p1_3 (hJ : jR l E own cc nL d n0 cap J) {S : jS} {x : jX} {P : jO} {v : Int32} {ix : Nat} (hz : narrow .boolean (.int v) = .int v ∧ fits .boolean (.int v) = true) (hw : Cond.fieldLink own ix "NumberLeases$Orders" "stopped" "Z" ∈ gw) (hd : decode cc pc = .ok (.putfield ix, 3)) (k : J (setO S 8 (put P 0 2 v), x) (pc + 3) L rest) : J (setO S 8 P, x) pc L (.int v :: .ref (ad E 8 0) :: rest) :=
  r_put hJ (ci := 0) (C := RX1) (T := TX1) (N := 8) (kf := 3) (t := .boolean) (by decide) (by simp [scal]; rfl) (by simp [scal]; rfl) rfl iX1 tyX1_ok nmX1 (by decide) hw rfl (by decide +kernel) hz.1 hz.2 (by simp [poolF, ordF, savF]) (by simp [poolF, ordF, savF, put_app]) hd k
theorem r_g1_4 (hJ : jR l E own cc nL d n0 cap J) {S : jS} {x : jX} {ix : Nat} (hw : Cond.fieldLink own ix "NumberLeases$Orders" "kind" "I" ∈ gw) (hd : decode cc pc = .ok (.getfield ix, 3)) (k : J (S, x) (pc + 3) L (.int (S 8 0 3) :: rest)) : J (S, x) pc L (.ref (ad E 8 0) :: rest) :=
  r_get hJ (ci := 0) (C := RX1) (T := TX1) (N := 8) (kf := 4) (by decide) (by simp [scal]; rfl) rfl iX1 (by decide) hw rfl hd k
theorem r_g1_4O (hJ : jR l E own cc nL d n0 cap J) {S : jS} {x : jX} {P : jO} {ix : Nat} (hw : Cond.fieldLink own ix "NumberLeases$Orders" "kind" "I" ∈ gw) (hd : decode cc pc = .ok (.getfield ix, 3)) (k : J (setO S 8 P, x) (pc + 3) L (.int (P 0 3) :: rest)) : J (setO S 8 P, x) pc L (.ref (ad E 8 0) :: rest) :=
  r_g1_4 hJ hw hd (by rw [setO_at]; exact k)
theorem r_p1_4 (hJ : jR l E own cc nL d n0 cap J) {S : jS} {x : jX} {P : jO} {v : Int32} {ix : Nat} (hw : Cond.fieldLink own ix "NumberLeases$Orders" "kind" "I" ∈ gw) (hd : decode cc pc = .ok (.putfield ix, 3)) (k : J (setO S 8 (put P 0 3 v), x) (pc + 3) L rest) : J (setO S 8 P, x) pc L (.int v :: .ref (ad E 8 0) :: rest) :=
  r_put hJ (ci := 0) (C := RX1) (T := TX1) (N := 8) (kf := 4) (t := .int) (by decide) (by simp [scal]; rfl) (by simp [scal]; rfl) rfl iX1 tyX1_ok nmX1 (by decide) hw rfl (by decide +kernel) rfl rfl (by simp [poolF, ordF, savF]) (by simp [poolF, ordF, savF, put_app]) hd k
theorem r_g1_5 (hJ : jR l E own cc nL d n0 cap J) {S : jS} {x : jX} {ix : Nat} (hw : Cond.fieldLink own ix "NumberLeases$Orders" "holder" "I" ∈ gw) (hd : decode cc pc = .ok (.getfield ix, 3)) (k : J (S, x) (pc + 3) L (.int (S 8 0 4) :: rest)) : J (S, x) pc L (.ref (ad E 8 0) :: rest) :=
  r_get hJ (ci := 0) (C := RX1) (T := TX1) (N := 8) (kf := 5) (by decide) (by simp [scal]; rfl) rfl iX1 (by decide) hw rfl hd k
theorem r_g1_5O (hJ : jR l E own cc nL d n0 cap J) {S : jS} {x : jX} {P : jO} {ix : Nat} (hw : Cond.fieldLink own ix "NumberLeases$Orders" "holder" "I" ∈ gw) (hd : decode cc pc = .ok (.getfield ix, 3)) (k : J (setO S 8 P, x) (pc + 3) L (.int (P 0 4) :: rest)) : J (setO S 8 P, x) pc L (.ref (ad E 8 0) :: rest) :=
  r_g1_5 hJ hw hd (by rw [setO_at]; exact k)
theorem r_p1_5 (hJ : jR l E own cc nL d n0 cap J) {S : jS} {x : jX} {P : jO} {v : Int32} {ix : Nat} (hw : Cond.fieldLink own ix "NumberLeases$Orders" "holder" "I" ∈ gw) (hd : decode cc pc = .ok (.putfield ix, 3)) (k : J (setO S 8 (put P 0 4 v), x) (pc + 3) L rest) : J (setO S 8 P, x) pc L (.int v :: .ref (ad E 8 0) :: rest) :=
  r_put hJ (ci := 0) (C := RX1) (T := TX1) (N := 8) (kf := 5) (t := .int) (by decide) (by simp [scal]; rfl) (by simp [scal]; rfl) rfl iX1 tyX1_ok nmX1 (by decide) hw rfl (by decide +kernel) rfl rfl (by simp [poolF, ordF, savF]) (by simp [poolF, ordF, savF, put_app]) hd k
theorem r_g1_6 (hJ : jR l E own cc nL d n0 cap J) {S : jS} {x : jX} {ix : Nat} (hw : Cond.fieldLink own ix "NumberLeases$Orders" "first" "I" ∈ gw) (hd : decode cc pc = .ok (.getfield ix, 3)) (k : J (S, x) (pc + 3) L (.int (S 8 0 5) :: rest)) : J (S, x) pc L (.ref (ad E 8 0) :: rest) :=
  r_get hJ (ci := 0) (C := RX1) (T := TX1) (N := 8) (kf := 6) (by decide) (by simp [scal]; rfl) rfl iX1 (by decide) hw rfl hd k
theorem r_g1_6O (hJ : jR l E own cc nL d n0 cap J) {S : jS} {x : jX} {P : jO} {ix : Nat} (hw : Cond.fieldLink own ix "NumberLeases$Orders" "first" "I" ∈ gw) (hd : decode cc pc = .ok (.getfield ix, 3)) (k : J (setO S 8 P, x) (pc + 3) L (.int (P 0 5) :: rest)) : J (setO S 8 P, x) pc L (.ref (ad E 8 0) :: rest) :=
  r_g1_6 hJ hw hd (by rw [setO_at]; exact k)
theorem r_p1_6 (hJ : jR l E own cc nL d n0 cap J) {S : jS} {x : jX} {P : jO} {v : Int32} {ix : Nat} (hw : Cond.fieldLink own ix "NumberLeases$Orders" "first" "I" ∈ gw) (hd : decode cc pc = .ok (.putfield ix, 3)) (k : J (setO S 8 (put P 0 5 v), x) (pc + 3) L rest) : J (setO S 8 P, x) pc L (.int v :: .ref (ad E 8 0) :: rest) :=
  r_put hJ (ci := 0) (C := RX1) (T := TX1) (N := 8) (kf := 6) (t := .int) (by decide) (by simp [scal]; rfl) (by simp [scal]; rfl) rfl iX1 tyX1_ok nmX1 (by decide) hw rfl (by decide +kernel) rfl rfl (by simp [poolF, ordF, savF]) (by simp [poolF, ordF, savF, put_app]) hd k
theorem r_g1_7 (hJ : jR l E own cc nL d n0 cap J) {S : jS} {x : jX} {ix : Nat} (hw : Cond.fieldLink own ix "NumberLeases$Orders" "second" "I" ∈ gw) (hd : decode cc pc = .ok (.getfield ix, 3)) (k : J (S, x) (pc + 3) L (.int (S 8 0 6) :: rest)) : J (S, x) pc L (.ref (ad E 8 0) :: rest) :=
  r_get hJ (ci := 0) (C := RX1) (T := TX1) (N := 8) (kf := 7) (by decide) (by simp [scal]; rfl) rfl iX1 (by decide) hw rfl hd k
theorem r_g1_7O (hJ : jR l E own cc nL d n0 cap J) {S : jS} {x : jX} {P : jO} {ix : Nat} (hw : Cond.fieldLink own ix "NumberLeases$Orders" "second" "I" ∈ gw) (hd : decode cc pc = .ok (.getfield ix, 3)) (k : J (setO S 8 P, x) (pc + 3) L (.int (P 0 6) :: rest)) : J (setO S 8 P, x) pc L (.ref (ad E 8 0) :: rest) :=
  r_g1_7 hJ hw hd (by rw [setO_at]; exact k)
theorem r_p1_7 (hJ : jR l E own cc nL d n0 cap J) {S : jS} {x : jX} {P : jO} {v : Int32} {ix : Nat} (hw : Cond.fieldLink own ix "NumberLeases$Orders" "second" "I" ∈ gw) (hd : decode cc pc = .ok (.putfield ix, 3)) (k : J (setO S 8 (put P 0 6 v), x) (pc + 3) L rest) : J (setO S 8 P, x) pc L (.int v :: .ref (ad E 8 0) :: rest) :=
  r_put hJ (ci := 0) (C := RX1) (T := TX1) (N := 8) (kf := 7) (t := .int) (by decide) (by simp [scal]; rfl) (by simp [scal]; rfl) rfl iX1 tyX1_ok nmX1 (by decide) hw rfl (by decide +kernel) rfl rfl (by simp [poolF, ordF, savF]) (by simp [poolF, ordF, savF, put_app]) hd k
theorem r_g2_0 (hJ : jR l E own cc nL d n0 cap J) {o : Nat} (ho : o < 8) {S : jS} {x : jX} {ix : Nat} (hw : Cond.fieldLink own ix "NumberLeases$Pool" "time" "I" ∈ gw) (hd : decode cc pc = .ok (.getfield ix, 3)) (k : J (S, x) (pc + 3) L (.int (S o 0 0) :: rest)) : J (S, x) pc L (.ref (ad E o 0) :: rest) :=
  r_get hJ (ci := 1) (C := RX2) (T := TX2) (N := 16) (kf := 0) (by omega) (by simp [scal, ho]; rfl) rfl iX2 (by decide) hw rfl hd k
theorem r_g2_0O (hJ : jR l E own cc nL d n0 cap J) {o : Nat} (ho : o < 8) {S : jS} {x : jX} {P : jO} {ix : Nat} (hw : Cond.fieldLink own ix "NumberLeases$Pool" "time" "I" ∈ gw) (hd : decode cc pc = .ok (.getfield ix, 3)) (k : J (setO S o P, x) (pc + 3) L (.int (P 0 0) :: rest)) : J (setO S o P, x) pc L (.ref (ad E o 0) :: rest) :=
  r_g2_0 hJ ho hw hd (by rw [setO_at]; exact k)
theorem r_p2_0 (hJ : jR l E own cc nL d n0 cap J) {o : Nat} (ho : o < 8) {S : jS} {x : jX} {P : jO} {v : Int32} {ix : Nat} (hw : Cond.fieldLink own ix "NumberLeases$Pool" "time" "I" ∈ gw) (hd : decode cc pc = .ok (.putfield ix, 3)) (k : J (setO S o (put P 0 0 v), x) (pc + 3) L rest) : J (setO S o P, x) pc L (.int v :: .ref (ad E o 0) :: rest) :=
  r_put hJ (ci := 1) (C := RX2) (T := TX2) (N := 16) (kf := 0) (t := .int) (by omega) (by simp [scal, ho]; rfl) (by simp [scal, ho]; rfl) rfl iX2 tyX2_ok nmX2 (by decide) hw rfl (by decide +kernel) rfl rfl (by simp [poolF, ordF, savF]) (by simp [poolF, ordF, savF, put_app]) hd k
theorem r_g2_1 (hJ : jR l E own cc nL d n0 cap J) {o : Nat} (ho : o < 8) {S : jS} {x : jX} {ix : Nat} (hw : Cond.fieldLink own ix "NumberLeases$Pool" "renewals" "I" ∈ gw) (hd : decode cc pc = .ok (.getfield ix, 3)) (k : J (S, x) (pc + 3) L (.int (S o 0 1) :: rest)) : J (S, x) pc L (.ref (ad E o 0) :: rest) :=
  r_get hJ (ci := 1) (C := RX2) (T := TX2) (N := 16) (kf := 1) (by omega) (by simp [scal, ho]; rfl) rfl iX2 (by decide) hw rfl hd k
theorem r_g2_1O (hJ : jR l E own cc nL d n0 cap J) {o : Nat} (ho : o < 8) {S : jS} {x : jX} {P : jO} {ix : Nat} (hw : Cond.fieldLink own ix "NumberLeases$Pool" "renewals" "I" ∈ gw) (hd : decode cc pc = .ok (.getfield ix, 3)) (k : J (setO S o P, x) (pc + 3) L (.int (P 0 1) :: rest)) : J (setO S o P, x) pc L (.ref (ad E o 0) :: rest) :=
  r_g2_1 hJ ho hw hd (by rw [setO_at]; exact k)
theorem r_p2_1 (hJ : jR l E own cc nL d n0 cap J) {o : Nat} (ho : o < 8) {S : jS} {x : jX} {P : jO} {v : Int32} {ix : Nat} (hw : Cond.fieldLink own ix "NumberLeases$Pool" "renewals" "I" ∈ gw) (hd : decode cc pc = .ok (.putfield ix, 3)) (k : J (setO S o (put P 0 1 v), x) (pc + 3) L rest) : J (setO S o P, x) pc L (.int v :: .ref (ad E o 0) :: rest) :=
  r_put hJ (ci := 1) (C := RX2) (T := TX2) (N := 16) (kf := 1) (t := .int) (by omega) (by simp [scal, ho]; rfl) (by simp [scal, ho]; rfl) rfl iX2 tyX2_ok nmX2 (by decide) hw rfl (by decide +kernel) rfl rfl (by simp [poolF, ordF, savF]) (by simp [poolF, ordF, savF, put_app]) hd k
theorem r_g2_2 (hJ : jR l E own cc nL d n0 cap J) {o : Nat} (ho : o < 8) {S : jS} {x : jX} {ix : Nat} (hw : Cond.fieldLink own ix "NumberLeases$Pool" "graceRenewals" "I" ∈ gw) (hd : decode cc pc = .ok (.getfield ix, 3)) (k : J (S, x) (pc + 3) L (.int (S o 0 2) :: rest)) : J (S, x) pc L (.ref (ad E o 0) :: rest) :=
  r_get hJ (ci := 1) (C := RX2) (T := TX2) (N := 16) (kf := 2) (by omega) (by simp [scal, ho]; rfl) rfl iX2 (by decide) hw rfl hd k
theorem r_g2_2O (hJ : jR l E own cc nL d n0 cap J) {o : Nat} (ho : o < 8) {S : jS} {x : jX} {P : jO} {ix : Nat} (hw : Cond.fieldLink own ix "NumberLeases$Pool" "graceRenewals" "I" ∈ gw) (hd : decode cc pc = .ok (.getfield ix, 3)) (k : J (setO S o P, x) (pc + 3) L (.int (P 0 2) :: rest)) : J (setO S o P, x) pc L (.ref (ad E o 0) :: rest) :=
  r_g2_2 hJ ho hw hd (by rw [setO_at]; exact k)
theorem r_p2_2 (hJ : jR l E own cc nL d n0 cap J) {o : Nat} (ho : o < 8) {S : jS} {x : jX} {P : jO} {v : Int32} {ix : Nat} (hw : Cond.fieldLink own ix "NumberLeases$Pool" "graceRenewals" "I" ∈ gw) (hd : decode cc pc = .ok (.putfield ix, 3)) (k : J (setO S o (put P 0 2 v), x) (pc + 3) L rest) : J (setO S o P, x) pc L (.int v :: .ref (ad E o 0) :: rest) :=
  r_put hJ (ci := 1) (C := RX2) (T := TX2) (N := 16) (kf := 2) (t := .int) (by omega) (by simp [scal, ho]; rfl) (by simp [scal, ho]; rfl) rfl iX2 tyX2_ok nmX2 (by decide) hw rfl (by decide +kernel) rfl rfl (by simp [poolF, ordF, savF]) (by simp [poolF, ordF, savF, put_app]) hd k
theorem r_g2_3 (hJ : jR l E own cc nL d n0 cap J) {o : Nat} (ho : o < 8) {S : jS} {x : jX} {ix : Nat} (hw : Cond.fieldLink own ix "NumberLeases$Pool" "freed" "I" ∈ gw) (hd : decode cc pc = .ok (.getfield ix, 3)) (k : J (S, x) (pc + 3) L (.int (S o 0 3) :: rest)) : J (S, x) pc L (.ref (ad E o 0) :: rest) :=
  r_get hJ (ci := 1) (C := RX2) (T := TX2) (N := 16) (kf := 3) (by omega) (by simp [scal, ho]; rfl) rfl iX2 (by decide) hw rfl hd k
theorem r_g2_3O (hJ : jR l E own cc nL d n0 cap J) {o : Nat} (ho : o < 8) {S : jS} {x : jX} {P : jO} {ix : Nat} (hw : Cond.fieldLink own ix "NumberLeases$Pool" "freed" "I" ∈ gw) (hd : decode cc pc = .ok (.getfield ix, 3)) (k : J (setO S o P, x) (pc + 3) L (.int (P 0 3) :: rest)) : J (setO S o P, x) pc L (.ref (ad E o 0) :: rest) :=
  r_g2_3 hJ ho hw hd (by rw [setO_at]; exact k)
theorem r_p2_3 (hJ : jR l E own cc nL d n0 cap J) {o : Nat} (ho : o < 8) {S : jS} {x : jX} {P : jO} {v : Int32} {ix : Nat} (hw : Cond.fieldLink own ix "NumberLeases$Pool" "freed" "I" ∈ gw) (hd : decode cc pc = .ok (.putfield ix, 3)) (k : J (setO S o (put P 0 3 v), x) (pc + 3) L rest) : J (setO S o P, x) pc L (.int v :: .ref (ad E o 0) :: rest) :=
  r_put hJ (ci := 1) (C := RX2) (T := TX2) (N := 16) (kf := 3) (t := .int) (by omega) (by simp [scal, ho]; rfl) (by simp [scal, ho]; rfl) rfl iX2 tyX2_ok nmX2 (by decide) hw rfl (by decide +kernel) rfl rfl (by simp [poolF, ordF, savF]) (by simp [poolF, ordF, savF, put_app]) hd k
theorem r_g2_4 (hJ : jR l E own cc nL d n0 cap J) {o : Nat} (ho : o < 8) {ix : Nat} (hw : Cond.fieldLink own ix "NumberLeases$Pool" "settings" "[I" ∈ gw) (hd : decode cc pc = .ok (.getfield ix, 3)) (k : J G (pc + 3) L (.ref (ad E o 1) :: rest)) : J G pc L (.ref (ad E o 0) :: rest) :=
  r_get hJ (ci := 1) (C := RX2) (T := TX2) (N := 16) (kf := 4) (by omega) (by simp [scal, ho]; rfl) rfl iX2 (by decide) hw rfl hd k
theorem r_g2_5 (hJ : jR l E own cc nL d n0 cap J) {o : Nat} (ho : o < 8) {ix : Nat} (hw : Cond.fieldLink own ix "NumberLeases$Pool" "whose" "[I" ∈ gw) (hd : decode cc pc = .ok (.getfield ix, 3)) (k : J G (pc + 3) L (.ref (ad E o 2) :: rest)) : J G pc L (.ref (ad E o 0) :: rest) :=
  r_get hJ (ci := 1) (C := RX2) (T := TX2) (N := 16) (kf := 5) (by omega) (by simp [scal, ho]; rfl) rfl iX2 (by decide) hw rfl hd k
theorem r_g2_6 (hJ : jR l E own cc nL d n0 cap J) {o : Nat} (ho : o < 8) {ix : Nat} (hw : Cond.fieldLink own ix "NumberLeases$Pool" "begin" "[I" ∈ gw) (hd : decode cc pc = .ok (.getfield ix, 3)) (k : J G (pc + 3) L (.ref (ad E o 3) :: rest)) : J G pc L (.ref (ad E o 0) :: rest) :=
  r_get hJ (ci := 1) (C := RX2) (T := TX2) (N := 16) (kf := 6) (by omega) (by simp [scal, ho]; rfl) rfl iX2 (by decide) hw rfl hd k
theorem r_g2_7 (hJ : jR l E own cc nL d n0 cap J) {o : Nat} (ho : o < 8) {ix : Nat} (hw : Cond.fieldLink own ix "NumberLeases$Pool" "end" "[I" ∈ gw) (hd : decode cc pc = .ok (.getfield ix, 3)) (k : J G (pc + 3) L (.ref (ad E o 4) :: rest)) : J G pc L (.ref (ad E o 0) :: rest) :=
  r_get hJ (ci := 1) (C := RX2) (T := TX2) (N := 16) (kf := 7) (by omega) (by simp [scal, ho]; rfl) rfl iX2 (by decide) hw rfl hd k
theorem r_g2_8 (hJ : jR l E own cc nL d n0 cap J) {o : Nat} (ho : o < 8) {ix : Nat} (hw : Cond.fieldLink own ix "NumberLeases$Pool" "last" "[I" ∈ gw) (hd : decode cc pc = .ok (.getfield ix, 3)) (k : J G (pc + 3) L (.ref (ad E o 5) :: rest)) : J G pc L (.ref (ad E o 0) :: rest) :=
  r_get hJ (ci := 1) (C := RX2) (T := TX2) (N := 16) (kf := 8) (by omega) (by simp [scal, ho]; rfl) rfl iX2 (by decide) hw rfl hd k
theorem r_g2_9 (hJ : jR l E own cc nL d n0 cap J) {o : Nat} (ho : o < 8) {ix : Nat} (hw : Cond.fieldLink own ix "NumberLeases$Pool" "given" "[I" ∈ gw) (hd : decode cc pc = .ok (.getfield ix, 3)) (k : J G (pc + 3) L (.ref (ad E o 6) :: rest)) : J G pc L (.ref (ad E o 0) :: rest) :=
  r_get hJ (ci := 1) (C := RX2) (T := TX2) (N := 16) (kf := 9) (by omega) (by simp [scal, ho]; rfl) rfl iX2 (by decide) hw rfl hd k
theorem r_g2_10 (hJ : jR l E own cc nL d n0 cap J) {o : Nat} (ho : o < 8) {ix : Nat} (hw : Cond.fieldLink own ix "NumberLeases$Pool" "waiting" "[I" ∈ gw) (hd : decode cc pc = .ok (.getfield ix, 3)) (k : J G (pc + 3) L (.ref (ad E o 7) :: rest)) : J G pc L (.ref (ad E o 0) :: rest) :=
  r_get hJ (ci := 1) (C := RX2) (T := TX2) (N := 16) (kf := 10) (by omega) (by simp [scal, ho]; rfl) rfl iX2 (by decide) hw rfl hd k
theorem r_g2_11 (hJ : jR l E own cc nL d n0 cap J) {o : Nat} (ho : o < 8) {ix : Nat} (hw : Cond.fieldLink own ix "NumberLeases$Pool" "wishers" "[I" ∈ gw) (hd : decode cc pc = .ok (.getfield ix, 3)) (k : J G (pc + 3) L (.ref (ad E o 8) :: rest)) : J G pc L (.ref (ad E o 0) :: rest) :=
  r_get hJ (ci := 1) (C := RX2) (T := TX2) (N := 16) (kf := 11) (by omega) (by simp [scal, ho]; rfl) rfl iX2 (by decide) hw rfl hd k
theorem r_g2_12 (hJ : jR l E own cc nL d n0 cap J) {o : Nat} (ho : o < 8) {ix : Nat} (hw : Cond.fieldLink own ix "NumberLeases$Pool" "wishTerms" "[I" ∈ gw) (hd : decode cc pc = .ok (.getfield ix, 3)) (k : J G (pc + 3) L (.ref (ad E o 9) :: rest)) : J G pc L (.ref (ad E o 0) :: rest) :=
  r_get hJ (ci := 1) (C := RX2) (T := TX2) (N := 16) (kf := 12) (by omega) (by simp [scal, ho]; rfl) rfl iX2 (by decide) hw rfl hd k
theorem r_g2_13 (hJ : jR l E own cc nL d n0 cap J) {o : Nat} (ho : o < 8) {ix : Nat} (hw : Cond.fieldLink own ix "NumberLeases$Pool" "leases" "[I" ∈ gw) (hd : decode cc pc = .ok (.getfield ix, 3)) (k : J G (pc + 3) L (.ref (ad E o 10) :: rest)) : J G pc L (.ref (ad E o 0) :: rest) :=
  r_get hJ (ci := 1) (C := RX2) (T := TX2) (N := 16) (kf := 13) (by omega) (by simp [scal, ho]; rfl) rfl iX2 (by decide) hw rfl hd k
theorem r_g2_14 (hJ : jR l E own cc nL d n0 cap J) {o : Nat} (ho : o < 8) {ix : Nat} (hw : Cond.fieldLink own ix "NumberLeases$Pool" "lost" "[I" ∈ gw) (hd : decode cc pc = .ok (.getfield ix, 3)) (k : J G (pc + 3) L (.ref (ad E o 11) :: rest)) : J G pc L (.ref (ad E o 0) :: rest) :=
  r_get hJ (ci := 1) (C := RX2) (T := TX2) (N := 16) (kf := 14) (by omega) (by simp [scal, ho]; rfl) rfl iX2 (by decide) hw rfl hd k
theorem r_g2_15 (hJ : jR l E own cc nL d n0 cap J) {o : Nat} (ho : o < 8) {ix : Nat} (hw : Cond.fieldLink own ix "NumberLeases$Pool" "units" "[I" ∈ gw) (hd : decode cc pc = .ok (.getfield ix, 3)) (k : J G (pc + 3) L (.ref (ad E o 12) :: rest)) : J G pc L (.ref (ad E o 0) :: rest) :=
  r_get hJ (ci := 1) (C := RX2) (T := TX2) (N := 16) (kf := 15) (by omega) (by simp [scal, ho]; rfl) rfl iX2 (by decide) hw rfl hd k
theorem r_g3_0 (hJ : jR l E own cc nL d n0 cap J) {ix : Nat} (hw : Cond.fieldLink own ix "NumberLeases$Saves" "kept" "[LNumberLeases$Pool;" ∈ gw) (hd : decode cc pc = .ok (.getfield ix, 3)) (k : J G (pc + 3) L (.ref (ad E 9 1) :: rest)) : J G pc L (.ref (ad E 9 0) :: rest) :=
  r_get hJ (ci := 2) (C := RX3) (T := TX3) (N := 2) (kf := 0) (by decide) (by simp [scal]; rfl) rfl iX3 (by decide) hw rfl hd k
theorem r_g3_1 (hJ : jR l E own cc nL d n0 cap J) {S : jS} {x : jX} {ix : Nat} (hw : Cond.fieldLink own ix "NumberLeases$Saves" "many" "I" ∈ gw) (hd : decode cc pc = .ok (.getfield ix, 3)) (k : J (S, x) (pc + 3) L (.int (S 9 0 0) :: rest)) : J (S, x) pc L (.ref (ad E 9 0) :: rest) :=
  r_get hJ (ci := 2) (C := RX3) (T := TX3) (N := 2) (kf := 1) (by decide) (by simp [scal]; rfl) rfl iX3 (by decide) hw rfl hd k
theorem r_g3_1O (hJ : jR l E own cc nL d n0 cap J) {S : jS} {x : jX} {P : jO} {ix : Nat} (hw : Cond.fieldLink own ix "NumberLeases$Saves" "many" "I" ∈ gw) (hd : decode cc pc = .ok (.getfield ix, 3)) (k : J (setO S 9 P, x) (pc + 3) L (.int (P 0 0) :: rest)) : J (setO S 9 P, x) pc L (.ref (ad E 9 0) :: rest) :=
  r_g3_1 hJ hw hd (by rw [setO_at]; exact k)
theorem r_p3_1 (hJ : jR l E own cc nL d n0 cap J) {S : jS} {x : jX} {P : jO} {v : Int32} {ix : Nat} (hw : Cond.fieldLink own ix "NumberLeases$Saves" "many" "I" ∈ gw) (hd : decode cc pc = .ok (.putfield ix, 3)) (k : J (setO S 9 (put P 0 0 v), x) (pc + 3) L rest) : J (setO S 9 P, x) pc L (.int v :: .ref (ad E 9 0) :: rest) :=
  r_put hJ (ci := 2) (C := RX3) (T := TX3) (N := 2) (kf := 1) (t := .int) (by decide) (by simp [scal]; rfl) (by simp [scal]; rfl) rfl iX3 tyX3_ok nmX3 (by decide) hw rfl (by decide +kernel) rfl rfl (by simp [poolF, ordF, savF]) (by simp [poolF, ordF, savF, put_app]) hd k
theorem r_g4_0 (hJ : jR l E own cc nL d n0 cap J) {ix : Nat} (hw : Cond.fieldLink own ix "NumberLeases" "pool" "LNumberLeases$Pool;" ∈ gw) (hd : decode cc pc = .ok (.getfield ix, 3)) (k : J G (pc + 3) L (.ref (ad E 0 0) :: rest)) : J G pc L (.ref (ad E 11 0) :: rest) :=
  r_get hJ (ci := 3) (C := RX4) (T := TX4) (N := 4) (kf := 0) (by decide) (by simp [scal]; rfl) rfl iX4 (by decide) hw rfl hd k
theorem r_g4_1 (hJ : jR l E own cc nL d n0 cap J) {ix : Nat} (hw : Cond.fieldLink own ix "NumberLeases" "ahead" "LNumberLeases$Pool;" ∈ gw) (hd : decode cc pc = .ok (.getfield ix, 3)) (k : J G (pc + 3) L (.ref (ad E 1 0) :: rest)) : J G pc L (.ref (ad E 11 0) :: rest) :=
  r_get hJ (ci := 3) (C := RX4) (T := TX4) (N := 4) (kf := 1) (by decide) (by simp [scal]; rfl) rfl iX4 (by decide) hw rfl hd k
theorem r_g4_2 (hJ : jR l E own cc nL d n0 cap J) {ix : Nat} (hw : Cond.fieldLink own ix "NumberLeases" "saves" "LNumberLeases$Saves;" ∈ gw) (hd : decode cc pc = .ok (.getfield ix, 3)) (k : J G (pc + 3) L (.ref (ad E 9 0) :: rest)) : J G pc L (.ref (ad E 11 0) :: rest) :=
  r_get hJ (ci := 3) (C := RX4) (T := TX4) (N := 4) (kf := 2) (by decide) (by simp [scal]; rfl) rfl iX4 (by decide) hw rfl hd k
theorem r_g4_3 (hJ : jR l E own cc nL d n0 cap J) {ix : Nat} (hw : Cond.fieldLink own ix "NumberLeases" "orders" "LNumberLeases$Orders;" ∈ gw) (hd : decode cc pc = .ok (.getfield ix, 3)) (k : J G (pc + 3) L (.ref (ad E 8 0) :: rest)) : J G pc L (.ref (ad E 11 0) :: rest) :=
  r_get hJ (ci := 3) (C := RX4) (T := TX4) (N := 4) (kf := 3) (by decide) (by simp [scal]; rfl) rfl iX4 (by decide) hw rfl hd k
end ROWS
end
section
/-! CALLS AND ENDS -/
def rcv (E : jE) (a : Nat) (C : String) : Prop := ∃ (o ci N : Nat) (T : u_T), a = ad E o 0 ∧ o < 13 ∧ 0 < wid o ∧ vwCl[ci]? = some (C, T, N) ∧ ∀ (k : jX) (P : jO), ∃ fs : List Value, scal E k o P 0 = .inr (ci, fs)
theorem rcv2 (E : jE) {o : Nat} (ho : o < 8) : rcv E (ad E o 0) RX2 := ⟨o, 1, 16, TX2, rfl, by omega, by simp [wid, ho], rfl, fun k P => ⟨poolF E o P, by simp [scal, ho]⟩⟩
theorem rcv1 (E : jE) : rcv E (ad E 8 0) RX1 := ⟨8, 0, 8, TX1, rfl, by omega, by decide, rfl, fun k P => ⟨ordF E P, by simp [scal]⟩⟩
theorem rcv3 (E : jE) : rcv E (ad E 9 0) RX3 := ⟨9, 2, 2, TX3, rfl, by omega, by decide, rfl, fun k P => ⟨savF E P, by simp [scal]⟩⟩
theorem rcv4 (E : jE) : rcv E (ad E 11 0) RX4 := ⟨11, 3, 4, TX4, rfl, by omega, by decide, rfl, fun k P => ⟨nulF E, by simp [scal]⟩⟩
def wV (own : String) (ix : Nat) (C : String) (y : MethodName) (cc : ByteArray) (nL : Nat) (ret : Option FieldType) (n : Nat) : Prop :=
  Cond.methodLink own ix y ∈ gw ∧ Cond.instanceMethod y ∈ gw ∧ Cond.selects C y y ∈ gw ∧ Cond.initialized C ∈ gw ∧ Cond.code y cc nL ret ∈ gw ∧ (y.cls = C ∧ y.cls ≠ "java/lang/invoke/MethodHandle" ∧ y.cls ≠ "java/lang/invoke/VarHandle" ∧ (parseMethodDescriptor y.desc).map (fun d => d.parameters.length) = some n)
def wS (own : String) (ix : Nat) (y : MethodName) (cc : ByteArray) (nL : Nat) (ret : Option FieldType) (n : Nat) : Prop :=
  Cond.methodLink own ix y ∈ gw ∧ Cond.static y ∈ gw ∧ Cond.initialized own ∈ gw ∧ Cond.code y cc nL ret ∈ gw ∧ (y.cls = own ∧ y.cls ≠ "java/lang/invoke/MethodHandle" ∧ y.cls ≠ "java/lang/invoke/VarHandle" ∧ (parseMethodDescriptor y.desc).map (fun d => d.parameters.length) = some n)
theorem gI {ws : List Cond} (h : ∀ w ∈ ws, w ∈ gw) : GoodIn gw ws := fun w hw => ⟨h w hw, good_of_word (gw_good w (h w hw))⟩
theorem gI_V {own C : String} {ix nL n : Nat} {y : MethodName} {cc : ByteArray} {ret : Option FieldType} (w : wV own ix C y cc nL ret n) : GoodIn gw (wsV own ix C y (.code y cc nL ret :: gw)) := by
  obtain ⟨h1, h2, h3, h4, h5, -⟩ := w
  refine gI fun z hz => ?_
  simp only [wsV, List.cons_append, List.nil_append, List.mem_cons] at hz
  rcases hz with rfl | rfl | rfl | rfl | rfl | hz
  · exact h1
  · exact h2
  · exact h3
  · exact h4
  · exact h5
  · exact hz
theorem gI_S {own : String} {ix nL n : Nat} {y : MethodName} {cc : ByteArray} {ret : Option FieldType} (w : wS own ix y cc nL ret n) : GoodIn gw (wsS own ix y (.code y cc nL ret :: gw)) := by
  obtain ⟨h1, h2, h3, h4, -⟩ := w
  refine gI fun z hz => ?_
  simp only [wsS, List.cons_append, List.nil_append, List.mem_cons] at hz
  rcases hz with rfl | rfl | rfl | rfl | hz
  · exact h1
  · exact h2
  · exact h3
  · exact h4
  · exact hz
section CALLS
variable {l : Launch} {E : jE} {own : String} {cc : ByteArray} {nL d n0 cap : Nat} {J : jT} {pc : Nat} {L : List (Option Value)} {rest : List Value}
theorem jAfter {p : Program} {e : Env} {R : Room} {s : State} {m : MethodId} {args : Array Value} {below : List Frame} {meth : Method} {c : Code} {Q : State → Prop} {cb sb kx : Nat} {G G' : jG} {r : Option Value} {av : Array Value} {H : Heap} {locs : List Loc} {ls : Array Slot} {st0 : List Value}
    (hB : jB E s s.heap) (h1 : n0 ≤ G.2.2.2) (hkx : G'.2.2.2 = G.2.2.2 + kx) (hcap : G'.2.2.2 ≤ n0 + cap) (hS : va_S (jA E) s.heap H locs) (hl : lh nL ls L)
    (hr : va_Run p l e R s m args below meth c H locs (cb + (G.2.2.2 - n0)) (sb + 6 * (G.2.2.2 - n0)) kx (6 * kx) (F0 m pc ls st0) rest (jQc E r G' av) (jA E))
    (k : jW p l e R s m args below meth c Q E nL n0 cap cb sb G' (pc + 3) L (r.toList ++ rest)) :
    W p l e R s m args below meth c H locs (cb + (G.2.2.2 - n0)) (sb + 6 * (G.2.2.2 - n0)) Q (F0 m pc ls st0) := by
  intro T hT X
  obtain ⟨v, st₀, t, T', Ls, e0, X', hL, e1, e2, ⟨⟨hv, hw⟩, hz, hkk⟩, st⟩ := hr T hT X
  cases hv
  rw [e0] at hz hkk
  have e3 : cb + (G'.2.2.2 - n0) = cb + (G.2.2.2 - n0) + kx := by omega
  have e4 : sb + 6 * (G'.2.2.2 - n0) = sb + 6 * (G.2.2.2 - n0) + 6 * kx := by omega
  have k2 := k (by omega) hcap T'.heap (locs ++ Ls) ls (by rw [e1]; exact hw)
    ⟨Nat.le_trans hS.1 (by rw [e1]; exact hz), fun q g1 g2 => by rw [e1, hkk q (Nat.lt_of_lt_of_le g1 hS.1) g2]; exact hS.2.1 q g1 g2, fun q hq => by
      rcases List.mem_append.mp hq with h | h
      · exact hS.2.2 q h
      · exact hL q h⟩ hl
  rw [e3, e4] at k2
  obtain ⟨t2, a1, b1⟩ := k2 T' rfl X'
  exact ⟨t2, st t2 a1, b1⟩
theorem r_callV (hJ : jR l E own cc nL d n0 cap J) {ix nL' n d' a : Nat} {C : String} {y : MethodName} {cc' : ByteArray} {ret : Option FieldType} {As : List Value} {G G' : jG} {r : Option Value} (w : wV own ix C y cc' nL' ret n) (hrc : rcv E a C) (ct : Ct l E y cc' nL' ret d' (.ref a :: As) G r G')
    (hd : decode cc pc = .ok (.invokevirtual ix, 3)) (hdd : d' < d ∧ nL' ≤ 13) (hn : As.length = n) (hst : (rest.map fun v => v.category).sum ≤ 8) (hcap : G.2.2.2 ≤ n0 + cap → G'.2.2.2 ≤ n0 + cap) (k : J G' (pc + 3) L (r.toList ++ rest)) : J G pc L (As.reverse ++ .ref a :: rest) := by
  obtain ⟨p, e, R, s, m, args, below, meth, c, Q, cb, sb, rfl, hfix, hfr, hlo, hce, hsl, hB⟩ := hJ
  obtain ⟨kx, hkx, hM⟩ := ct
  intro h1 h2 H locs ls hP hS hl
  obtain ⟨o, ci, N, T, rfl, ho, hwd, hcl, hsc⟩ := hrc
  obtain ⟨fs, hfs⟩ := hsc G.2 (G.1 o)
  have hcp := hcap h2
  have hr := va_runV (e := e) (below := below) (meth := meth) (rest := rest) (g := F0 m pc ls (As.reverse ++ .ref (ad E o 0) :: rest)) (cells := cb + (G.2.2.2 - n0)) (slots := sb + 6 * (G.2.2.2 - n0)) (locs := locs) (As := As) (H := H) hfix hM
    (cwV (C := C) n hfix.2.2.2.2 (gI_V w) rfl rfl rfl w.2.2.2.2.2 ⟨by show d' + 1 ≤ R.frames; omega, by show 8 + (nL' + 11) + 32 * d' ≤ R.locals; omega⟩)
    ⟨jPc_blind E _ G, va_recv (q := (C, T, N)) (q0 := bas o + 0) (fs := fs) hB.1 hP hcl (by obtain ⟨S, x⟩ := G; rw [wld_get E S x ho hwd, cel_0]; exact congrArg (fun z => some (ad E o 0, z)) hfs), fun U hU hW => ⟨rfl, by rw [hU]; exact hP, hB.go hS hW hU⟩⟩ rfl hn hl.1 rfl (lv_room hst) hd ⟨by omega, by omega⟩
  exact jAfter hB h1 hkx hcp hS hl hr k
theorem r_callS (hJ : jR l E own cc nL d n0 cap J) {ix nL' n d' : Nat} {y : MethodName} {cc' : ByteArray} {ret : Option FieldType} {As : List Value} {G G' : jG} {r : Option Value} (w : wS own ix y cc' nL' ret n) (ct : Ct l E y cc' nL' ret d' As G r G')
    (hd : decode cc pc = .ok (.invokestatic ix, 3)) (hdd : d' < d ∧ nL' ≤ 13) (hn : As.length = n) (hst : (rest.map fun v => v.category).sum ≤ 8) (hcap : G.2.2.2 ≤ n0 + cap → G'.2.2.2 ≤ n0 + cap) (k : J G' (pc + 3) L (r.toList ++ rest)) : J G pc L (As.reverse ++ rest) := by
  obtain ⟨p, e, R, s, m, args, below, meth, c, Q, cb, sb, rfl, hfix, hfr, hlo, hce, hsl, hB⟩ := hJ
  obtain ⟨kx, hkx, hM⟩ := ct
  intro h1 h2 H locs ls hP hS hl
  have hcp := hcap h2
  have hr := va_runS (e := e) (below := below) (meth := meth) (rest := rest) (g := F0 m pc ls (As.reverse ++ rest)) (cells := cb + (G.2.2.2 - n0)) (slots := sb + 6 * (G.2.2.2 - n0)) (locs := locs) (As := As) (H := H) hfix hM
    (cwS n hfix.2.2.2.2 (gI_S w) rfl rfl rfl w.2.2.2.2 ⟨by show d' + 1 ≤ R.frames; omega, by show 8 + (nL' + 11) + 32 * d' ≤ R.locals; omega⟩)
    ⟨jPc_blind E _ G, fun U hU hW => ⟨rfl, by rw [hU]; exact hP, hB.go hS hW hU⟩⟩ rfl hn hl.1 rfl (lv_room hst) hd ⟨by omega, by omega⟩
  exact jAfter hB h1 hkx hcp hS hl hr k
end CALLS
/-- what J says at the method's returns: r and G' are what was promised -/
def jF (l : Launch) (E : jE) (cc : ByteArray) (nL : Nat) (ret : Option FieldType) (J : jT) (r : Option Value) (G : jG) : Prop :=
  (∀ (pc : Nat) (L : List (Option Value)) (v : Int32), ret = some .int → r = some (.int v) → decode cc pc = .ok (.ireturn, 1) → J G pc L [.int v]) ∧
  (∀ (pc : Nat) (L : List (Option Value)) (v : Int32), ret = some .boolean → narrow .boolean (.int v) = .int v → r = some (.int v) → decode cc pc = .ok (.ireturn, 1) → J G pc L [.int v]) ∧
  (∀ (pc : Nat) (L : List (Option Value)) (v : Int64), ret = some .long → r = some (.long v) → decode cc pc = .ok (.lreturn, 1) → J G pc L [.long v]) ∧
  (∀ (pc : Nat) (L : List (Option Value)) (v : UInt64), ret = some .double → r = some (.double v) → decode cc pc = .ok (.dreturn, 1) → J G pc L [.double v]) ∧
  (∀ (pc : Nat) (L : List (Option Value)), ret = none → r = none → decode cc pc = .ok (.return_, 1) → J G pc L [])
def lin (nL : Nat) (av : List Value) : List (Option Value) := (lg_sl av ++ List.replicate (nL - (lg_sl av).length) Slot.unset).map fun s => match s with
  | .val v => some v
  | _ => none
theorem lh_in {nL : Nat} {av : List Value} (h : (lg_sl av).length ≤ nL) : lh nL ((lg_sl av ++ List.replicate (nL - (lg_sl av).length) Slot.unset).toArray) (lin nL av) := by
  obtain ⟨h1, h2, -⟩ := lv_entry av h
  refine ⟨h1, by simp [lin]; omega, h2, fun i v hi => ?_⟩
  simp only [lin, List.getElem?_map, Option.map_eq_some_iff] at hi
  obtain ⟨sl, e1, e2⟩ := hi
  rw [List.getElem?_toArray, e1]
  cases sl <;> simp at e2
  rw [e2]
theorem Ct.of {l : Launch} {E : jE} {y : MethodName} {cc : ByteArray} {nL d : Nat} {ret : Option FieldType} {av : List Value} {G G' : jG} {r : Option Value} {L0 : List (Option Value)} (hy : plainName y.cls = true) (hn : G.2.2.2 ≤ G'.2.2.2) (hlen : (lg_sl av).length ≤ nL) (hL0 : lin nL av = L0)
    (body : ∀ J : jT, jR l E y.cls cc nL d G.2.2.2 (G'.2.2.2 - G.2.2.2) J → jF l E cc nL ret J r G' → J G 0 L0 []) : Ct l E y cc nL ret d av G r G' := by
  refine ⟨G'.2.2.2 - G.2.2.2, by omega, Met.ofW (cc := cc) (maxL := nL) (ret := ret) hy rfl ?_⟩
  intro p e s m args below meth c s₁ B hml hv
  obtain ⟨rfl, hP, hB⟩ := hv
  have hx := B.exec
  have hb := B.bytes
  have hr := B.returns
  have hts0 := atoms_spec (ws := Cond.code y cc nL ret :: gw) B.pre
  have hts : ∀ w ∈ gw, w.before av.toArray s = true := fun w hw => hts0 w (List.mem_cons_of_mem _ hw)
  have hown : s.vm.findClass y.cls = some m.cls := findClass_of_methodNamed B.named
  have hlocks := B.notSynchronized
  rw [lg_entry_eq]
  have hS : va_S (jA E) s.heap s.heap [] := va_S.rf
  have K := body (jW p l e (rmd d (G'.2.2.2 - G.2.2.2)) s m av.toArray below meth c (MQ below (jQc E r G') av.toArray s (G'.2.2.2 - G.2.2.2) (6 * (G'.2.2.2 - G.2.2.2)) (jA E)) E nL G.2.2.2 (G'.2.2.2 - G.2.2.2) 0 0)
    ⟨p, e, rmd d (G'.2.2.2 - G.2.2.2), s, m, av.toArray, below, meth, c, _, 0, 0, rfl, ⟨hx, hb, hml, hown, hts⟩, Nat.le_refl _, Nat.le_refl _, by show 0 + (G'.2.2.2 - G.2.2.2) ≤ G'.2.2.2 - G.2.2.2; omega, by show 0 + 6 * (G'.2.2.2 - G.2.2.2) ≤ 6 * (G'.2.2.2 - G.2.2.2); omega, hB⟩
    (by
      refine ⟨fun pc L v hret hrr hdg h1 h2 H locs ls hP hS hl => ?_, fun pc L v hret hnv hrr hdg h1 h2 H locs ls hP hS hl => ?_, fun pc L v hret hrr hdg h1 h2 H locs ls hP hS hl => ?_, fun pc L v hret hrr hdg h1 h2 H locs ls hP hS hl => ?_, fun pc L hret hrr hdg h1 h2 H locs ls hP hS hl => ?_⟩
      all_goals subst hrr; rw [Nat.zero_add, Nat.zero_add]
      · exact W.iret (v := v) hx hb (by rw [hr, hret]) (fun t ht hW => ⟨⟨rfl, by rw [ht]; exact hP⟩, hS.F ht⟩) hS.2.2 hdg
      · exact W.zret (v := v) hx hb (by rw [hr, hret]) hnv (fun t ht hW => ⟨⟨rfl, by rw [ht]; exact hP⟩, hS.F ht⟩) hS.2.2 hdg
      · exact W.lret (v := v) hx hb (by rw [hr, hret]) (fun t ht hW => ⟨⟨rfl, by rw [ht]; exact hP⟩, hS.F ht⟩) hS.2.2 hdg
      · exact W.dret (v := v) hx hb (by rw [hr, hret]) (fun t ht hW => ⟨⟨rfl, by rw [ht]; exact hP⟩, hS.F ht⟩) hS.2.2 hdg
      · exact W.vret hx hb (by rw [hr, hret]) (fun t ht hW => ⟨⟨rfl, by rw [ht]; exact hP⟩, hS.F ht⟩) hS.2.2 hdg)
    (Nat.le_refl _) (by omega) s.heap [] _ hP hS (by rw [← hL0]; exact lh_in hlen)
  rw [Nat.sub_self, Nat.mul_zero] at K
  exact K
end
section
theorem kL_88 : wV RL 88 RX4 yX4_span cX4_span 3 (some .int) 2 := ⟨m159, m160, m161, m25, m162, by decide +kernel⟩
theorem kX4_44 : wS RX4 44 yX4_needRange cX4_needRange 3 none 3 := ⟨m226, m227, m25, m228, by decide +kernel⟩
theorem kX4_145 : wV RX4 145 RX2 yX2_ofSpan cX2_ofSpan 4 (some .int) 2 := ⟨m229, m230, m231, m26, m232, by decide +kernel⟩
theorem kX2_124 : wV RX2 124 RX2 yX2_startOfSpan cX2_startOfSpan 4 (some .int) 1 := ⟨m233, m235, m1, m26, m236, by decide +kernel⟩
theorem kX2_150 : wV RX2 150 RX2 yX2_startsSpan cX2_startsSpan 2 (some .boolean) 1 := ⟨m237, m239, m2, m26, m240, by decide +kernel⟩
theorem kX2_127 : wV RX2 127 RX2 yX2_rowFrom cX2_rowFrom 3 (some .int) 1 := ⟨m241, m243, m3, m26, m244, by decide +kernel⟩
theorem kL_73 : wV RL 73 RX4 yX4_count cX4_count 2 (some .int) 1 := ⟨m245, m246, m247, m25, m248, by decide +kernel⟩
theorem kX4_148 : wV RX4 148 RX4 yX4_countOf cX4_countOf 2 (some .int) 1 := ⟨m249, m251, m4, m25, m252, by decide +kernel⟩
theorem kX4_221 : wV RX4 221 RX2 yX2_ofAll cX2_ofAll 2 (some .int) 1 := ⟨m253, m254, m255, m26, m256, by decide +kernel⟩
theorem kX2_130 : wV RX2 130 RX2 yX2_freeNumbers cX2_freeNumbers 1 (some .int) 0 := ⟨m257, m258, m259, m26, m260, by decide +kernel⟩
theorem kX2_134 : wV RX2 134 RX2 yX2_numbersIn cX2_numbersIn 4 (some .int) 1 := ⟨m261, m263, m5, m26, m264, by decide +kernel⟩
theorem kX2_95 : wV RX2 95 RX2 yX2_stateOf cX2_stateOf 2 (some .int) 1 := ⟨m265, m267, m6, m26, m268, by decide +kernel⟩
theorem kX2_141 : wV RX2 141 RX2 yX2_spans cX2_spans 3 (some .int) 0 := ⟨m272, m273, m274, m26, m275, by decide +kernel⟩
theorem kX2_144 : wV RX2 144 RX2 yX2_longestRow cX2_longestRow 3 (some .int) 0 := ⟨m276, m277, m278, m26, m279, by decide +kernel⟩
theorem kL_47 : wS RL 47 yL_low cL_low 2 (some .int) 2 := ⟨m283, m284, m24, m285, by decide +kernel⟩
theorem kL_41 : wS RL 41 yL_cell cL_cell 2 (some .int) 2 := ⟨m287, m288, m24, m289, by decide +kernel⟩
theorem kL_9 : wV RL 9 RX4 yX4_take cX4_take 3 (some .int) 2 := ⟨m295, m296, m297, m25, m298, by decide +kernel⟩
theorem kX4_33 : wV RX4 33 RX4 yX4_leaseLowest cX4_leaseLowest 4 (some .int) 3 := ⟨m299, m301, m7, m25, m302, by decide +kernel⟩
theorem kX4_37 : wS RX4 37 yX4_needHolder cX4_needHolder 1 none 1 := ⟨m303, m304, m25, m305, by decide +kernel⟩
theorem kX4_203 : wV RX4 203 RX2 yX2_mayLease cX2_mayLease 3 (some .boolean) 2 := ⟨m321, m322, m323, m26, m324, by decide +kernel⟩
theorem kX2_77 : wV RX2 77 RX2 yX2_hasRoom cX2_hasRoom 3 (some .boolean) 2 := ⟨m325, m327, m8, m26, m328, by decide +kernel⟩
theorem kX2_88 : wV RX2 88 RX2 yX2_numbersOf cX2_numbersOf 4 (some .int) 1 := ⟨m329, m331, m9, m26, m332, by decide +kernel⟩
theorem kX2_81 : wV RX2 81 RX2 yX2_lowestRow cX2_lowestRow 3 (some .int) 1 := ⟨m333, m335, m10, m26, m336, by decide +kernel⟩
theorem kX4_52 : wS RX4 52 yX4_needState cX4_needState 1 none 1 := ⟨m337, m338, m25, m339, by decide +kernel⟩
theorem kX4_56 : wV RX4 56 RX3 yX3_keep cX3_keep 3 none 1 := ⟨m355, m356, m357, m27, m358, by decide +kernel⟩
theorem kX3_22 : wV RX3 22 RX3 yX3_dropOldest cX3_dropOldest 3 none 0 := ⟨m359, m361, m11, m27, m362, by decide +kernel⟩
theorem kX3_25 : wV RX3 25 RX2 yX2_copyFrom cX2_copyFrom 2 none 1 := ⟨m363, m364, m365, m26, m366, by decide +kernel⟩
theorem kX2_61 : wS RX2 61 yX2_copyRow cX2_copyRow 2 none 2 := ⟨m367, m368, m26, m369, by decide +kernel⟩
theorem kX4_206 : wV RX4 206 RX2 yX2_leaseRow cX2_leaseRow 6 (some .int) 3 := ⟨m376, m377, m378, m26, m379, by decide +kernel⟩
theorem kX2_91 : wV RX2 91 RX2 yX2_lease cX2_lease 4 none 3 := ⟨m380, m382, m12, m26, m383, by decide +kernel⟩
theorem kL_32 : wV RL 32 RX4 yX4_set cX4_set 4 (some .int) 2 := ⟨m388, m389, m390, m25, m391, by decide +kernel⟩
theorem kX4_92 : wS RX4 92 yX4_needSetting cX4_needSetting 1 none 1 := ⟨m392, m393, m25, m394, by decide +kernel⟩
theorem kX4_101 : wV RX4 101 RX2 yX2_fitsIn cX2_fitsIn 3 (some .boolean) 1 := ⟨m399, m400, m401, m26, m402, by decide +kernel⟩
theorem kL_99 : wS RL 99 yL_act cL_act 7 (some .int) 3 := ⟨m403, m404, m24, m405, by decide +kernel⟩
theorem kL_37 : wV RL 37 RX4 yX4_setting cX4_setting 2 (some .int) 1 := ⟨m406, m407, m408, m25, m409, by decide +kernel⟩
theorem kL_17 : wV RL 17 RX4 yX4_takeSpan cX4_takeSpan 4 (some .int) 3 := ⟨m413, m414, m415, m25, m416, by decide +kernel⟩
theorem kL_21 : wV RL 21 RX4 yX4_wish cX4_wish 4 (some .int) 3 := ⟨m421, m422, m423, m25, m424, by decide +kernel⟩
theorem kX4_41 : wV RX4 41 RX4 yX4_needNumber cX4_needNumber 2 none 1 := ⟨m425, m427, m13, m25, m428, by decide +kernel⟩
theorem kX4_197 : wV RX4 197 RX2 yX2_hasNumber cX2_hasNumber 2 (some .boolean) 1 := ⟨m429, m430, m431, m26, m432, by decide +kernel⟩
theorem kX4_48 : wV RX4 48 RX2 yX2_mayWish cX2_mayWish 3 (some .boolean) 2 := ⟨m433, m434, m435, m26, m436, by decide +kernel⟩
theorem kX2_85 : wV RX2 85 RX2 yX2_placeOfWish cX2_placeOfWish 4 (some .int) 2 := ⟨m437, m438, m439, m26, m440, by decide +kernel⟩
theorem kX4_60 : wV RX4 60 RX2 yX2_addWish cX2_addWish 5 (some .int) 3 := ⟨m441, m442, m443, m26, m444, by decide +kernel⟩
theorem kL_29 : wV RL 29 RX4 yX4_renew cX4_renew 4 (some .int) 3 := ⟨m448, m449, m450, m25, m451, by decide +kernel⟩
theorem kX4_75 : wV RX4 75 RX2 yX2_mayRenew cX2_mayRenew 3 (some .boolean) 2 := ⟨m452, m453, m454, m26, m455, by decide +kernel⟩
theorem kX4_78 : wV RX4 78 RX2 yX2_prolong cX2_prolong 4 (some .int) 2 := ⟨m456, m457, m458, m26, m459, by decide +kernel⟩
theorem kL_61 : wV RL 61 RX4 yX4_giveBack cX4_giveBack 4 (some .int) 3 := ⟨m460, m461, m462, m25, m463, by decide +kernel⟩
theorem kX4_81 : wV RX4 81 RX2 yX2_freeSpan cX2_freeSpan 6 (some .int) 3 := ⟨m464, m465, m466, m26, m467, by decide +kernel⟩
theorem kX2_98 : wV RX2 98 RX2 yX2_free cX2_free 5 none 1 := ⟨m468, m470, m14, m26, m471, by decide +kernel⟩
theorem kX2_102 : wV RX2 102 RX2 yX2_dropWish cX2_dropWish 5 none 2 := ⟨m472, m473, m474, m26, m475, by decide +kernel⟩
theorem kL_26 : wV RL 26 RX4 yX4_unwish cX4_unwish 4 (some .int) 2 := ⟨m479, m480, m481, m25, m482, by decide +kernel⟩
theorem kX4_63 : wV RX4 63 RX2 yX2_placeOfWish cX2_placeOfWish 4 (some .int) 2 := ⟨m483, m438, m439, m26, m440, by decide +kernel⟩
theorem kX4_67 : wV RX4 67 RX2 yX2_dropWish cX2_dropWish 5 none 2 := ⟨m484, m473, m474, m26, m475, by decide +kernel⟩
theorem kL_66 : wV RL 66 RX4 yX4_pass cX4_pass 2 (some .int) 1 := ⟨m485, m486, m487, m25, m488, by decide +kernel⟩
theorem kX4_84 : wV RX4 84 RX2 yX2_hasTimeFor cX2_hasTimeFor 2 (some .boolean) 1 := ⟨m489, m490, m491, m26, m492, by decide +kernel⟩
theorem kX4_88 : wV RX4 88 RX2 yX2_passUnits cX2_passUnits 4 (some .int) 1 := ⟨m493, m494, m495, m26, m496, by decide +kernel⟩
theorem kX2_106 : wV RX2 106 RX2 yX2_countUnits cX2_countUnits 2 none 0 := ⟨m497, m499, m15, m26, m500, by decide +kernel⟩
theorem kX2_109 : wV RX2 109 RX2 yX2_freeDue cX2_freeDue 2 none 0 := ⟨m501, m503, m16, m26, m504, by decide +kernel⟩
theorem kL_69 : wV RL 69 RX4 yX4_undo cX4_undo 1 (some .int) 0 := ⟨m508, m509, m510, m25, m511, by decide +kernel⟩
theorem kX4_136 : wV RX4 136 RX3 yX3_restore cX3_restore 3 none 1 := ⟨m512, m513, m514, m27, m515, by decide +kernel⟩
theorem kL_103 : wS RL 103 yL_numbers cL_numbers 9 (some .boolean) 1 := ⟨m516, m517, m24, m518, by decide +kernel⟩
theorem kL_76 : wV RL 76 RX4 yX4_number cX4_number 3 (some .int) 2 := ⟨m519, m520, m521, m25, m522, by decide +kernel⟩
theorem kX4_139 : wV RX4 139 RX2 yX2_ofNumber cX2_ofNumber 5 (some .int) 2 := ⟨m523, m524, m525, m26, m526, by decide +kernel⟩
theorem kL_79 : wV RL 79 RX4 yX4_whoAfter cX4_whoAfter 3 (some .int) 2 := ⟨m527, m528, m529, m25, m530, by decide +kernel⟩
theorem kX4_151 : wV RX4 151 RX4 yX4_holderAfter cX4_holderAfter 6 (some .int) 2 := ⟨m531, m533, m17, m25, m534, by decide +kernel⟩
theorem kX4_224 : wV RX4 224 RX2 yX2_copyFrom cX2_copyFrom 2 none 1 := ⟨m535, m364, m365, m26, m366, by decide +kernel⟩
theorem kX4_230 : wV RX4 230 RX2 yX2_leap cX2_leap 4 (some .boolean) 1 := ⟨m536, m537, m538, m26, m539, by decide +kernel⟩
theorem kL_82 : wV RL 82 RX4 yX4_wishedIn cX4_wishedIn 3 (some .int) 2 := ⟨m540, m541, m542, m25, m543, by decide +kernel⟩
theorem kX4_157 : wV RX4 157 RX4 yX4_timeToWished cX4_timeToWished 5 (some .int) 2 := ⟨m544, m546, m18, m25, m547, by decide +kernel⟩
theorem kL_107 : wS RL 107 yL_holders cL_holders 9 (some .boolean) 1 := ⟨m548, m549, m24, m550, by decide +kernel⟩
theorem kL_85 : wV RL 85 RX4 yX4_holder cX4_holder 3 (some .int) 2 := ⟨m551, m552, m553, m25, m554, by decide +kernel⟩
theorem kX4_142 : wV RX4 142 RX2 yX2_ofHolder cX2_ofHolder 3 (some .int) 2 := ⟨m555, m556, m557, m26, m558, by decide +kernel⟩
theorem kX2_112 : wV RX2 112 RX2 yX2_numbersOfIn cX2_numbersOfIn 5 (some .int) 2 := ⟨m559, m561, m19, m26, m562, by decide +kernel⟩
theorem kX2_115 : wV RX2 115 RX2 yX2_wishesOf cX2_wishesOf 4 (some .int) 1 := ⟨m563, m565, m20, m26, m566, by decide +kernel⟩
theorem kX2_118 : wV RX2 118 RX2 yX2_leastOf cX2_leastOf 3 (some .int) 1 := ⟨m567, m569, m21, m26, m570, by decide +kernel⟩
theorem kX2_121 : wV RX2 121 RX2 yX2_leastEndOf cX2_leastEndOf 4 (some .int) 1 := ⟨m571, m573, m22, m26, m574, by decide +kernel⟩
theorem kL_110 : wS RL 110 yL_spans cL_spans 9 (some .boolean) 1 := ⟨m575, m576, m24, m577, by decide +kernel⟩
theorem kL_90 : wV RL 90 RX4 yX4_freeIn cX4_freeIn 2 (some .int) 1 := ⟨m578, m579, m580, m25, m581, by decide +kernel⟩
theorem kX4_154 : wV RX4 154 RX4 yX4_timeToFree cX4_timeToFree 4 (some .int) 1 := ⟨m582, m584, m23, m25, m585, by decide +kernel⟩
theorem kX4_236 : wV RX4 236 RX2 yX2_freeNumbers cX2_freeNumbers 1 (some .int) 0 := ⟨m586, m258, m259, m26, m260, by decide +kernel⟩
section WRAPS
variable {l : Launch} {E : jE} {own : String} {cc : ByteArray} {nL d n0 cap : Nat} {J : jT} {pc : Nat} {L : List (Option Value)} {rest : List Value}
theorem r_V0v (hJ : jR l E own cc nL d n0 cap J) {ix nL' d' a : Nat} {C : String} {y : MethodName} {cc' : ByteArray} {ret : Option FieldType} {S S' : jS} {x : jX} {v : Value} (w : wV own ix C y cc' nL' ret 0) (hrc : rcv E a C) (ct : Ct l E y cc' nL' ret d' [.ref a] (S, x) (some v) (S', x)) (hd : decode cc pc = .ok (.invokevirtual ix, 3)) (hdd : d' < d ∧ nL' ≤ 13) (hst : (rest.map fun v => v.category).sum ≤ 8) (k : J (S', x) (pc + 3) L (v :: rest)) : J (S, x) pc L (.ref a :: rest) :=
  r_callV hJ (As := []) w hrc ct hd hdd rfl hst id k
theorem r_S0v (hJ : jR l E own cc nL d n0 cap J) {ix nL' d' : Nat} {y : MethodName} {cc' : ByteArray} {ret : Option FieldType} {S S' : jS} {x : jX} {v : Value} (w : wS own ix y cc' nL' ret 0) (ct : Ct l E y cc' nL' ret d' [] (S, x) (some v) (S', x)) (hd : decode cc pc = .ok (.invokestatic ix, 3)) (hdd : d' < d ∧ nL' ≤ 13) (hst : (rest.map fun v => v.category).sum ≤ 8) (k : J (S', x) (pc + 3) L (v :: rest)) : J (S, x) pc L (rest) :=
  r_callS hJ (As := []) w ct hd hdd rfl hst id k
theorem r_V0u (hJ : jR l E own cc nL d n0 cap J) {ix nL' d' a : Nat} {C : String} {y : MethodName} {cc' : ByteArray} {ret : Option FieldType} {S S' : jS} {x : jX} (w : wV own ix C y cc' nL' ret 0) (hrc : rcv E a C) (ct : Ct l E y cc' nL' ret d' [.ref a] (S, x) none (S', x)) (hd : decode cc pc = .ok (.invokevirtual ix, 3)) (hdd : d' < d ∧ nL' ≤ 13) (hst : (rest.map fun v => v.category).sum ≤ 8) (k : J (S', x) (pc + 3) L rest) : J (S, x) pc L (.ref a :: rest) :=
  r_callV hJ (As := []) w hrc ct hd hdd rfl hst id k
theorem r_S0u (hJ : jR l E own cc nL d n0 cap J) {ix nL' d' : Nat} {y : MethodName} {cc' : ByteArray} {ret : Option FieldType} {S S' : jS} {x : jX} (w : wS own ix y cc' nL' ret 0) (ct : Ct l E y cc' nL' ret d' [] (S, x) none (S', x)) (hd : decode cc pc = .ok (.invokestatic ix, 3)) (hdd : d' < d ∧ nL' ≤ 13) (hst : (rest.map fun v => v.category).sum ≤ 8) (k : J (S', x) (pc + 3) L rest) : J (S, x) pc L (rest) :=
  r_callS hJ (As := []) w ct hd hdd rfl hst id k
theorem r_V1v (hJ : jR l E own cc nL d n0 cap J) {ix nL' d' a : Nat} {C : String} {y : MethodName} {cc' : ByteArray} {ret : Option FieldType} {S S' : jS} {x : jX} {x1 : Value} {v : Value} (w : wV own ix C y cc' nL' ret 1) (hrc : rcv E a C) (ct : Ct l E y cc' nL' ret d' [.ref a, x1] (S, x) (some v) (S', x)) (hd : decode cc pc = .ok (.invokevirtual ix, 3)) (hdd : d' < d ∧ nL' ≤ 13) (hst : (rest.map fun v => v.category).sum ≤ 8) (k : J (S', x) (pc + 3) L (v :: rest)) : J (S, x) pc L (x1 :: .ref a :: rest) :=
  r_callV hJ (As := [x1]) w hrc ct hd hdd rfl hst id k
theorem r_S1v (hJ : jR l E own cc nL d n0 cap J) {ix nL' d' : Nat} {y : MethodName} {cc' : ByteArray} {ret : Option FieldType} {S S' : jS} {x : jX} {x1 : Value} {v : Value} (w : wS own ix y cc' nL' ret 1) (ct : Ct l E y cc' nL' ret d' [x1] (S, x) (some v) (S', x)) (hd : decode cc pc = .ok (.invokestatic ix, 3)) (hdd : d' < d ∧ nL' ≤ 13) (hst : (rest.map fun v => v.category).sum ≤ 8) (k : J (S', x) (pc + 3) L (v :: rest)) : J (S, x) pc L (x1 :: rest) :=
  r_callS hJ (As := [x1]) w ct hd hdd rfl hst id k
theorem r_V1u (hJ : jR l E own cc nL d n0 cap J) {ix nL' d' a : Nat} {C : String} {y : MethodName} {cc' : ByteArray} {ret : Option FieldType} {S S' : jS} {x : jX} {x1 : Value} (w : wV own ix C y cc' nL' ret 1) (hrc : rcv E a C) (ct : Ct l E y cc' nL' ret d' [.ref a, x1] (S, x) none (S', x)) (hd : decode cc pc = .ok (.invokevirtual ix, 3)) (hdd : d' < d ∧ nL' ≤ 13) (hst : (rest.map fun v => v.category).sum ≤ 8) (k : J (S', x) (pc + 3) L rest) : J (S, x) pc L (x1 :: .ref a :: rest) :=
  r_callV hJ (As := [x1]) w hrc ct hd hdd rfl hst id k
theorem r_S1u (hJ : jR l E own cc nL d n0 cap J) {ix nL' d' : Nat} {y : MethodName} {cc' : ByteArray} {ret : Option FieldType} {S S' : jS} {x : jX} {x1 : Value} (w : wS own ix y cc' nL' ret 1) (ct : Ct l E y cc' nL' ret d' [x1] (S, x) none (S', x)) (hd : decode cc pc = .ok (.invokestatic ix, 3)) (hdd : d' < d ∧ nL' ≤ 13) (hst : (rest.map fun v => v.category).sum ≤ 8) (k : J (S', x) (pc + 3) L rest) : J (S, x) pc L (x1 :: rest) :=
  r_callS hJ (As := [x1]) w ct hd hdd rfl hst id k
theorem r_V2v (hJ : jR l E own cc nL d n0 cap J) {ix nL' d' a : Nat} {C : String} {y : MethodName} {cc' : ByteArray} {ret : Option FieldType} {S S' : jS} {x : jX} {x1 x2 : Value} {v : Value} (w : wV own ix C y cc' nL' ret 2) (hrc : rcv E a C) (ct : Ct l E y cc' nL' ret d' [.ref a, x1, x2] (S, x) (some v) (S', x)) (hd : decode cc pc = .ok (.invokevirtual ix, 3)) (hdd : d' < d ∧ nL' ≤ 13) (hst : (rest.map fun v => v.category).sum ≤ 8) (k : J (S', x) (pc + 3) L (v :: rest)) : J (S, x) pc L (x2 :: x1 :: .ref a :: rest) :=
  r_callV hJ (As := [x1, x2]) w hrc ct hd hdd rfl hst id k
theorem r_S2v (hJ : jR l E own cc nL d n0 cap J) {ix nL' d' : Nat} {y : MethodName} {cc' : ByteArray} {ret : Option FieldType} {S S' : jS} {x : jX} {x1 x2 : Value} {v : Value} (w : wS own ix y cc' nL' ret 2) (ct : Ct l E y cc' nL' ret d' [x1, x2] (S, x) (some v) (S', x)) (hd : decode cc pc = .ok (.invokestatic ix, 3)) (hdd : d' < d ∧ nL' ≤ 13) (hst : (rest.map fun v => v.category).sum ≤ 8) (k : J (S', x) (pc + 3) L (v :: rest)) : J (S, x) pc L (x2 :: x1 :: rest) :=
  r_callS hJ (As := [x1, x2]) w ct hd hdd rfl hst id k
theorem r_V2u (hJ : jR l E own cc nL d n0 cap J) {ix nL' d' a : Nat} {C : String} {y : MethodName} {cc' : ByteArray} {ret : Option FieldType} {S S' : jS} {x : jX} {x1 x2 : Value} (w : wV own ix C y cc' nL' ret 2) (hrc : rcv E a C) (ct : Ct l E y cc' nL' ret d' [.ref a, x1, x2] (S, x) none (S', x)) (hd : decode cc pc = .ok (.invokevirtual ix, 3)) (hdd : d' < d ∧ nL' ≤ 13) (hst : (rest.map fun v => v.category).sum ≤ 8) (k : J (S', x) (pc + 3) L rest) : J (S, x) pc L (x2 :: x1 :: .ref a :: rest) :=
  r_callV hJ (As := [x1, x2]) w hrc ct hd hdd rfl hst id k
theorem r_S2u (hJ : jR l E own cc nL d n0 cap J) {ix nL' d' : Nat} {y : MethodName} {cc' : ByteArray} {ret : Option FieldType} {S S' : jS} {x : jX} {x1 x2 : Value} (w : wS own ix y cc' nL' ret 2) (ct : Ct l E y cc' nL' ret d' [x1, x2] (S, x) none (S', x)) (hd : decode cc pc = .ok (.invokestatic ix, 3)) (hdd : d' < d ∧ nL' ≤ 13) (hst : (rest.map fun v => v.category).sum ≤ 8) (k : J (S', x) (pc + 3) L rest) : J (S, x) pc L (x2 :: x1 :: rest) :=
  r_callS hJ (As := [x1, x2]) w ct hd hdd rfl hst id k
theorem r_V3v (hJ : jR l E own cc nL d n0 cap J) {ix nL' d' a : Nat} {C : String} {y : MethodName} {cc' : ByteArray} {ret : Option FieldType} {S S' : jS} {x : jX} {x1 x2 x3 : Value} {v : Value} (w : wV own ix C y cc' nL' ret 3) (hrc : rcv E a C) (ct : Ct l E y cc' nL' ret d' [.ref a, x1, x2, x3] (S, x) (some v) (S', x)) (hd : decode cc pc = .ok (.invokevirtual ix, 3)) (hdd : d' < d ∧ nL' ≤ 13) (hst : (rest.map fun v => v.category).sum ≤ 8) (k : J (S', x) (pc + 3) L (v :: rest)) : J (S, x) pc L (x3 :: x2 :: x1 :: .ref a :: rest) :=
  r_callV hJ (As := [x1, x2, x3]) w hrc ct hd hdd rfl hst id k
theorem r_S3v (hJ : jR l E own cc nL d n0 cap J) {ix nL' d' : Nat} {y : MethodName} {cc' : ByteArray} {ret : Option FieldType} {S S' : jS} {x : jX} {x1 x2 x3 : Value} {v : Value} (w : wS own ix y cc' nL' ret 3) (ct : Ct l E y cc' nL' ret d' [x1, x2, x3] (S, x) (some v) (S', x)) (hd : decode cc pc = .ok (.invokestatic ix, 3)) (hdd : d' < d ∧ nL' ≤ 13) (hst : (rest.map fun v => v.category).sum ≤ 8) (k : J (S', x) (pc + 3) L (v :: rest)) : J (S, x) pc L (x3 :: x2 :: x1 :: rest) :=
  r_callS hJ (As := [x1, x2, x3]) w ct hd hdd rfl hst id k
theorem r_V3u (hJ : jR l E own cc nL d n0 cap J) {ix nL' d' a : Nat} {C : String} {y : MethodName} {cc' : ByteArray} {ret : Option FieldType} {S S' : jS} {x : jX} {x1 x2 x3 : Value} (w : wV own ix C y cc' nL' ret 3) (hrc : rcv E a C) (ct : Ct l E y cc' nL' ret d' [.ref a, x1, x2, x3] (S, x) none (S', x)) (hd : decode cc pc = .ok (.invokevirtual ix, 3)) (hdd : d' < d ∧ nL' ≤ 13) (hst : (rest.map fun v => v.category).sum ≤ 8) (k : J (S', x) (pc + 3) L rest) : J (S, x) pc L (x3 :: x2 :: x1 :: .ref a :: rest) :=
  r_callV hJ (As := [x1, x2, x3]) w hrc ct hd hdd rfl hst id k
theorem r_S3u (hJ : jR l E own cc nL d n0 cap J) {ix nL' d' : Nat} {y : MethodName} {cc' : ByteArray} {ret : Option FieldType} {S S' : jS} {x : jX} {x1 x2 x3 : Value} (w : wS own ix y cc' nL' ret 3) (ct : Ct l E y cc' nL' ret d' [x1, x2, x3] (S, x) none (S', x)) (hd : decode cc pc = .ok (.invokestatic ix, 3)) (hdd : d' < d ∧ nL' ≤ 13) (hst : (rest.map fun v => v.category).sum ≤ 8) (k : J (S', x) (pc + 3) L rest) : J (S, x) pc L (x3 :: x2 :: x1 :: rest) :=
  r_callS hJ (As := [x1, x2, x3]) w ct hd hdd rfl hst id k
theorem r_V4v (hJ : jR l E own cc nL d n0 cap J) {ix nL' d' a : Nat} {C : String} {y : MethodName} {cc' : ByteArray} {ret : Option FieldType} {S S' : jS} {x : jX} {x1 x2 x3 x4 : Value} {v : Value} (w : wV own ix C y cc' nL' ret 4) (hrc : rcv E a C) (ct : Ct l E y cc' nL' ret d' [.ref a, x1, x2, x3, x4] (S, x) (some v) (S', x)) (hd : decode cc pc = .ok (.invokevirtual ix, 3)) (hdd : d' < d ∧ nL' ≤ 13) (hst : (rest.map fun v => v.category).sum ≤ 8) (k : J (S', x) (pc + 3) L (v :: rest)) : J (S, x) pc L (x4 :: x3 :: x2 :: x1 :: .ref a :: rest) :=
  r_callV hJ (As := [x1, x2, x3, x4]) w hrc ct hd hdd rfl hst id k
theorem r_S4v (hJ : jR l E own cc nL d n0 cap J) {ix nL' d' : Nat} {y : MethodName} {cc' : ByteArray} {ret : Option FieldType} {S S' : jS} {x : jX} {x1 x2 x3 x4 : Value} {v : Value} (w : wS own ix y cc' nL' ret 4) (ct : Ct l E y cc' nL' ret d' [x1, x2, x3, x4] (S, x) (some v) (S', x)) (hd : decode cc pc = .ok (.invokestatic ix, 3)) (hdd : d' < d ∧ nL' ≤ 13) (hst : (rest.map fun v => v.category).sum ≤ 8) (k : J (S', x) (pc + 3) L (v :: rest)) : J (S, x) pc L (x4 :: x3 :: x2 :: x1 :: rest) :=
  r_callS hJ (As := [x1, x2, x3, x4]) w ct hd hdd rfl hst id k
theorem r_V4u (hJ : jR l E own cc nL d n0 cap J) {ix nL' d' a : Nat} {C : String} {y : MethodName} {cc' : ByteArray} {ret : Option FieldType} {S S' : jS} {x : jX} {x1 x2 x3 x4 : Value} (w : wV own ix C y cc' nL' ret 4) (hrc : rcv E a C) (ct : Ct l E y cc' nL' ret d' [.ref a, x1, x2, x3, x4] (S, x) none (S', x)) (hd : decode cc pc = .ok (.invokevirtual ix, 3)) (hdd : d' < d ∧ nL' ≤ 13) (hst : (rest.map fun v => v.category).sum ≤ 8) (k : J (S', x) (pc + 3) L rest) : J (S, x) pc L (x4 :: x3 :: x2 :: x1 :: .ref a :: rest) :=
  r_callV hJ (As := [x1, x2, x3, x4]) w hrc ct hd hdd rfl hst id k
theorem r_S4u (hJ : jR l E own cc nL d n0 cap J) {ix nL' d' : Nat} {y : MethodName} {cc' : ByteArray} {ret : Option FieldType} {S S' : jS} {x : jX} {x1 x2 x3 x4 : Value} (w : wS own ix y cc' nL' ret 4) (ct : Ct l E y cc' nL' ret d' [x1, x2, x3, x4] (S, x) none (S', x)) (hd : decode cc pc = .ok (.invokestatic ix, 3)) (hdd : d' < d ∧ nL' ≤ 13) (hst : (rest.map fun v => v.category).sum ≤ 8) (k : J (S', x) (pc + 3) L rest) : J (S, x) pc L (x4 :: x3 :: x2 :: x1 :: rest) :=
  r_callS hJ (As := [x1, x2, x3, x4]) w ct hd hdd rfl hst id k
theorem r_V5v (hJ : jR l E own cc nL d n0 cap J) {ix nL' d' a : Nat} {C : String} {y : MethodName} {cc' : ByteArray} {ret : Option FieldType} {S S' : jS} {x : jX} {x1 x2 x3 x4 x5 : Value} {v : Value} (w : wV own ix C y cc' nL' ret 5) (hrc : rcv E a C) (ct : Ct l E y cc' nL' ret d' [.ref a, x1, x2, x3, x4, x5] (S, x) (some v) (S', x)) (hd : decode cc pc = .ok (.invokevirtual ix, 3)) (hdd : d' < d ∧ nL' ≤ 13) (hst : (rest.map fun v => v.category).sum ≤ 8) (k : J (S', x) (pc + 3) L (v :: rest)) : J (S, x) pc L (x5 :: x4 :: x3 :: x2 :: x1 :: .ref a :: rest) :=
  r_callV hJ (As := [x1, x2, x3, x4, x5]) w hrc ct hd hdd rfl hst id k
theorem r_S5v (hJ : jR l E own cc nL d n0 cap J) {ix nL' d' : Nat} {y : MethodName} {cc' : ByteArray} {ret : Option FieldType} {S S' : jS} {x : jX} {x1 x2 x3 x4 x5 : Value} {v : Value} (w : wS own ix y cc' nL' ret 5) (ct : Ct l E y cc' nL' ret d' [x1, x2, x3, x4, x5] (S, x) (some v) (S', x)) (hd : decode cc pc = .ok (.invokestatic ix, 3)) (hdd : d' < d ∧ nL' ≤ 13) (hst : (rest.map fun v => v.category).sum ≤ 8) (k : J (S', x) (pc + 3) L (v :: rest)) : J (S, x) pc L (x5 :: x4 :: x3 :: x2 :: x1 :: rest) :=
  r_callS hJ (As := [x1, x2, x3, x4, x5]) w ct hd hdd rfl hst id k
theorem r_V5u (hJ : jR l E own cc nL d n0 cap J) {ix nL' d' a : Nat} {C : String} {y : MethodName} {cc' : ByteArray} {ret : Option FieldType} {S S' : jS} {x : jX} {x1 x2 x3 x4 x5 : Value} (w : wV own ix C y cc' nL' ret 5) (hrc : rcv E a C) (ct : Ct l E y cc' nL' ret d' [.ref a, x1, x2, x3, x4, x5] (S, x) none (S', x)) (hd : decode cc pc = .ok (.invokevirtual ix, 3)) (hdd : d' < d ∧ nL' ≤ 13) (hst : (rest.map fun v => v.category).sum ≤ 8) (k : J (S', x) (pc + 3) L rest) : J (S, x) pc L (x5 :: x4 :: x3 :: x2 :: x1 :: .ref a :: rest) :=
  r_callV hJ (As := [x1, x2, x3, x4, x5]) w hrc ct hd hdd rfl hst id k
theorem r_S5u (hJ : jR l E own cc nL d n0 cap J) {ix nL' d' : Nat} {y : MethodName} {cc' : ByteArray} {ret : Option FieldType} {S S' : jS} {x : jX} {x1 x2 x3 x4 x5 : Value} (w : wS own ix y cc' nL' ret 5) (ct : Ct l E y cc' nL' ret d' [x1, x2, x3, x4, x5] (S, x) none (S', x)) (hd : decode cc pc = .ok (.invokestatic ix, 3)) (hdd : d' < d ∧ nL' ≤ 13) (hst : (rest.map fun v => v.category).sum ≤ 8) (k : J (S', x) (pc + 3) L rest) : J (S, x) pc L (x5 :: x4 :: x3 :: x2 :: x1 :: rest) :=
  r_callS hJ (As := [x1, x2, x3, x4, x5]) w ct hd hdd rfl hst id k
theorem ret_i {G G' : jG} {r : Option Value} {v : Int32} (hF : jF l E cc nL (some .int) J r G') (hd : decode cc pc = .ok (.ireturn, 1)) (hr : r = some (.int v)) (hG : G' = G) : J G pc L [.int v] := by
  subst hG; exact hF.1 pc L v rfl hr hd
theorem ret_z {G G' : jG} {r : Option Value} {v : Int32} (hF : jF l E cc nL (some .boolean) J r G') (hd : decode cc pc = .ok (.ireturn, 1)) (hz : narrow .boolean (.int v) = .int v) (hr : r = some (.int v)) (hG : G' = G) : J G pc L [.int v] := by
  subst hG; exact hF.2.1 pc L v rfl hz hr hd
theorem ret_l {G G' : jG} {r : Option Value} {v : Int64} (hF : jF l E cc nL (some .long) J r G') (hd : decode cc pc = .ok (.lreturn, 1)) (hr : r = some (.long v)) (hG : G' = G) : J G pc L [.long v] := by
  subst hG; exact hF.2.2.1 pc L v rfl hr hd
theorem ret_d {G G' : jG} {r : Option Value} {v : UInt64} (hF : jF l E cc nL (some .double) J r G') (hd : decode cc pc = .ok (.dreturn, 1)) (hr : r = some (.double v)) (hG : G' = G) : J G pc L [.double v] := by
  subst hG; exact hF.2.2.2.1 pc L v rfl hr hd
theorem ret_v {G G' : jG} {r : Option Value} (hF : jF l E cc nL none J r G') (hd : decode cc pc = .ok (.return_, 1)) (hr : r = none) (hG : G' = G) : J G pc L [] := by
  subst hG; exact hF.2.2.2.2 pc L rfl hr hd
end WRAPS
theorem ii1 (a : Nat) : nI a + Int32.ofInt 1 = nI (a + 1) := (nI_succ a).symm
theorem alP1 {o n : Nat} (ho : o < 8) (h : n < 4) : n < aln o 1 := by simp [aln, ho]; exact h
theorem alP2 {o n : Nat} (ho : o < 8) (h : n < 64) : n < aln o 2 := by simp [aln, ho]; exact h
theorem alP3 {o n : Nat} (ho : o < 8) (h : n < 64) : n < aln o 3 := by simp [aln, ho]; exact h
theorem alP4 {o n : Nat} (ho : o < 8) (h : n < 64) : n < aln o 4 := by simp [aln, ho]; exact h
theorem alP5 {o n : Nat} (ho : o < 8) (h : n < 64) : n < aln o 5 := by simp [aln, ho]; exact h
theorem alP6 {o n : Nat} (ho : o < 8) (h : n < 64) : n < aln o 6 := by simp [aln, ho]; exact h
theorem alP7 {o n : Nat} (ho : o < 8) (h : n < 64) : n < aln o 7 := by simp [aln, ho]; exact h
theorem alP8 {o n : Nat} (ho : o < 8) (h : n < 192) : n < aln o 8 := by simp [aln, ho]; exact h
theorem alP9 {o n : Nat} (ho : o < 8) (h : n < 192) : n < aln o 9 := by simp [aln, ho]; exact h
theorem alP10 {o n : Nat} (ho : o < 8) (h : n < 8) : n < aln o 10 := by simp [aln, ho]; exact h
theorem alP11 {o n : Nat} (ho : o < 8) (h : n < 8) : n < aln o 11 := by simp [aln, ho]; exact h
theorem alP12 {o n : Nat} (ho : o < 8) (h : n < 8) : n < aln o 12 := by simp [aln, ho]; exact h
theorem alO1 {n : Nat} (h : n < 60) : n < aln 8 1 := h
def bI (b : Bool) : Int32 := if b then 1 else 0
theorem bI_nar (b : Bool) : narrow .boolean (.int (bI b)) = .int (bI b) ∧ fits .boolean (.int (bI b)) = true := by cases b <;> exact ⟨rfl, rfl⟩
def oI : Option Nat → Int32
  | none => -1
  | some n => nI n
def cnt (p : Nat → Bool) : Nat → Nat
  | 0 => 0
  | n + 1 => cnt p n + if p n then 1 else 0
/-- the first of k places from n on with p -/
def fnd (p : Nat → Bool) : Nat → Nat → Option Nat
  | 0, _ => none
  | k + 1, n => if p n then some n else fnd p k (n + 1)
/-- how many in a row, of k places from n on, have p -/
def row (p : Nat → Bool) : Nat → Nat → Nat
  | 0, _ => 0
  | k + 1, n => if p n then row p k (n + 1) + 1 else 0
theorem cnt_le (p : Nat → Bool) : ∀ n, cnt p n ≤ n
  | 0 => Nat.le_refl _
  | n + 1 => by
    have := cnt_le p n
    rw [cnt]
    split <;> omega
theorem row_le (p : Nat → Bool) : ∀ k n, row p k n ≤ k
  | 0, _ => Nat.le_refl _
  | k + 1, n => by
    have := row_le p k (n + 1)
    rw [row]
    split <;> omega
end
section
/-! WHAT THE POOL'S METHODS DO, in numbers and lists: P 0 0 time, P 0 1 renewals, P 0 2 grace renewals, P 0 3 freed; rows 1 settings, 2 whose, 3 begin, 4 end, 5 last, 6 given, 7 waiting, 8 wishers, 9 terms of wishes, 10 leases, 11 lost, 12 units -/
theorem nI0 : nI 0 = 0 := rfl
theorem nI1 : nI 1 = 1 := rfl
abbrev toN (x : Int32) : Nat := x.toNatClampNeg
theorem nI_m1 {n : Nat} (h : n < 2 ^ 31) : ¬ nI n = -1 := by
  intro q
  have h1 := nI_toInt h
  rw [q] at h1
  have h2 : (-1 : Int32).toInt = -1 := by decide
  omega
theorem oI_m1 {o : Option Nat} (h : ∀ n, o = some n → n < 2 ^ 31) : oI o = -1 ↔ o = none := by
  cases o with
  | none => simp [oI]
  | some n =>
    simp only [oI, reduceCtorEq, iff_false]
    exact nI_m1 (h n rfl)
theorem fnd_lt {p : Nat → Bool} : ∀ {k n i : Nat}, fnd p k n = some i → n ≤ i ∧ i < n + k ∧ p i = true
  | 0, n, i, h => by simp [fnd] at h
  | k + 1, n, i, h => by
    rw [fnd] at h
    split at h
    · cases h
      exact ⟨Nat.le_refl _, by omega, ‹_›⟩
    · obtain ⟨h1, h2, h3⟩ := fnd_lt h
      exact ⟨by omega, by omega, h3⟩
def frP (P : jO) (n : Nat) : Bool := decide (P 2 n = -1)
def hasP (P : jO) (h : Int32) : Nat := cnt (fun n => decide (P 2 n = h)) 64
def hasR (P : jO) (h m : Int32) : Bool := !(decide (P 1 1 < nI (hasP P h) + m))
def rowP (P : jO) (z n : Nat) : Nat := row (frP P) (z - n) n
def lowR (P : jO) (z : Nat) (m : Int32) : Option Nat := fnd (fun n => decide (m ≤ nI (rowP P z n))) z 0
def stg (P : jO) (n : Nat) : Int32 := if P 2 n = -1 then 0 else if P 0 0 < P 4 n then 1 else 2
def leaseP (P : jO) (h n : Nat) (t : Int32) : jO :=
  let P1 := put P 2 n (nI h)
  let P2 := put P1 3 n (P1 0 0)
  let P3 := put P2 4 n (P2 0 0 + t)
  let P4 := put P3 5 n (P3 4 n + P3 1 0)
  let P5 := put P4 6 n (P4 6 n + nI 1)
  put P5 10 h (P5 10 h + nI 1)
theorem leaseP_app (P : jO) (h n : Nat) (t : Int32) (j i : Nat) : leaseP P h n t j i = if j = 2 ∧ i = n then nI h else if j = 3 ∧ i = n then P 0 0 else if j = 4 ∧ i = n then P 0 0 + t else if j = 5 ∧ i = n then P 0 0 + t + P 1 0 else if j = 6 ∧ i = n then P 6 n + nI 1 else if j = 10 ∧ i = h then P 10 h + nI 1 else P j i := by
  simp only [leaseP, put_app]
  by_cases h2 : j = 2 <;> by_cases h3 : j = 3 <;> by_cases h4 : j = 4 <;> by_cases h5 : j = 5 <;> by_cases h6 : j = 6 <;> by_cases h10 : j = 10 <;> simp_all
def leaseN (h : Nat) (t : Int32) : Nat → Nat → jO → jO
  | 0, _, P => P
  | k + 1, n, P => leaseN h t k (n + 1) (leaseP P h n t)
/-- the wishes behind the place i move up, c of them -/
def shiftP (n : Nat) : Nat → Nat → jO → jO
  | 0, _, P => P
  | c + 1, i, P => shiftP n c (i + 1) (let P1 := put P 8 (n * 3 + i) (P 8 (n * 3 + i + 1)); put P1 9 (n * 3 + i) (P1 9 (n * 3 + i + 1)))
def dropP (P : jO) (n k : Nat) : jO := let P1 := shiftP n (toN (P 7 n) - 1 - k) k P; put P1 7 n (P1 7 n - nI 1)
def serveS (P : jO) (n : Nat) : jO :=
  let h := P 8 (n * 3)
  let t := P 9 (n * 3)
  let P1 := dropP P n 0
  if nI (hasP P1 h) < P1 1 1 then leaseP P1 (toN h) n t else put P1 11 (toN h) (P1 11 (toN h) + nI 1)
def serve (n : Nat) : Nat → jO → jO
  | 0, P => P
  | k + 1, P => if P 2 n = -1 ∧ 0 < P 7 n then serve n k (serveS P n) else P
def freeP (P : jO) (n : Nat) : jO := let P1 := put P 2 n (-1); serve n 3 (put P1 0 3 (P1 0 3 + nI 1))
def spanN (h : Int32) : Nat → Nat → jO × Nat → jO × Nat
  | 0, _, s => s
  | k + 1, n, s => spanN h k (n + 1) (if s.1 2 n = h then (freeP s.1 n, s.2 + 1) else s)
def dueN : Nat → Nat → jO → jO
  | 0, _, P => P
  | k + 1, n, P => dueN k (n + 1) (if ¬ P 2 n = -1 ∧ P 5 n = P 0 0 then freeP P n else P)
def unitsN : Nat → Nat → jO → jO
  | 0, _, P => P
  | k + 1, n, P => unitsN k (n + 1) (if stg P n = 1 then put P 12 (toN (P 2 n)) (P 12 (toN (P 2 n)) + nI 1) else P)
def tickP (P : jO) : jO := let P1 := unitsN 64 0 P; dueN 64 0 (put P1 0 0 (P1 0 0 + nI 1))
def passN : Nat → jO → jO
  | 0, P => P
  | k + 1, P => passN k (tickP P)
def nextN (P : jO) : Nat → Nat → Int32 → Int32
  | 0, _, v => v
  | k + 1, n, v => nextN P k (n + 1) (if ¬ P 2 n = -1 ∧ P 5 n < v then P 5 n else v)
def leapV (P : jO) (u : Int32) : Int32 := nextN P 64 0 (u + nI 1)
def leapP (P : jO) (u : Int32) : jO := if u < leapV P u then P else dueN 64 0 (put P 0 0 (leapV P u))
def placeW (P : jO) (h : Int32) (n : Nat) : Option Nat := fnd (fun k => decide (P 8 (n * 3 + k) = h)) (toN (P 7 n)) 0
def addW (P : jO) (h n : Nat) (t : Int32) : jO :=
  if P 2 n = -1 then leaseP P h n t
  else if toN (P 7 n) < 3 then (let w := toN (P 7 n); let P1 := put P 8 (n * 3 + w) (nI h); let P2 := put P1 9 (n * 3 + w) t; put P2 7 n (P2 7 n + nI 1)) else P
def mayW (P : jO) (h : Int32) (n : Nat) : Bool := if P 2 n = -1 then hasR P h (nI 1) else !decide (nI 3 ≤ P 7 n) && !decide (P 2 n = h) && (placeW P h n).isNone
/-! what holds of every pool -/
def PIq (P : jO) (n : Nat) : Prop := ∃ w : Nat, w ≤ 3 ∧ P 7 n = nI w ∧ ∀ k, k < w → ∃ h, h < 8 ∧ P 8 (n * 3 + k) = nI h
def PI (P : jO) : Prop := (∃ z : Nat, 4 ≤ z ∧ z ≤ 64 ∧ P 1 3 = nI z) ∧ (∀ n, n < 64 → P 2 n = -1 ∨ ∃ h, h < 8 ∧ P 2 n = nI h) ∧ ∀ n, n < 64 → PIq P n
theorem PIq_of {P P' : jO} {n : Nat} (h7 : P' 7 n = P 7 n) (h8 : ∀ k, k < 3 → P' 8 (n * 3 + k) = P 8 (n * 3 + k)) (h : PIq P n) : PIq P' n := by
  obtain ⟨w, h1, h2, h3⟩ := h
  exact ⟨w, h1, by rw [h7, h2], fun k hk => by rw [h8 k (by omega)]; exact h3 k hk⟩
theorem PI_of {P P' : jO} (h1 : P' 1 3 = P 1 3) (h2 : ∀ n, n < 64 → P' 2 n = P 2 n) (h7 : ∀ n, n < 64 → P' 7 n = P 7 n) (h8 : ∀ n, n < 192 → P' 8 n = P 8 n) (h : PI P) : PI P' := by
  obtain ⟨⟨z, a, b, c⟩, g2, g3⟩ := h
  exact ⟨⟨z, a, b, by rw [h1, c]⟩, fun n hn => by rw [h2 n hn]; exact g2 n hn, fun n hn => PIq_of (h7 n hn) (fun k hk => h8 _ (by omega)) (g3 n hn)⟩
theorem PI_put {P : jO} {j i : Nat} {v : Int32} (hj : j ≠ 1 ∧ j ≠ 2 ∧ j ≠ 7 ∧ j ≠ 8) (h : PI P) : PI (put P j i v) :=
  PI_of (by rw [put_ne (Ne.symm hj.1)]) (fun n _ => by rw [put_ne (Ne.symm hj.2.1)]) (fun n _ => by rw [put_ne (Ne.symm hj.2.2.1)]) (fun n _ => by rw [put_ne (Ne.symm hj.2.2.2)]) h
theorem PI_put2 {P : jO} {n : Nat} {v : Int32} (hv : v = -1 ∨ ∃ h, h < 8 ∧ v = nI h) (h : PI P) : PI (put P 2 n v) := by
  obtain ⟨g1, g2, g3⟩ := h
  refine ⟨by rw [put_ne (by decide)]; exact g1, fun i hi => ?_, fun i hi => PIq_of (by rw [put_ne (by decide)]) (fun k _ => by rw [put_ne (by decide)]) (g3 i hi)⟩
  rw [put_at]
  split
  · exact hv
  · exact g2 i hi
theorem PI_lease {P : jO} {h n : Nat} {t : Int32} (hh : h < 8) (hP : PI P) : PI (leaseP P h n t) := by
  unfold leaseP
  exact PI_put (by decide) (PI_put (by decide) (PI_put (by decide) (PI_put (by decide) (PI_put (by decide) (PI_put2 (Or.inr ⟨h, hh, rfl⟩) hP)))))
theorem shiftP_ne (n : Nat) : ∀ (c i : Nat) (P : jO) (j : Nat), j ≠ 8 → j ≠ 9 → shiftP n c i P j = P j
  | 0, _, _, _, _, _ => rfl
  | c + 1, i, P, j, h1, h2 => by
    rw [shiftP, shiftP_ne n c (i + 1) _ j h1 h2, put_ne h2, put_ne h1]
theorem shiftP_8 (n : Nat) : ∀ (c i : Nat) (P : jO) (q : Nat), shiftP n c i P 8 q = if n * 3 + i ≤ q ∧ q < n * 3 + i + c then P 8 (q + 1) else P 8 q
  | 0, i, P, q => by
    rw [shiftP, if_neg (by omega)]
  | c + 1, i, P, q => by
    rw [shiftP, shiftP_8 n c (i + 1)]
    simp only [put_app]
    by_cases h1 : q = n * 3 + i
    · subst h1
      simp
    · by_cases h2 : n * 3 + i ≤ q ∧ q < n * 3 + i + (c + 1)
      · have h3 : n * 3 + (i + 1) ≤ q ∧ q < n * 3 + (i + 1) + c := by omega
        have h4 : q + 1 ≠ n * 3 + i := by omega
        simp [h2, h3, h4]
      · have h3 : ¬ (n * 3 + (i + 1) ≤ q ∧ q < n * 3 + (i + 1) + c) := by omega
        simp [h2, h3, h1]
theorem shiftP_9 (n : Nat) : ∀ (c i : Nat) (P : jO) (q : Nat), shiftP n c i P 9 q = if n * 3 + i ≤ q ∧ q < n * 3 + i + c then P 9 (q + 1) else P 9 q
  | 0, i, P, q => by
    rw [shiftP, if_neg (by omega)]
  | c + 1, i, P, q => by
    rw [shiftP, shiftP_9 n c (i + 1)]
    simp only [put_app]
    by_cases h1 : q = n * 3 + i
    · subst h1
      simp
    · by_cases h2 : n * 3 + i ≤ q ∧ q < n * 3 + i + (c + 1)
      · have h3 : n * 3 + (i + 1) ≤ q ∧ q < n * 3 + (i + 1) + c := by omega
        have h4 : q + 1 ≠ n * 3 + i := by omega
        simp [h2, h3, h4]
      · have h3 : ¬ (n * 3 + (i + 1) ≤ q ∧ q < n * 3 + (i + 1) + c) := by omega
        simp [h2, h3, h1]
theorem toN_nI {n : Nat} (h : n < 2 ^ 31) : toN (nI n) = n := nI_clamp h
theorem PI_drop {P : jO} {n k : Nat} (hn : n < 64) (h0 : 0 < toN (P 7 n)) (hk : k < toN (P 7 n)) (hP : PI P) : PI (dropP P n k) := by
  obtain ⟨g1, g2, g3⟩ := hP
  obtain ⟨w, h1, h2, h3⟩ := g3 n hn
  have hw : toN (P 7 n) = w := by rw [h2, toN_nI (by omega)]
  rw [hw] at h0 hk
  refine ⟨by unfold dropP; rw [put_ne (by decide), shiftP_ne _ _ _ _ _ (by decide) (by decide)]; exact g1, fun i hi => by unfold dropP; rw [put_ne (by decide), shiftP_ne _ _ _ _ _ (by decide) (by decide)]; exact g2 i hi, fun i hi => ?_⟩
  by_cases hin : i = n
  · subst hin
    refine ⟨w - 1, by omega, ?_, fun q hq => ?_⟩
    · unfold dropP
      rw [put_at, if_pos rfl, shiftP_ne _ _ _ _ _ (by decide) (by decide), h2]
      obtain ⟨v, rfl⟩ : ∃ v, w = v + 1 := ⟨w - 1, by omega⟩
      exact nI_pred v
    · unfold dropP
      rw [put_ne (by decide), shiftP_8, hw]
      split
      · have := h3 (q + 1) (by omega)
        rwa [Nat.add_assoc]
      · exact h3 q (by omega)
  · refine PIq_of ?_ (fun q hq => ?_) (g3 i hi)
    · unfold dropP
      rw [put_at, if_neg hin, shiftP_ne _ _ _ _ _ (by decide) (by decide)]
    · unfold dropP
      rw [put_ne (by decide), shiftP_8, hw, if_neg (by omega)]
theorem PI_pos {P : jO} {n : Nat} (hP : PI P) (hn : n < 64) (h : 0 < P 7 n) : 0 < toN (P 7 n) ∧ toN (P 7 n) ≤ 3 ∧ P 7 n = nI (toN (P 7 n)) ∧ toN (P 8 (n * 3)) < 8 ∧ P 8 (n * 3) = nI (toN (P 8 (n * 3))) := by
  obtain ⟨w, h1, h2, h3⟩ := hP.2.2 n hn
  have hw : toN (P 7 n) = w := by rw [h2, toN_nI (by omega)]
  have h0 : 0 < w := by
    rcases Nat.eq_zero_or_pos w with q | q
    · subst q
      rw [h2] at h
      exact absurd h (by decide)
    · exact q
  obtain ⟨g, g1, g2⟩ := h3 0 h0
  rw [Nat.add_zero] at g2
  rw [hw, g2, toN_nI (by omega)]
  exact ⟨h0, h1, h2, g1, rfl⟩
theorem PI_serveS {P : jO} {n : Nat} (hn : n < 64) (hP : PI P) (h : 0 < P 7 n) : PI (serveS P n) := by
  obtain ⟨h1, h2, h3, h4, h5⟩ := PI_pos hP hn h
  unfold serveS
  have hd := PI_drop hn h1 h1 hP
  simp only
  split
  · exact PI_lease h4 hd
  · exact PI_put (by decide) hd
theorem PI_serve {n : Nat} (hn : n < 64) : ∀ (k : Nat) (P : jO), PI P → PI (serve n k P)
  | 0, _, h => h
  | k + 1, P, h => by
    rw [serve]
    split
    · exact PI_serve hn k _ (PI_serveS hn h (And.right ‹_›))
    · exact h
theorem PI_free {P : jO} {n : Nat} (hn : n < 64) (hP : PI P) : PI (freeP P n) := PI_serve hn 3 _ (PI_put (by decide) (PI_put2 (Or.inl rfl) hP))
theorem PI_dueN : ∀ (k n : Nat) (P : jO), n + k ≤ 64 → PI P → PI (dueN k n P)
  | 0, _, _, _, h => h
  | k + 1, n, P, hk, h => by
    rw [dueN]
    refine PI_dueN k (n + 1) _ (by omega) ?_
    split
    · exact PI_free (by omega) h
    · exact h
theorem PI_unitsN : ∀ (k n : Nat) (P : jO), PI P → PI (unitsN k n P)
  | 0, _, _, h => h
  | k + 1, n, P, h => by
    rw [unitsN]
    refine PI_unitsN k (n + 1) _ ?_
    split
    · exact PI_put (by decide) h
    · exact h
theorem PI_tick {P : jO} (h : PI P) : PI (tickP P) := PI_dueN 64 0 _ (by omega) (PI_put (by decide) (PI_unitsN 64 0 _ h))
theorem PI_passN : ∀ (k : Nat) (P : jO), PI P → PI (passN k P)
  | 0, _, h => h
  | k + 1, _, h => PI_passN k _ (PI_tick h)
theorem PI_leap {P : jO} {u : Int32} (h : PI P) : PI (leapP P u) := by
  unfold leapP
  split
  · exact h
  · exact PI_dueN 64 0 _ (by omega) (PI_put (by decide) h)
theorem PI_leaseN {h : Nat} {t : Int32} (hh : h < 8) : ∀ (k n : Nat) (P : jO), PI P → PI (leaseN h t k n P)
  | 0, _, _, h => h
  | k + 1, n, P, h => PI_leaseN hh k (n + 1) _ (PI_lease hh h)
theorem PI_spanN {h : Int32} : ∀ (k n : Nat) (s : jO × Nat), n + k ≤ 64 → PI s.1 → PI (spanN h k n s).1
  | 0, _, _, _, h => h
  | k + 1, n, s, hk, h => by
    rw [spanN]
    refine PI_spanN k (n + 1) _ (by omega) ?_
    split
    · exact PI_free (by omega) h
    · exact h
theorem PI_addW {P : jO} {h n : Nat} {t : Int32} (hn : n < 64) (hh : h < 8) (hP : PI P) : PI (addW P h n t) := by
  unfold addW
  obtain ⟨w, h1, h2, h3⟩ := hP.2.2 n hn
  have hw : toN (P 7 n) = w := by rw [h2, toN_nI (by omega)]
  simp only [hw]
  split
  · exact PI_lease hh hP
  · split
    · rename_i hw3
      obtain ⟨g1, g2, g3⟩ := hP
      refine ⟨by simp only [put_app]; simpa using g1, fun i hi => by simp only [put_app]; simpa using g2 i hi, fun i hi => ?_⟩
      by_cases hin : i = n
      · subst hin
        refine ⟨w + 1, by omega, ?_, fun q hq => ?_⟩
        · simp only [put_app]
          simp [h2, nI_add]
        · simp only [put_app]
          by_cases hq2 : q = w
          · subst hq2
            simp
            exact ⟨h, hh, rfl⟩
          · have h9 := h3 q (by omega)
            have h8 : ¬ i * 3 + q = i * 3 + w := by omega
            simp only [h8]
            simpa using h9
      · refine PIq_of ?_ (fun q hq => ?_) (g3 i hi)
        · simp only [put_app]
          simp [hin]
        · simp only [put_app]
          have h8 : ¬ i * 3 + q = n * 3 + w := by omega
          simp [h8]
    · exact hP
end
section
set_option maxRecDepth 100000 in
set_option maxHeartbeats 1000000 in
theorem c2_numbersOf (l : Launch) (E : jE) (S : jS) (x : jX) (P : jO) {o : Nat} (ho : o < 8) (h : Int32) : Ct l E yX2_numbersOf cX2_numbersOf 4 (some .int) 1 [.ref (ad E o 0), .int h] (setO S o P, x) (some (.int (nI (cnt (fun n => decide (P 2 n = h)) 64)))) (setO S o P, x) := by
  refine Ct.of (by decide +kernel) (Nat.le_refl _) (Nat.le_of_ble_eq_true rfl) rfl (fun J hJ hF => ?_)
  have loop : ∀ k n : Nat, n + k = 64 → J (setO S o P, x) 4 [some (.ref (ad E o 0)), some (.int h), some (.int (nI (cnt (fun n => decide (P 2 n = h)) n))), some (.int (nI n))] [] := by
    intro k
    induction k with
    | zero =>
      intro n hn
      obtain rfl : n = 64 := by omega
      refine r_iload_n hJ dX2_numbersOf_4 rfl jg3 ?_
      refine r_bipush hJ (v := nI 64) dX2_numbersOf_5 (by decide) ?_
      refine r_icmp_ge hJ (tgt := 29) dX2_numbersOf_7 (by decide) (fun c7 => ?_) (fun c7 => ?_)
      · refine r_iload_n hJ dX2_numbersOf_29 rfl jg2 ?_
        exact ret_i hF dX2_numbersOf_30 rfl rfl
      · exact absurd (nI_le (by omega) (by omega)) c7
    | succ k ih =>
      intro n hn
      refine r_iload_n hJ dX2_numbersOf_4 rfl jg3 ?_
      refine r_bipush hJ (v := nI 64) dX2_numbersOf_5 (by decide) ?_
      refine r_icmp_ge hJ (tgt := 29) dX2_numbersOf_7 (by decide) (fun c7 => ?_) (fun c7 => ?_)
      · exact absurd c7 (nI_ge (by omega) (by omega))
      · refine r_aload_n hJ dX2_numbersOf_10 rfl jg0 ?_
        refine r_g2_5 hJ ho m58 dX2_numbersOf_11 ?_
        refine r_iload_n hJ dX2_numbersOf_14 rfl jg3 ?_
        refine r_ialdO hJ (by omega) (alP2 ho (by omega)) rfl dX2_numbersOf_15 ?_
        refine r_iload_n hJ dX2_numbersOf_16 rfl jg1 ?_
        refine r_icmp_ne hJ (tgt := 23) dX2_numbersOf_17 (by decide) (fun c17 => ?_) (fun c17 => ?_)
        · have e : cnt (fun n => decide (P 2 n = h)) (n + 1) = cnt (fun n => decide (P 2 n = h)) n := by simp [cnt, c17]
          rw [← e]
          refine r_iinc hJ dX2_numbersOf_23 jg3 (ii1 _) (jp3 rfl rfl) ?_
          refine r_goto hJ (tgt := 4) dX2_numbersOf_26 (by decide) ?_
          exact ih (n + 1) (by omega)
        · have e : cnt (fun n => decide (P 2 n = h)) (n + 1) = cnt (fun n => decide (P 2 n = h)) n + 1 := by simp [cnt, c17]
          refine r_iinc hJ dX2_numbersOf_20 jg2 (ii1 _) (jp2 rfl rfl) ?_
          rw [← e]
          refine r_iinc hJ dX2_numbersOf_23 jg3 (ii1 _) (jp3 rfl rfl) ?_
          refine r_goto hJ (tgt := 4) dX2_numbersOf_26 (by decide) ?_
          exact ih (n + 1) (by omega)
  refine r_iconst hJ (v := nI 0) dX2_numbersOf_0 (by decide) ?_
  refine r_istore_n hJ dX2_numbersOf_1 rfl (jp2 rfl rfl) ?_
  refine r_iconst hJ (v := nI 0) dX2_numbersOf_2 (by decide) ?_
  refine r_istore_n hJ dX2_numbersOf_3 rfl (jp3 rfl rfl) ?_
  exact loop 64 0 (by omega)

set_option maxRecDepth 100000 in
set_option maxHeartbeats 1000000 in
theorem c2_hasNumber (l : Launch) (E : jE) (S : jS) (x : jX) (P : jO) {o : Nat} (ho : o < 8) (n : Int32) : Ct l E yX2_hasNumber cX2_hasNumber 2 (some .boolean) 1 [.ref (ad E o 0), .int n] (setO S o P, x) (some (.int (bI (!decide (n < 0) && !decide (P 1 3 ≤ n))))) (setO S o P, x) := by
  refine Ct.of (by decide +kernel) (Nat.le_refl _) (Nat.le_of_ble_eq_true rfl) rfl (fun J hJ hF => ?_)
  refine r_iload_n hJ dX2_hasNumber_0 rfl jg1 ?_
  refine r_if_lt hJ (tgt := 18) dX2_hasNumber_1 (by decide) (fun c1 => ?_) (fun c1 => ?_)
  · refine r_iconst hJ (v := nI 0) dX2_hasNumber_18 (by decide) ?_
    exact ret_z hF dX2_hasNumber_19 (by decide) (by simp [bI, nI0, nI1, *]) rfl
  · refine r_iload_n hJ dX2_hasNumber_4 rfl jg1 ?_
    refine r_aload_n hJ dX2_hasNumber_5 rfl jg0 ?_
    refine r_g2_4 hJ ho m56 dX2_hasNumber_6 ?_
    refine r_iconst hJ (v := nI 3) dX2_hasNumber_9 (by decide) ?_
    refine r_ialdO hJ (by omega) (alP1 ho (by omega)) rfl dX2_hasNumber_10 ?_
    refine r_icmp_ge hJ (tgt := 18) dX2_hasNumber_11 (by decide) (fun c11 => ?_) (fun c11 => ?_)
    · refine r_iconst hJ (v := nI 0) dX2_hasNumber_18 (by decide) ?_
      exact ret_z hF dX2_hasNumber_19 (by decide) (by simp [bI, nI0, nI1, *]) rfl
    · refine r_iconst hJ (v := nI 1) dX2_hasNumber_14 (by decide) ?_
      refine r_goto hJ (tgt := 19) dX2_hasNumber_15 (by decide) ?_
      exact ret_z hF dX2_hasNumber_19 (by decide) (by simp [bI, nI0, nI1, *]) rfl

set_option maxRecDepth 100000 in
set_option maxHeartbeats 1000000 in
theorem c2_hasTimeFor (l : Launch) (E : jE) (S : jS) (x : jX) (P : jO) {o : Nat} (ho : o < 8) (b : Int32) : Ct l E yX2_hasTimeFor cX2_hasTimeFor 2 (some .boolean) 1 [.ref (ad E o 0), .int b] (setO S o P, x) (some (.int (bI (!decide (nI 9999 < P 0 0 + b))))) (setO S o P, x) := by
  refine Ct.of (by decide +kernel) (Nat.le_refl _) (Nat.le_of_ble_eq_true rfl) rfl (fun J hJ hF => ?_)
  refine r_aload_n hJ dX2_hasTimeFor_0 rfl jg0 ?_
  refine r_g2_0O hJ ho m51 dX2_hasTimeFor_1 ?_
  refine r_iload_n hJ dX2_hasTimeFor_4 rfl jg1 ?_
  refine r_iadd hJ dX2_hasTimeFor_5 ?_
  refine r_sipush hJ (v := nI 9999) dX2_hasTimeFor_6 (by decide) ?_
  refine r_icmp_gt hJ (tgt := 16) dX2_hasTimeFor_9 (by decide) (fun c9 => ?_) (fun c9 => ?_)
  · refine r_iconst hJ (v := nI 0) dX2_hasTimeFor_16 (by decide) ?_
    exact ret_z hF dX2_hasTimeFor_17 (by decide) (by simp [bI, nI0, nI1, *]) rfl
  · refine r_iconst hJ (v := nI 1) dX2_hasTimeFor_12 (by decide) ?_
    refine r_goto hJ (tgt := 17) dX2_hasTimeFor_13 (by decide) ?_
    exact ret_z hF dX2_hasTimeFor_17 (by decide) (by simp [bI, nI0, nI1, *]) rfl

set_option maxRecDepth 100000 in
set_option maxHeartbeats 1000000 in
theorem c2_fitsIn (l : Launch) (E : jE) (S : jS) (x : jX) (P : jO) {o : Nat} (ho : o < 8) {m : Nat} (hm : m ≤ 64) : Ct l E yX2_fitsIn cX2_fitsIn 3 (some .boolean) 1 [.ref (ad E o 0), .int (nI m)] (setO S o P, x) (some (.int (bI (fnd (fun n => !frP P n) (64 - m) m).isNone))) (setO S o P, x) := by
  refine Ct.of (by decide +kernel) (Nat.le_refl _) (Nat.le_of_ble_eq_true rfl) rfl (fun J hJ hF => ?_)
  have loop : ∀ k n : Nat, n + k = 64 → (fnd (fun n => !frP P n) k n).isNone = (fnd (fun n => !frP P n) (64 - m) m).isNone → J (setO S o P, x) 2 [some (.ref (ad E o 0)), some (.int (nI m)), some (.int (nI n))] [] := by
    intro k
    induction k with
    | zero =>
      intro n hn he
      obtain rfl : n = 64 := by omega
      refine r_iload_n hJ dX2_fitsIn_2 rfl jg2 ?_
      refine r_bipush hJ (v := nI 64) dX2_fitsIn_3 (by decide) ?_
      refine r_icmp_ge hJ (tgt := 26) dX2_fitsIn_5 (by decide) (fun c5 => ?_) (fun c5 => ?_)
      · refine r_iconst hJ (v := nI 1) dX2_fitsIn_26 (by decide) ?_
        exact ret_z hF dX2_fitsIn_27 (by decide) (by rw [← he]; rfl) rfl
      · exact absurd (nI_le (by omega) (by omega)) c5
    | succ k ih =>
      intro n hn he
      refine r_iload_n hJ dX2_fitsIn_2 rfl jg2 ?_
      refine r_bipush hJ (v := nI 64) dX2_fitsIn_3 (by decide) ?_
      refine r_icmp_ge hJ (tgt := 26) dX2_fitsIn_5 (by decide) (fun c5 => ?_) (fun c5 => ?_)
      · exact absurd c5 (nI_ge (by omega) (by omega))
      · refine r_aload_n hJ dX2_fitsIn_8 rfl jg0 ?_
        refine r_g2_5 hJ ho m58 dX2_fitsIn_9 ?_
        refine r_iload_n hJ dX2_fitsIn_12 rfl jg2 ?_
        refine r_ialdO hJ (by omega) (alP2 ho (by omega)) rfl dX2_fitsIn_13 ?_
        refine r_iconst hJ (v := (-1)) dX2_fitsIn_14 (by decide) ?_
        refine r_icmp_eq hJ (tgt := 20) dX2_fitsIn_15 (by decide) (fun c15 => ?_) (fun c15 => ?_)
        · refine r_iinc hJ dX2_fitsIn_20 jg2 (ii1 _) (jp2 rfl rfl) ?_
          refine r_goto hJ (tgt := 2) dX2_fitsIn_23 (by decide) ?_
          exact ih (n + 1) (by omega) (by rw [← he]; simp [fnd, frP, c15])
        · refine r_iconst hJ (v := nI 0) dX2_fitsIn_18 (by decide) ?_
          exact ret_z hF dX2_fitsIn_19 (by decide) (by rw [← he]; simp [fnd, frP, c15, bI, nI0]) rfl
  refine r_iload_n hJ dX2_fitsIn_0 rfl jg1 ?_
  refine r_istore_n hJ dX2_fitsIn_1 rfl (jp2 rfl rfl) ?_
  exact loop (64 - m) m (by omega) rfl

set_option maxRecDepth 100000 in
set_option maxHeartbeats 1000000 in
theorem c2_hasRoom (l : Launch) (E : jE) (S : jS) (x : jX) (P : jO) {o : Nat} (ho : o < 8) (h m : Int32) : Ct l E yX2_hasRoom cX2_hasRoom 3 (some .boolean) 2 [.ref (ad E o 0), .int h, .int m] (setO S o P, x) (some (.int (bI (hasR P h m)))) (setO S o P, x) := by
  refine Ct.of (by decide +kernel) (Nat.le_refl _) (Nat.le_of_ble_eq_true rfl) rfl (fun J hJ hF => ?_)
  refine r_aload_n hJ dX2_hasRoom_0 rfl jg0 ?_
  refine r_iload_n hJ dX2_hasRoom_1 rfl jg1 ?_
  refine r_V1v hJ kX2_88 (rcv2 E ho) (c2_numbersOf l E S x P ho h) dX2_hasRoom_2 ⟨by decide, by decide⟩ (Nat.le_of_ble_eq_true rfl) ?_
  refine r_iload_n hJ dX2_hasRoom_5 rfl jg2 ?_
  refine r_iadd hJ dX2_hasRoom_6 ?_
  refine r_aload_n hJ dX2_hasRoom_7 rfl jg0 ?_
  refine r_g2_4 hJ ho m56 dX2_hasRoom_8 ?_
  refine r_iconst hJ (v := nI 1) dX2_hasRoom_11 (by decide) ?_
  refine r_ialdO hJ (by omega) (alP1 ho (by omega)) rfl dX2_hasRoom_12 ?_
  refine r_icmp_gt hJ (tgt := 20) dX2_hasRoom_13 (by decide) (fun c13 => ?_) (fun c13 => ?_)
  · refine r_iconst hJ (v := nI 0) dX2_hasRoom_20 (by decide) ?_
    exact ret_z hF dX2_hasRoom_21 (by decide) (by simp [hasR, hasP, bI, nI0, nI1, *]) rfl
  · refine r_iconst hJ (v := nI 1) dX2_hasRoom_16 (by decide) ?_
    refine r_goto hJ (tgt := 21) dX2_hasRoom_17 (by decide) ?_
    exact ret_z hF dX2_hasRoom_21 (by decide) (by simp [hasR, hasP, bI, nI0, nI1, *]) rfl

set_option maxRecDepth 100000 in
set_option maxHeartbeats 1000000 in
theorem c2_rowFrom (l : Launch) (E : jE) (S : jS) (x : jX) (P : jO) {o : Nat} (ho : o < 8) {z : Nat} (hz : P 1 3 = nI z) (hz4 : z ≤ 64) {f : Nat} (hfz : f ≤ z) : Ct l E yX2_rowFrom cX2_rowFrom 3 (some .int) 1 [.ref (ad E o 0), .int (nI f)] (setO S o P, x) (some (.int (nI (rowP P z f)))) (setO S o P, x) := by
  refine Ct.of (by decide +kernel) (Nat.le_refl _) (Nat.le_of_ble_eq_true rfl) rfl (fun J hJ hF => ?_)
  have loop : ∀ k n : Nat, n + k = z → f ≤ n → n - f + row (frP P) k n = rowP P z f → J (setO S o P, x) 2 [some (.ref (ad E o 0)), some (.int (nI f)), some (.int (nI n))] [] := by
    intro k
    induction k with
    | zero =>
      intro n hn hf he
      obtain rfl : n = z := by omega
      have he2 : n - f = rowP P n f := by simpa [row] using he
      refine r_iload_n hJ dX2_rowFrom_2 rfl jg2 ?_
      refine r_aload_n hJ dX2_rowFrom_3 rfl jg0 ?_
      refine r_g2_4 hJ ho m56 dX2_rowFrom_4 ?_
      refine r_iconst hJ (v := nI 3) dX2_rowFrom_7 (by decide) ?_
      refine r_ialdO hJ (by omega) (alP1 ho (by omega)) rfl dX2_rowFrom_8 ?_
      refine r_icmp_ge hJ (tgt := 28) dX2_rowFrom_9 (by decide) (fun c9 => ?_) (fun c9 => ?_)
      · refine r_iload_n hJ dX2_rowFrom_28 rfl jg2 ?_
        refine r_iload_n hJ dX2_rowFrom_29 rfl jg1 ?_
        refine r_isub hJ dX2_rowFrom_30 ?_
        exact ret_i hF dX2_rowFrom_31 (by rw [pk_sub (by omega)]; exact congrArg (fun q => some (Value.int (nI q))) (by omega)) rfl
      · rw [hz] at c9
        exact absurd (nI_le (by omega) (by omega)) c9
    | succ k ih =>
      intro n hn hf he
      refine r_iload_n hJ dX2_rowFrom_2 rfl jg2 ?_
      refine r_aload_n hJ dX2_rowFrom_3 rfl jg0 ?_
      refine r_g2_4 hJ ho m56 dX2_rowFrom_4 ?_
      refine r_iconst hJ (v := nI 3) dX2_rowFrom_7 (by decide) ?_
      refine r_ialdO hJ (by omega) (alP1 ho (by omega)) rfl dX2_rowFrom_8 ?_
      refine r_icmp_ge hJ (tgt := 28) dX2_rowFrom_9 (by decide) (fun c9 => ?_) (fun c9 => ?_)
      · rw [hz] at c9
        exact absurd c9 (nI_ge (by omega) (by omega))
      · refine r_aload_n hJ dX2_rowFrom_12 rfl jg0 ?_
        refine r_g2_5 hJ ho m58 dX2_rowFrom_13 ?_
        refine r_iload_n hJ dX2_rowFrom_16 rfl jg2 ?_
        refine r_ialdO hJ (by omega) (alP2 ho (by omega)) rfl dX2_rowFrom_17 ?_
        refine r_iconst hJ (v := (-1)) dX2_rowFrom_18 (by decide) ?_
        refine r_icmp_ne hJ (tgt := 28) dX2_rowFrom_19 (by decide) (fun c19 => ?_) (fun c19 => ?_)
        · have he2 : n - f = rowP P z f := by rw [← he]; simp [row, frP, c19]
          refine r_iload_n hJ dX2_rowFrom_28 rfl jg2 ?_
          refine r_iload_n hJ dX2_rowFrom_29 rfl jg1 ?_
          refine r_isub hJ dX2_rowFrom_30 ?_
          exact ret_i hF dX2_rowFrom_31 (by rw [pk_sub (by omega)]; exact congrArg (fun q => some (Value.int (nI q))) (by omega)) rfl
        · refine r_iinc hJ dX2_rowFrom_22 jg2 (ii1 _) (jp2 rfl rfl) ?_
          refine r_goto hJ (tgt := 2) dX2_rowFrom_25 (by decide) ?_
          exact ih (n + 1) (by omega) (by omega) (by rw [← he]; simp [row, frP, c19]; omega)
  refine r_iload_n hJ dX2_rowFrom_0 rfl jg1 ?_
  refine r_istore_n hJ dX2_rowFrom_1 rfl (jp2 rfl rfl) ?_
  exact loop (z - f) f (by omega) (Nat.le_refl _) (by rw [Nat.sub_self, Nat.zero_add]; rfl)

set_option maxRecDepth 100000 in
set_option maxHeartbeats 1000000 in
theorem c2_lowestRow (l : Launch) (E : jE) (S : jS) (x : jX) (P : jO) {o : Nat} (ho : o < 8) {z : Nat} (hz : P 1 3 = nI z) (hz4 : z ≤ 64) (m : Int32) : Ct l E yX2_lowestRow cX2_lowestRow 3 (some .int) 2 [.ref (ad E o 0), .int m] (setO S o P, x) (some (.int (oI (lowR P z m)))) (setO S o P, x) := by
  refine Ct.of (by decide +kernel) (Nat.le_refl _) (Nat.le_of_ble_eq_true rfl) rfl (fun J hJ hF => ?_)
  have loop : ∀ k n : Nat, n + k = z → fnd (fun n => decide (m ≤ nI (rowP P z n))) k n = lowR P z m → J (setO S o P, x) 2 [some (.ref (ad E o 0)), some (.int m), some (.int (nI n))] [] := by
    intro k
    induction k with
    | zero =>
      intro n hn he
      obtain rfl : n = z := by omega
      refine r_iload_n hJ dX2_lowestRow_2 rfl jg2 ?_
      refine r_aload_n hJ dX2_lowestRow_3 rfl jg0 ?_
      refine r_g2_4 hJ ho m56 dX2_lowestRow_4 ?_
      refine r_iconst hJ (v := nI 3) dX2_lowestRow_7 (by decide) ?_
      refine r_ialdO hJ (by omega) (alP1 ho (by omega)) rfl dX2_lowestRow_8 ?_
      refine r_icmp_ge hJ (tgt := 29) dX2_lowestRow_9 (by decide) (fun c9 => ?_) (fun c9 => ?_)
      · refine r_iconst hJ (v := (-1)) dX2_lowestRow_29 (by decide) ?_
        exact ret_i hF dX2_lowestRow_30 (by rw [← he]; rfl) rfl
      · rw [hz] at c9
        exact absurd (nI_le (by omega) (by omega)) c9
    | succ k ih =>
      intro n hn he
      refine r_iload_n hJ dX2_lowestRow_2 rfl jg2 ?_
      refine r_aload_n hJ dX2_lowestRow_3 rfl jg0 ?_
      refine r_g2_4 hJ ho m56 dX2_lowestRow_4 ?_
      refine r_iconst hJ (v := nI 3) dX2_lowestRow_7 (by decide) ?_
      refine r_ialdO hJ (by omega) (alP1 ho (by omega)) rfl dX2_lowestRow_8 ?_
      refine r_icmp_ge hJ (tgt := 29) dX2_lowestRow_9 (by decide) (fun c9 => ?_) (fun c9 => ?_)
      · rw [hz] at c9
        exact absurd c9 (nI_ge (by omega) (by omega))
      · refine r_aload_n hJ dX2_lowestRow_12 rfl jg0 ?_
        refine r_iload_n hJ dX2_lowestRow_13 rfl jg2 ?_
        refine r_V1v hJ kX2_127 (rcv2 E ho) (c2_rowFrom l E S x P ho hz hz4 (f := n) (by omega)) dX2_lowestRow_14 ⟨by decide, by decide⟩ (Nat.le_of_ble_eq_true rfl) ?_
        refine r_iload_n hJ dX2_lowestRow_17 rfl jg1 ?_
        refine r_icmp_lt hJ (tgt := 23) dX2_lowestRow_18 (by decide) (fun c18 => ?_) (fun c18 => ?_)
        · refine r_iinc hJ dX2_lowestRow_23 jg2 (ii1 _) (jp2 rfl rfl) ?_
          refine r_goto hJ (tgt := 2) dX2_lowestRow_26 (by decide) ?_
          exact ih (n + 1) (by omega) (by rw [← he]; simp [fnd, Int32.not_le.mpr c18])
        · refine r_iload_n hJ dX2_lowestRow_21 rfl jg2 ?_
          exact ret_i hF dX2_lowestRow_22 (by rw [← he]; simp [fnd, Int32.not_lt.mp c18, oI]) rfl
  refine r_iconst hJ (v := nI 0) dX2_lowestRow_0 (by decide) ?_
  refine r_istore_n hJ dX2_lowestRow_1 rfl (jp2 rfl rfl) ?_
  exact loop z 0 (by omega) rfl

theorem bI_0 {b : Bool} : bI b = 0 ↔ b = false := by cases b <;> simp [bI]
theorem bI_0' {b : Bool} : bI b = nI 0 ↔ b = false := by cases b <;> simp [bI, nI0]
theorem lowR_lt {P : jO} {z : Nat} {m : Int32} {n : Nat} (h : lowR P z m = some n) : n < z ∧ m ≤ nI (rowP P z n) := by
  obtain ⟨-, h2, h3⟩ := fnd_lt h
  exact ⟨by omega, by simpa using h3⟩
theorem lowR_m1 {P : jO} {z : Nat} {m : Int32} (hz : z ≤ 64) : oI (lowR P z m) = -1 ↔ lowR P z m = none := oI_m1 fun n h => by have := (lowR_lt h).1; omega
set_option maxRecDepth 100000 in
set_option maxHeartbeats 1000000 in
theorem c2_mayLease (l : Launch) (E : jE) (S : jS) (x : jX) (P : jO) {o : Nat} (ho : o < 8) {z : Nat} (hz : P 1 3 = nI z) (hz4 : z ≤ 64) (h m : Int32) : Ct l E yX2_mayLease cX2_mayLease 3 (some .boolean) 3 [.ref (ad E o 0), .int h, .int m] (setO S o P, x) (some (.int (bI (hasR P h m && (lowR P z m).isSome)))) (setO S o P, x) := by
  refine Ct.of (by decide +kernel) (Nat.le_refl _) (Nat.le_of_ble_eq_true rfl) rfl (fun J hJ hF => ?_)
  refine r_aload_n hJ dX2_mayLease_0 rfl jg0 ?_
  refine r_iload_n hJ dX2_mayLease_1 rfl jg1 ?_
  refine r_iload_n hJ dX2_mayLease_2 rfl jg2 ?_
  refine r_V2v hJ kX2_77 (rcv2 E ho) (c2_hasRoom l E S x P ho h m) dX2_mayLease_3 ⟨by decide, by decide⟩ (Nat.le_of_ble_eq_true rfl) ?_
  refine r_if_eq hJ (tgt := 22) dX2_mayLease_6 (by decide) (fun c6 => ?_) (fun c6 => ?_)
  · rw [bI_0] at c6
    refine r_iconst hJ (v := nI 0) dX2_mayLease_22 (by decide) ?_
    exact ret_z hF dX2_mayLease_23 (by decide) (by simp [bI, nI0, nI1, *]) rfl
  · rw [bI_0] at c6
    refine r_aload_n hJ dX2_mayLease_9 rfl jg0 ?_
    refine r_iload_n hJ dX2_mayLease_10 rfl jg2 ?_
    refine r_V1v hJ kX2_81 (rcv2 E ho) (c2_lowestRow l E S x P ho hz hz4 m) dX2_mayLease_11 ⟨by decide, by decide⟩ (Nat.le_of_ble_eq_true rfl) ?_
    refine r_iconst hJ (v := (-1)) dX2_mayLease_14 (by decide) ?_
    refine r_icmp_eq hJ (tgt := 22) dX2_mayLease_15 (by decide) (fun c15 => ?_) (fun c15 => ?_)
    · rw [lowR_m1 hz4] at c15
      refine r_iconst hJ (v := nI 0) dX2_mayLease_22 (by decide) ?_
      exact ret_z hF dX2_mayLease_23 (by decide) (by simp [bI, nI0, nI1, *]) rfl
    · rw [lowR_m1 hz4] at c15
      have c15 := Option.isSome_iff_ne_none.mpr c15
      refine r_iconst hJ (v := nI 1) dX2_mayLease_18 (by decide) ?_
      refine r_goto hJ (tgt := 23) dX2_mayLease_19 (by decide) ?_
      exact ret_z hF dX2_mayLease_23 (by decide) (by simp [bI, nI0, nI1, *]) rfl

theorem ix1 (a b c : Nat) : nI a * nI b + nI c = nI (a * b + c) := by rw [pk_mul, nI_add]
set_option maxRecDepth 100000 in
set_option maxHeartbeats 1000000 in
theorem c2_placeOfWish (l : Launch) (E : jE) (S : jS) (x : jX) (P : jO) {o : Nat} (ho : o < 8) (h : Int32) {n : Nat} (hn : n < 64) {w : Nat} (hw3 : w ≤ 3) (hw : P 7 n = nI w) : Ct l E yX2_placeOfWish cX2_placeOfWish 4 (some .int) 1 [.ref (ad E o 0), .int h, .int (nI n)] (setO S o P, x) (some (.int (oI (placeW P h n)))) (setO S o P, x) := by
  refine Ct.of (by decide +kernel) (Nat.le_refl _) (Nat.le_of_ble_eq_true rfl) rfl (fun J hJ hF => ?_)
  have loop : ∀ k i : Nat, i + k = w → fnd (fun k => decide (P 8 (n * 3 + k) = h)) k i = placeW P h n → J (setO S o P, x) 2 [some (.ref (ad E o 0)), some (.int h), some (.int (nI n)), some (.int (nI i))] [] := by
    intro k
    induction k with
    | zero =>
      intro i hi he
      obtain rfl : i = w := by omega
      refine r_iload_n hJ dX2_placeOfWish_2 rfl jg3 ?_
      refine r_aload_n hJ dX2_placeOfWish_3 rfl jg0 ?_
      refine r_g2_10 hJ ho m64 dX2_placeOfWish_4 ?_
      refine r_iload_n hJ dX2_placeOfWish_7 rfl jg2 ?_
      refine r_ialdO hJ (by omega) (alP7 ho (by omega)) rfl dX2_placeOfWish_8 ?_
      refine r_icmp_ge hJ (tgt := 34) dX2_placeOfWish_9 (by decide) (fun c9 => ?_) (fun c9 => ?_)
      · refine r_iconst hJ (v := (-1)) dX2_placeOfWish_34 (by decide) ?_
        exact ret_i hF dX2_placeOfWish_35 (by rw [← he]; rfl) rfl
      · rw [hw] at c9
        exact absurd (nI_le (by omega) (by omega)) c9
    | succ k ih =>
      intro i hi he
      refine r_iload_n hJ dX2_placeOfWish_2 rfl jg3 ?_
      refine r_aload_n hJ dX2_placeOfWish_3 rfl jg0 ?_
      refine r_g2_10 hJ ho m64 dX2_placeOfWish_4 ?_
      refine r_iload_n hJ dX2_placeOfWish_7 rfl jg2 ?_
      refine r_ialdO hJ (by omega) (alP7 ho (by omega)) rfl dX2_placeOfWish_8 ?_
      refine r_icmp_ge hJ (tgt := 34) dX2_placeOfWish_9 (by decide) (fun c9 => ?_) (fun c9 => ?_)
      · rw [hw] at c9
        exact absurd c9 (nI_ge (by omega) (by omega))
      · refine r_aload_n hJ dX2_placeOfWish_12 rfl jg0 ?_
        refine r_g2_11 hJ ho m66 dX2_placeOfWish_13 ?_
        refine r_iload_n hJ dX2_placeOfWish_16 rfl jg2 ?_
        refine r_iconst hJ (v := nI 3) dX2_placeOfWish_17 (by decide) ?_
        refine r_imul hJ dX2_placeOfWish_18 ?_
        refine r_iload_n hJ dX2_placeOfWish_19 rfl jg3 ?_
        refine r_iadd hJ dX2_placeOfWish_20 ?_
        refine r_ialdO hJ (by omega) (alP8 ho (by omega)) (ix1 _ _ _) dX2_placeOfWish_21 ?_
        refine r_iload_n hJ dX2_placeOfWish_22 rfl jg1 ?_
        refine r_icmp_ne hJ (tgt := 28) dX2_placeOfWish_23 (by decide) (fun c23 => ?_) (fun c23 => ?_)
        · refine r_iinc hJ dX2_placeOfWish_28 jg3 (ii1 _) (jp3 rfl rfl) ?_
          refine r_goto hJ (tgt := 2) dX2_placeOfWish_31 (by decide) ?_
          exact ih (i + 1) (by omega) (by rw [← he]; simp [fnd, c23])
        · refine r_iload_n hJ dX2_placeOfWish_26 rfl jg3 ?_
          exact ret_i hF dX2_placeOfWish_27 (by rw [← he]; simp [fnd, c23, oI]) rfl
  refine r_iconst hJ (v := nI 0) dX2_placeOfWish_0 (by decide) ?_
  refine r_istore_n hJ dX2_placeOfWish_1 rfl (jp3 rfl rfl) ?_
  exact loop w 0 (by omega) (by unfold placeW; rw [hw, toN_nI (by omega)])

theorem placeW_m1 {P : jO} {h : Int32} {n w : Nat} (hw3 : w ≤ 3) (hw : P 7 n = nI w) : oI (placeW P h n) = -1 ↔ placeW P h n = none := oI_m1 fun i hi => by
  unfold placeW at hi
  rw [hw, toN_nI (by omega)] at hi
  have := (fnd_lt hi).2.1
  omega
set_option maxRecDepth 100000 in
set_option maxHeartbeats 1000000 in
theorem c2_mayWish (l : Launch) (E : jE) (S : jS) (x : jX) (P : jO) {o : Nat} (ho : o < 8) (h : Int32) {n : Nat} (hn : n < 64) {w : Nat} (hw3 : w ≤ 3) (hw : P 7 n = nI w) : Ct l E yX2_mayWish cX2_mayWish 3 (some .boolean) 3 [.ref (ad E o 0), .int h, .int (nI n)] (setO S o P, x) (some (.int (bI (mayW P h n)))) (setO S o P, x) := by
  refine Ct.of (by decide +kernel) (Nat.le_refl _) (Nat.le_of_ble_eq_true rfl) rfl (fun J hJ hF => ?_)
  refine r_aload_n hJ dX2_mayWish_0 rfl jg0 ?_
  refine r_g2_5 hJ ho m58 dX2_mayWish_1 ?_
  refine r_iload_n hJ dX2_mayWish_4 rfl jg2 ?_
  refine r_ialdO hJ (by omega) (alP2 ho (by omega)) rfl dX2_mayWish_5 ?_
  refine r_iconst hJ (v := (-1)) dX2_mayWish_6 (by decide) ?_
  refine r_icmp_ne hJ (tgt := 17) dX2_mayWish_7 (by decide) (fun c7 => ?_) (fun c7 => ?_)
  · refine r_aload_n hJ dX2_mayWish_17 rfl jg0 ?_
    refine r_g2_10 hJ ho m64 dX2_mayWish_18 ?_
    refine r_iload_n hJ dX2_mayWish_21 rfl jg2 ?_
    refine r_ialdO hJ (by omega) (alP7 ho (by omega)) rfl dX2_mayWish_22 ?_
    refine r_iconst hJ (v := nI 3) dX2_mayWish_23 (by decide) ?_
    refine r_icmp_ge hJ (tgt := 51) dX2_mayWish_24 (by decide) (fun c24 => ?_) (fun c24 => ?_)
    · refine r_iconst hJ (v := nI 0) dX2_mayWish_51 (by decide) ?_
      exact ret_z hF dX2_mayWish_52 (by decide) (by simp [mayW, bI, nI0, nI1, c7, c24]) rfl
    · refine r_aload_n hJ dX2_mayWish_27 rfl jg0 ?_
      refine r_g2_5 hJ ho m58 dX2_mayWish_28 ?_
      refine r_iload_n hJ dX2_mayWish_31 rfl jg2 ?_
      refine r_ialdO hJ (by omega) (alP2 ho (by omega)) rfl dX2_mayWish_32 ?_
      refine r_iload_n hJ dX2_mayWish_33 rfl jg1 ?_
      refine r_icmp_eq hJ (tgt := 51) dX2_mayWish_34 (by decide) (fun c34 => ?_) (fun c34 => ?_)
      · rw [c34] at c7
        refine r_iconst hJ (v := nI 0) dX2_mayWish_51 (by decide) ?_
        exact ret_z hF dX2_mayWish_52 (by decide) (by simp [mayW, bI, nI0, nI1, c7, c24, c34]) rfl
      · refine r_aload_n hJ dX2_mayWish_37 rfl jg0 ?_
        refine r_iload_n hJ dX2_mayWish_38 rfl jg1 ?_
        refine r_iload_n hJ dX2_mayWish_39 rfl jg2 ?_
        refine r_V2v hJ kX2_85 (rcv2 E ho) (c2_placeOfWish l E S x P ho h hn hw3 hw) dX2_mayWish_40 ⟨by decide, by decide⟩ (Nat.le_of_ble_eq_true rfl) ?_
        refine r_iconst hJ (v := (-1)) dX2_mayWish_43 (by decide) ?_
        refine r_icmp_ne hJ (tgt := 51) dX2_mayWish_44 (by decide) (fun c44 => ?_) (fun c44 => ?_)
        · rw [placeW_m1 hw3 hw] at c44
          have c44 := Option.isNone_eq_false_iff.mpr (Option.isSome_iff_ne_none.mpr c44)
          refine r_iconst hJ (v := nI 0) dX2_mayWish_51 (by decide) ?_
          exact ret_z hF dX2_mayWish_52 (by decide) (by simp [mayW, bI, nI0, nI1, c7, c24, c34, c44]) rfl
        · rw [placeW_m1 hw3 hw] at c44
          refine r_iconst hJ (v := nI 1) dX2_mayWish_47 (by decide) ?_
          refine r_goto hJ (tgt := 52) dX2_mayWish_48 (by decide) ?_
          exact ret_z hF dX2_mayWish_52 (by decide) (by simp [mayW, bI, nI0, nI1, c7, c24, c34, c44]) rfl
  · refine r_aload_n hJ dX2_mayWish_10 rfl jg0 ?_
    refine r_iload_n hJ dX2_mayWish_11 rfl jg1 ?_
    refine r_iconst hJ (v := nI 1) dX2_mayWish_12 (by decide) ?_
    refine r_V2v hJ kX2_77 (rcv2 E ho) (c2_hasRoom l E S x P ho h (nI 1)) dX2_mayWish_13 ⟨by decide, by decide⟩ (Nat.le_of_ble_eq_true rfl) ?_
    exact ret_z hF dX2_mayWish_16 (bI_nar _).1 (by simp [mayW, c7]) rfl

set_option maxRecDepth 100000 in
set_option maxHeartbeats 1000000 in
theorem c2_mayRenew (l : Launch) (E : jE) (S : jS) (x : jX) (P : jO) {o : Nat} (ho : o < 8) (h : Int32) {n : Nat} (hn : n < 64) : Ct l E yX2_mayRenew cX2_mayRenew 3 (some .boolean) 1 [.ref (ad E o 0), .int h, .int (nI n)] (setO S o P, x) (some (.int (bI (decide (P 2 n = h) && (decide (P 1 2 = 0) || decide (P 7 n = 0)))))) (setO S o P, x) := by
  refine Ct.of (by decide +kernel) (Nat.le_refl _) (Nat.le_of_ble_eq_true rfl) rfl (fun J hJ hF => ?_)
  refine r_aload_n hJ dX2_mayRenew_0 rfl jg0 ?_
  refine r_g2_5 hJ ho m58 dX2_mayRenew_1 ?_
  refine r_iload_n hJ dX2_mayRenew_4 rfl jg2 ?_
  refine r_ialdO hJ (by omega) (alP2 ho (by omega)) rfl dX2_mayRenew_5 ?_
  refine r_iload_n hJ dX2_mayRenew_6 rfl jg1 ?_
  refine r_icmp_ne hJ (tgt := 32) dX2_mayRenew_7 (by decide) (fun c7 => ?_) (fun c7 => ?_)
  · refine r_iconst hJ (v := nI 0) dX2_mayRenew_32 (by decide) ?_
    exact ret_z hF dX2_mayRenew_33 (by decide) (by simp [bI, nI0, nI1, *]) rfl
  · refine r_aload_n hJ dX2_mayRenew_10 rfl jg0 ?_
    refine r_g2_4 hJ ho m56 dX2_mayRenew_11 ?_
    refine r_iconst hJ (v := nI 2) dX2_mayRenew_14 (by decide) ?_
    refine r_ialdO hJ (by omega) (alP1 ho (by omega)) rfl dX2_mayRenew_15 ?_
    refine r_if_eq hJ (tgt := 28) dX2_mayRenew_16 (by decide) (fun c16 => ?_) (fun c16 => ?_)
    · refine r_iconst hJ (v := nI 1) dX2_mayRenew_28 (by decide) ?_
      refine r_goto hJ (tgt := 33) dX2_mayRenew_29 (by decide) ?_
      exact ret_z hF dX2_mayRenew_33 (by decide) (by simp [bI, nI0, nI1, *]) rfl
    · refine r_aload_n hJ dX2_mayRenew_19 rfl jg0 ?_
      refine r_g2_10 hJ ho m64 dX2_mayRenew_20 ?_
      refine r_iload_n hJ dX2_mayRenew_23 rfl jg2 ?_
      refine r_ialdO hJ (by omega) (alP7 ho (by omega)) rfl dX2_mayRenew_24 ?_
      refine r_if_ne hJ (tgt := 32) dX2_mayRenew_25 (by decide) (fun c25 => ?_) (fun c25 => ?_)
      · refine r_iconst hJ (v := nI 0) dX2_mayRenew_32 (by decide) ?_
        exact ret_z hF dX2_mayRenew_33 (by decide) (by simp [bI, nI0, nI1, *]) rfl
      · refine r_iconst hJ (v := nI 1) dX2_mayRenew_28 (by decide) ?_
        refine r_goto hJ (tgt := 33) dX2_mayRenew_29 (by decide) ?_
        exact ret_z hF dX2_mayRenew_33 (by decide) (by simp [bI, nI0, nI1, *]) rfl

set_option maxRecDepth 100000 in
set_option maxHeartbeats 1000000 in
theorem c2_lease (l : Launch) (E : jE) (S : jS) (x : jX) (P : jO) {o : Nat} (ho : o < 8) {h n : Nat} (hh : h < 8) (hn : n < 64) (t : Int32) : Ct l E yX2_lease cX2_lease 4 none 1 [.ref (ad E o 0), .int (nI h), .int (nI n), .int t] (setO S o P, x) none (setO S o (leaseP P h n t), x) := by
  refine Ct.of (by decide +kernel) (Nat.le_refl _) (Nat.le_of_ble_eq_true rfl) rfl (fun J hJ hF => ?_)
  refine r_aload_n hJ dX2_lease_0 rfl jg0 ?_
  refine r_g2_5 hJ ho m58 dX2_lease_1 ?_
  refine r_iload_n hJ dX2_lease_4 rfl jg2 ?_
  refine r_iload_n hJ dX2_lease_5 rfl jg1 ?_
  refine r_iast hJ (by omega) (alP2 ho (by omega)) rfl dX2_lease_6 ?_
  refine r_aload_n hJ dX2_lease_7 rfl jg0 ?_
  refine r_g2_6 hJ ho m60 dX2_lease_8 ?_
  refine r_iload_n hJ dX2_lease_11 rfl jg2 ?_
  refine r_aload_n hJ dX2_lease_12 rfl jg0 ?_
  refine r_g2_0O hJ ho m51 dX2_lease_13 ?_
  refine r_iast hJ (by omega) (alP3 ho (by omega)) rfl dX2_lease_16 ?_
  refine r_aload_n hJ dX2_lease_17 rfl jg0 ?_
  refine r_g2_7 hJ ho m61 dX2_lease_18 ?_
  refine r_iload_n hJ dX2_lease_21 rfl jg2 ?_
  refine r_aload_n hJ dX2_lease_22 rfl jg0 ?_
  refine r_g2_0O hJ ho m51 dX2_lease_23 ?_
  refine r_iload_n hJ dX2_lease_26 rfl jg3 ?_
  refine r_iadd hJ dX2_lease_27 ?_
  refine r_iast hJ (by omega) (alP4 ho (by omega)) rfl dX2_lease_28 ?_
  refine r_aload_n hJ dX2_lease_29 rfl jg0 ?_
  refine r_g2_8 hJ ho m62 dX2_lease_30 ?_
  refine r_iload_n hJ dX2_lease_33 rfl jg2 ?_
  refine r_aload_n hJ dX2_lease_34 rfl jg0 ?_
  refine r_g2_7 hJ ho m61 dX2_lease_35 ?_
  refine r_iload_n hJ dX2_lease_38 rfl jg2 ?_
  refine r_ialdO hJ (by omega) (alP4 ho (by omega)) rfl dX2_lease_39 ?_
  refine r_aload_n hJ dX2_lease_40 rfl jg0 ?_
  refine r_g2_4 hJ ho m56 dX2_lease_41 ?_
  refine r_iconst hJ (v := nI 0) dX2_lease_44 (by decide) ?_
  refine r_ialdO hJ (by omega) (alP1 ho (by omega)) rfl dX2_lease_45 ?_
  refine r_iadd hJ dX2_lease_46 ?_
  refine r_iast hJ (by omega) (alP5 ho (by omega)) rfl dX2_lease_47 ?_
  refine r_aload_n hJ dX2_lease_48 rfl jg0 ?_
  refine r_g2_9 hJ ho m63 dX2_lease_49 ?_
  refine r_iload_n hJ dX2_lease_52 rfl jg2 ?_
  refine r_dup2_11 hJ dX2_lease_53 rfl rfl ?_
  refine r_ialdO hJ (by omega) (alP6 ho (by omega)) rfl dX2_lease_54 ?_
  refine r_iconst hJ (v := nI 1) dX2_lease_55 (by decide) ?_
  refine r_iadd hJ dX2_lease_56 ?_
  refine r_iast hJ (by omega) (alP6 ho (by omega)) rfl dX2_lease_57 ?_
  refine r_aload_n hJ dX2_lease_58 rfl jg0 ?_
  refine r_g2_13 hJ ho m68 dX2_lease_59 ?_
  refine r_iload_n hJ dX2_lease_62 rfl jg1 ?_
  refine r_dup2_11 hJ dX2_lease_63 rfl rfl ?_
  refine r_ialdO hJ (by omega) (alP10 ho (by omega)) rfl dX2_lease_64 ?_
  refine r_iconst hJ (v := nI 1) dX2_lease_65 (by decide) ?_
  refine r_iadd hJ dX2_lease_66 ?_
  refine r_iast hJ (by omega) (alP10 ho (by omega)) rfl dX2_lease_67 ?_
  exact ret_v hF dX2_lease_68 rfl rfl

def leaseRowP (P : jO) (z h m : Nat) (t : Int32) : jO := match lowR P z (nI m) with
  | none => P
  | some f => leaseN h t m f P
theorem row_app (P : jO) (h n : Nat) (t : Int32) : leaseP P h n t 1 = P 1 := by
  funext i
  simp [leaseP_app]
set_option maxRecDepth 100000 in
set_option maxHeartbeats 1000000 in
theorem c2_leaseRow (l : Launch) (E : jE) (S : jS) (x : jX) (P : jO) {o : Nat} (ho : o < 8) {z : Nat} (hz : P 1 3 = nI z) (hz4 : z ≤ 64) {h m : Nat} (hh : h < 8) (hm : m < 2 ^ 31) (t : Int32) : Ct l E yX2_leaseRow cX2_leaseRow 6 (some .int) 3 [.ref (ad E o 0), .int (nI h), .int (nI m), .int t] (setO S o P, x) (some (.int (oI (lowR P z (nI m))))) (setO S o (leaseRowP P z h m t), x) := by
  refine Ct.of (by decide +kernel) (Nat.le_refl _) (Nat.le_of_ble_eq_true rfl) rfl (fun J hJ hF => ?_)
  have tail2 : ¬ lowR P z (nI m) = none → J (setO S o P, x) 15 [some (.ref (ad E o 0)), some (.int (nI h)), some (.int (nI m)), some (.int t), some (.int (oI (lowR P z (nI m)))), none] [] := by
    intro hne
    obtain ⟨f, ef⟩ := Option.ne_none_iff_exists'.mp hne
    obtain ⟨hf1, hf2⟩ := lowR_lt ef
    have hr := row_le (frP P) (z - f) f
    have hr2 : rowP P z f = row (frP P) (z - f) f := rfl
    rw [nI_leI (by omega) (by omega)] at hf2
    rw [ef]
    have loop : ∀ (k n : Nat) (P' : jO), n + k = f + m → leaseN h t k n P' = leaseN h t m f P → J (setO S o P', x) 19 [some (.ref (ad E o 0)), some (.int (nI h)), some (.int (nI m)), some (.int t), some (.int (nI f)), some (.int (nI n))] [] := by
      intro k
      induction k with
      | zero =>
        intro n P' hn he
        obtain rfl : n = f + m := by omega
        refine r_iload hJ dX2_leaseRow_19 jg5 ?_
        refine r_iload hJ dX2_leaseRow_21 jg4 ?_
        refine r_iload_n hJ dX2_leaseRow_23 rfl jg2 ?_
        refine r_iadd hJ dX2_leaseRow_24 ?_
        rw [nI_add]
        refine r_icmp_ge hJ (tgt := 42) dX2_leaseRow_25 (by decide) (fun c25 => ?_) (fun c25 => ?_)
        · refine r_iload hJ dX2_leaseRow_42 jg4 ?_
          exact ret_i hF dX2_leaseRow_44 (by rw [ef]; rfl) (by unfold leaseRowP; rw [ef]; show (setO S o (leaseN h t m f P), x) = _; rw [← he]; rfl)
        · exact absurd (nI_le (by omega) (by omega)) c25
      | succ k ih =>
        intro n P' hn he
        refine r_iload hJ dX2_leaseRow_19 jg5 ?_
        refine r_iload hJ dX2_leaseRow_21 jg4 ?_
        refine r_iload_n hJ dX2_leaseRow_23 rfl jg2 ?_
        refine r_iadd hJ dX2_leaseRow_24 ?_
        rw [nI_add]
        refine r_icmp_ge hJ (tgt := 42) dX2_leaseRow_25 (by decide) (fun c25 => ?_) (fun c25 => ?_)
        · exact absurd c25 (nI_ge (by omega) (by omega))
        · refine r_aload_n hJ dX2_leaseRow_28 rfl jg0 ?_
          refine r_iload_n hJ dX2_leaseRow_29 rfl jg1 ?_
          refine r_iload hJ dX2_leaseRow_30 jg5 ?_
          refine r_iload_n hJ dX2_leaseRow_32 rfl jg3 ?_
          refine r_V3u hJ kX2_91 (rcv2 E ho) (c2_lease l E S x P' ho hh (n := n) (by omega) t) dX2_leaseRow_33 ⟨by decide, by decide⟩ (Nat.le_of_ble_eq_true rfl) ?_
          refine r_iinc hJ dX2_leaseRow_36 jg5 (ii1 _) (jp5 rfl rfl) ?_
          refine r_goto hJ (tgt := 19) dX2_leaseRow_39 (by decide) ?_
          exact ih (n + 1) _ (by omega) he
    refine r_iload hJ dX2_leaseRow_15 jg4 ?_
    refine r_istore hJ dX2_leaseRow_17 (jp5 rfl rfl) ?_
    exact loop m f P rfl rfl
  have tail : J (setO S o P, x) 7 [some (.ref (ad E o 0)), some (.int (nI h)), some (.int (nI m)), some (.int t), some (.int (oI (lowR P z (nI m)))), none] [] := by
    refine r_iload hJ dX2_leaseRow_7 jg4 ?_
    refine r_iconst hJ (v := (-1)) dX2_leaseRow_9 (by decide) ?_
    refine r_icmp_ne hJ (tgt := 15) dX2_leaseRow_10 (by decide) (fun c10 => ?_) (fun c10 => ?_)
    · exact tail2 ((not_congr (lowR_m1 hz4)).mp c10)
    · rw [lowR_m1 hz4] at c10
      refine r_iconst hJ (v := (-1)) dX2_leaseRow_13 (by decide) ?_
      exact ret_i hF dX2_leaseRow_14 (by rw [c10]; rfl) (by unfold leaseRowP; rw [c10])
  refine r_aload_n hJ dX2_leaseRow_0 rfl jg0 ?_
  refine r_iload_n hJ dX2_leaseRow_1 rfl jg2 ?_
  refine r_V1v hJ kX2_81 (rcv2 E ho) (c2_lowestRow l E S x P ho hz hz4 (nI m)) dX2_leaseRow_2 ⟨by decide, by decide⟩ (Nat.le_of_ble_eq_true rfl) ?_
  refine r_istore hJ dX2_leaseRow_5 (jp4 rfl rfl) ?_
  exact tail

set_option maxRecDepth 100000 in
set_option maxHeartbeats 1000000 in
theorem c2_stateOf (l : Launch) (E : jE) (S : jS) (x : jX) (P : jO) {o : Nat} (ho : o < 8) {n : Nat} (hn : n < 64) : Ct l E yX2_stateOf cX2_stateOf 2 (some .int) 1 [.ref (ad E o 0), .int (nI n)] (setO S o P, x) (some (.int (stg P n))) (setO S o P, x) := by
  refine Ct.of (by decide +kernel) (Nat.le_refl _) (Nat.le_of_ble_eq_true rfl) rfl (fun J hJ hF => ?_)
  refine r_aload_n hJ dX2_stateOf_0 rfl jg0 ?_
  refine r_g2_5 hJ ho m58 dX2_stateOf_1 ?_
  refine r_iload_n hJ dX2_stateOf_4 rfl jg1 ?_
  refine r_ialdO hJ (by omega) (alP2 ho (by omega)) rfl dX2_stateOf_5 ?_
  refine r_iconst hJ (v := (-1)) dX2_stateOf_6 (by decide) ?_
  refine r_icmp_ne hJ (tgt := 12) dX2_stateOf_7 (by decide) (fun c7 => ?_) (fun c7 => ?_)
  · refine r_aload_n hJ dX2_stateOf_12 rfl jg0 ?_
    refine r_g2_0O hJ ho m51 dX2_stateOf_13 ?_
    refine r_aload_n hJ dX2_stateOf_16 rfl jg0 ?_
    refine r_g2_7 hJ ho m61 dX2_stateOf_17 ?_
    refine r_iload_n hJ dX2_stateOf_20 rfl jg1 ?_
    refine r_ialdO hJ (by omega) (alP4 ho (by omega)) rfl dX2_stateOf_21 ?_
    refine r_icmp_ge hJ (tgt := 29) dX2_stateOf_22 (by decide) (fun c22 => ?_) (fun c22 => ?_)
    · have c22 := Int32.not_lt.mpr c22
      refine r_iconst hJ (v := nI 2) dX2_stateOf_29 (by decide) ?_
      first | exact ret_i hF dX2_stateOf_30 (by simp [stg, *]; rfl) rfl | exact ret_i hF dX2_stateOf_30 (by simp [stg, nI0, nI1, *]) rfl
    · have c22 := Int32.not_le.mp c22
      refine r_iconst hJ (v := nI 1) dX2_stateOf_25 (by decide) ?_
      refine r_goto hJ (tgt := 30) dX2_stateOf_26 (by decide) ?_
      first | exact ret_i hF dX2_stateOf_30 (by simp [stg, *]; rfl) rfl | exact ret_i hF dX2_stateOf_30 (by simp [stg, nI0, nI1, *]) rfl
  · refine r_iconst hJ (v := nI 0) dX2_stateOf_10 (by decide) ?_
    exact ret_i hF dX2_stateOf_11 (by simp [stg, nI0, nI1, Int32.not_lt.mpr, *]) rfl
end
section
def prolP (P : jO) (n : Nat) (t : Int32) : jO :=
  let P1 := put P 0 1 (P 0 1 + nI 1)
  let P2 := if stg P1 n = nI 2 then put P1 0 2 (P1 0 2 + nI 1) else P1
  let P3 := put P2 4 n (P2 0 0 + t)
  put P3 5 n (P3 4 n + P3 1 0)
set_option maxRecDepth 100000 in
set_option maxHeartbeats 1000000 in
theorem c2_prolong (l : Launch) (E : jE) (S : jS) (x : jX) (P : jO) {o : Nat} (ho : o < 8) {n : Nat} (hn : n < 64) (t : Int32) : Ct l E yX2_prolong cX2_prolong 4 (some .int) 2 [.ref (ad E o 0), .int (nI n), .int t] (setO S o P, x) (some (.int (P 4 n))) (setO S o (prolP P n t), x) := by
  refine Ct.of (by decide +kernel) (Nat.le_refl _) (Nat.le_of_ble_eq_true rfl) rfl (fun J hJ hF => ?_)
  refine r_aload_n hJ dX2_prolong_0 rfl jg0 ?_
  refine r_g2_7 hJ ho m61 dX2_prolong_1 ?_
  refine r_iload_n hJ dX2_prolong_4 rfl jg1 ?_
  refine r_ialdO hJ (by omega) (alP4 ho (by omega)) rfl dX2_prolong_5 ?_
  refine r_istore_n hJ dX2_prolong_6 rfl (jp3 rfl rfl) ?_
  refine r_aload_n hJ dX2_prolong_7 rfl jg0 ?_
  refine r_dup hJ dX2_prolong_8 rfl ?_
  refine r_g2_1O hJ ho m53 dX2_prolong_9 ?_
  refine r_iconst hJ (v := nI 1) dX2_prolong_12 (by decide) ?_
  refine r_iadd hJ dX2_prolong_13 ?_
  refine r_p2_1 hJ ho m53 dX2_prolong_14 ?_
  refine r_aload_n hJ dX2_prolong_17 rfl jg0 ?_
  refine r_iload_n hJ dX2_prolong_18 rfl jg1 ?_
  refine r_V1v hJ kX2_95 (rcv2 E ho) (c2_stateOf l E S x _ ho hn) dX2_prolong_19 ⟨by decide, by decide⟩ (Nat.le_of_ble_eq_true rfl) ?_
  refine r_iconst hJ (v := nI 2) dX2_prolong_22 (by decide) ?_
  refine r_icmp_ne hJ (tgt := 36) dX2_prolong_23 (by decide) (fun c23 => ?_) (fun c23 => ?_)
  · refine r_aload_n hJ dX2_prolong_36 rfl jg0 ?_
    refine r_g2_7 hJ ho m61 dX2_prolong_37 ?_
    refine r_iload_n hJ dX2_prolong_40 rfl jg1 ?_
    refine r_aload_n hJ dX2_prolong_41 rfl jg0 ?_
    refine r_g2_0O hJ ho m51 dX2_prolong_42 ?_
    refine r_iload_n hJ dX2_prolong_45 rfl jg2 ?_
    refine r_iadd hJ dX2_prolong_46 ?_
    refine r_iast hJ (by omega) (alP4 ho (by omega)) rfl dX2_prolong_47 ?_
    refine r_aload_n hJ dX2_prolong_48 rfl jg0 ?_
    refine r_g2_8 hJ ho m62 dX2_prolong_49 ?_
    refine r_iload_n hJ dX2_prolong_52 rfl jg1 ?_
    refine r_aload_n hJ dX2_prolong_53 rfl jg0 ?_
    refine r_g2_7 hJ ho m61 dX2_prolong_54 ?_
    refine r_iload_n hJ dX2_prolong_57 rfl jg1 ?_
    refine r_ialdO hJ (by omega) (alP4 ho (by omega)) rfl dX2_prolong_58 ?_
    refine r_aload_n hJ dX2_prolong_59 rfl jg0 ?_
    refine r_g2_4 hJ ho m56 dX2_prolong_60 ?_
    refine r_iconst hJ (v := nI 0) dX2_prolong_63 (by decide) ?_
    refine r_ialdO hJ (by omega) (alP1 ho (by omega)) rfl dX2_prolong_64 ?_
    refine r_iadd hJ dX2_prolong_65 ?_
    refine r_iast hJ (by omega) (alP5 ho (by omega)) rfl dX2_prolong_66 ?_
    refine r_iload_n hJ dX2_prolong_67 rfl jg3 ?_
    exact ret_i hF dX2_prolong_68 rfl (by simp only [prolP, c23, if_true, if_false])
  · refine r_aload_n hJ dX2_prolong_26 rfl jg0 ?_
    refine r_dup hJ dX2_prolong_27 rfl ?_
    refine r_g2_2O hJ ho m54 dX2_prolong_28 ?_
    refine r_iconst hJ (v := nI 1) dX2_prolong_31 (by decide) ?_
    refine r_iadd hJ dX2_prolong_32 ?_
    refine r_p2_2 hJ ho m54 dX2_prolong_33 ?_
    refine r_aload_n hJ dX2_prolong_36 rfl jg0 ?_
    refine r_g2_7 hJ ho m61 dX2_prolong_37 ?_
    refine r_iload_n hJ dX2_prolong_40 rfl jg1 ?_
    refine r_aload_n hJ dX2_prolong_41 rfl jg0 ?_
    refine r_g2_0O hJ ho m51 dX2_prolong_42 ?_
    refine r_iload_n hJ dX2_prolong_45 rfl jg2 ?_
    refine r_iadd hJ dX2_prolong_46 ?_
    refine r_iast hJ (by omega) (alP4 ho (by omega)) rfl dX2_prolong_47 ?_
    refine r_aload_n hJ dX2_prolong_48 rfl jg0 ?_
    refine r_g2_8 hJ ho m62 dX2_prolong_49 ?_
    refine r_iload_n hJ dX2_prolong_52 rfl jg1 ?_
    refine r_aload_n hJ dX2_prolong_53 rfl jg0 ?_
    refine r_g2_7 hJ ho m61 dX2_prolong_54 ?_
    refine r_iload_n hJ dX2_prolong_57 rfl jg1 ?_
    refine r_ialdO hJ (by omega) (alP4 ho (by omega)) rfl dX2_prolong_58 ?_
    refine r_aload_n hJ dX2_prolong_59 rfl jg0 ?_
    refine r_g2_4 hJ ho m56 dX2_prolong_60 ?_
    refine r_iconst hJ (v := nI 0) dX2_prolong_63 (by decide) ?_
    refine r_ialdO hJ (by omega) (alP1 ho (by omega)) rfl dX2_prolong_64 ?_
    refine r_iadd hJ dX2_prolong_65 ?_
    refine r_iast hJ (by omega) (alP5 ho (by omega)) rfl dX2_prolong_66 ?_
    refine r_iload_n hJ dX2_prolong_67 rfl jg3 ?_
    exact ret_i hF dX2_prolong_68 rfl (by simp only [prolP, c23, if_true, if_false])

set_option maxRecDepth 100000 in
set_option maxHeartbeats 1000000 in
theorem c2_dropWish (l : Launch) (E : jE) (S : jS) (x : jX) (P : jO) {o : Nat} (ho : o < 8) {n : Nat} (hn : n < 64) {w : Nat} (hw3 : w ≤ 3) (hw : P 7 n = nI w) {q : Nat} (hq : q < w) : Ct l E yX2_dropWish cX2_dropWish 5 none 1 [.ref (ad E o 0), .int (nI n), .int (nI q)] (setO S o P, x) none (setO S o (dropP P n q), x) := by
  refine Ct.of (by decide +kernel) (Nat.le_refl _) (Nat.le_of_ble_eq_true rfl) rfl (fun J hJ hF => ?_)
  have loop : ∀ (k i : Nat) (P' : jO) (v4 : Option Value), i + k = w - 1 → P' 7 n = nI w → shiftP n k i P' = shiftP n (w - 1 - q) q P → J (setO S o P', x) 2 [some (.ref (ad E o 0)), some (.int (nI n)), some (.int (nI q)), some (.int (nI i)), v4] [] := by
    intro k
    induction k with
    | zero =>
      intro i P' v4 hi hw' he
      obtain rfl : i = w - 1 := by omega
      refine r_iload_n hJ dX2_dropWish_2 rfl jg3 ?_
      refine r_aload_n hJ dX2_dropWish_3 rfl jg0 ?_
      refine r_g2_10 hJ ho m64 dX2_dropWish_4 ?_
      refine r_iload_n hJ dX2_dropWish_7 rfl jg1 ?_
      refine r_ialdO hJ (by omega) (alP7 ho (by omega)) rfl dX2_dropWish_8 ?_
      refine r_iconst hJ (v := nI 1) dX2_dropWish_9 (by decide) ?_
      refine r_isub hJ dX2_dropWish_10 ?_
      rw [hw', pk_sub (by omega)]
      refine r_icmp_ge hJ (tgt := 59) dX2_dropWish_11 (by decide) (fun c11 => ?_) (fun c11 => ?_)
      · refine r_aload_n hJ dX2_dropWish_59 rfl jg0 ?_
        refine r_g2_10 hJ ho m64 dX2_dropWish_60 ?_
        refine r_iload_n hJ dX2_dropWish_63 rfl jg1 ?_
        refine r_dup2_11 hJ dX2_dropWish_64 rfl rfl ?_
        refine r_ialdO hJ (by omega) (alP7 ho (by omega)) rfl dX2_dropWish_65 ?_
        refine r_iconst hJ (v := nI 1) dX2_dropWish_66 (by decide) ?_
        refine r_isub hJ dX2_dropWish_67 ?_
        refine r_iast hJ (by omega) (alP7 ho (by omega)) rfl dX2_dropWish_68 ?_
        exact ret_v hF dX2_dropWish_69 rfl (by unfold dropP; rw [hw, toN_nI (by omega), ← he]; rfl)
      · exact absurd (nI_le (by omega) (by omega)) c11
    | succ k ih =>
      intro i P' v4 hi hw' he
      refine r_iload_n hJ dX2_dropWish_2 rfl jg3 ?_
      refine r_aload_n hJ dX2_dropWish_3 rfl jg0 ?_
      refine r_g2_10 hJ ho m64 dX2_dropWish_4 ?_
      refine r_iload_n hJ dX2_dropWish_7 rfl jg1 ?_
      refine r_ialdO hJ (by omega) (alP7 ho (by omega)) rfl dX2_dropWish_8 ?_
      refine r_iconst hJ (v := nI 1) dX2_dropWish_9 (by decide) ?_
      refine r_isub hJ dX2_dropWish_10 ?_
      rw [hw', pk_sub (by omega)]
      refine r_icmp_ge hJ (tgt := 59) dX2_dropWish_11 (by decide) (fun c11 => ?_) (fun c11 => ?_)
      · exact absurd c11 (nI_ge (by omega) (by omega))
      · refine r_iload_n hJ dX2_dropWish_14 rfl jg1 ?_
        refine r_iconst hJ (v := nI 3) dX2_dropWish_15 (by decide) ?_
        refine r_imul hJ dX2_dropWish_16 ?_
        refine r_iload_n hJ dX2_dropWish_17 rfl jg3 ?_
        refine r_iadd hJ dX2_dropWish_18 ?_
        rw [ix1]
        refine r_istore hJ dX2_dropWish_19 (jp4 rfl rfl) ?_
        refine r_aload_n hJ dX2_dropWish_21 rfl jg0 ?_
        refine r_g2_11 hJ ho m66 dX2_dropWish_22 ?_
        refine r_iload hJ dX2_dropWish_25 jg4 ?_
        refine r_aload_n hJ dX2_dropWish_27 rfl jg0 ?_
        refine r_g2_11 hJ ho m66 dX2_dropWish_28 ?_
        refine r_iload hJ dX2_dropWish_31 jg4 ?_
        refine r_iconst hJ (v := nI 1) dX2_dropWish_33 (by decide) ?_
        refine r_iadd hJ dX2_dropWish_34 ?_
        rw [nI_add]
        refine r_ialdO hJ (by omega) (alP8 ho (by omega)) rfl dX2_dropWish_35 ?_
        refine r_iast hJ (by omega) (alP8 ho (by omega)) rfl dX2_dropWish_36 ?_
        refine r_aload_n hJ dX2_dropWish_37 rfl jg0 ?_
        refine r_g2_12 hJ ho m67 dX2_dropWish_38 ?_
        refine r_iload hJ dX2_dropWish_41 jg4 ?_
        refine r_aload_n hJ dX2_dropWish_43 rfl jg0 ?_
        refine r_g2_12 hJ ho m67 dX2_dropWish_44 ?_
        refine r_iload hJ dX2_dropWish_47 jg4 ?_
        refine r_iconst hJ (v := nI 1) dX2_dropWish_49 (by decide) ?_
        refine r_iadd hJ dX2_dropWish_50 ?_
        rw [nI_add]
        refine r_ialdO hJ (by omega) (alP9 ho (by omega)) rfl dX2_dropWish_51 ?_
        refine r_iast hJ (by omega) (alP9 ho (by omega)) rfl dX2_dropWish_52 ?_
        refine r_iinc hJ dX2_dropWish_53 jg3 (ii1 _) (jp3 rfl rfl) ?_
        refine r_goto hJ (tgt := 2) dX2_dropWish_56 (by decide) ?_
        exact ih (i + 1) _ _ (by omega) (by rw [put_ne (by decide), put_ne (by decide)]; exact hw') he
  refine r_iload_n hJ dX2_dropWish_0 rfl jg2 ?_
  refine r_istore_n hJ dX2_dropWish_1 rfl (jp3 rfl rfl) ?_
  exact loop (w - 1 - q) q P none (by omega) hw rfl

theorem hasR_1 (P : jO) (h : Int32) : (nI (cnt (fun n => decide (P 2 n = h)) 64) < P 1 1) ↔ nI (hasP P h) < P 1 1 := Iff.rfl
set_option maxRecDepth 100000 in
set_option maxHeartbeats 1000000 in
theorem c2_free (l : Launch) (E : jE) (S : jS) (x : jX) (P : jO) {o : Nat} (ho : o < 8) {n : Nat} (hn : n < 64) (hP : PI P) : Ct l E yX2_free cX2_free 5 none 2 [.ref (ad E o 0), .int (nI n)] (setO S o P, x) none (setO S o (freeP P n), x) := by
  refine Ct.of (by decide +kernel) (Nat.le_refl _) (Nat.le_of_ble_eq_true rfl) rfl (fun J hJ hF => ?_)
  have loop : ∀ (k i : Nat) (P' : jO) (v3 v4 : Option Value), i + k = 3 → PI P' → serve n k P' = freeP P n → nc2 v3 = true → J (setO S o P', x) 19 [some (.ref (ad E o 0)), some (.int (nI n)), some (.int (nI i)), v3, v4] [] := by
    intro k
    induction k with
    | zero =>
      intro i P' v3 v4 hi hP he h3
      obtain rfl : i = 3 := by omega
      refine r_iload_n hJ dX2_free_19 rfl jg2 ?_
      refine r_iconst hJ (v := nI 3) dX2_free_20 (by decide) ?_
      refine r_icmp_ge hJ (tgt := 109) dX2_free_21 (by decide) (fun c21 => ?_) (fun c21 => ?_)
      · exact ret_v hF dX2_free_109 rfl (by rw [← he]; rfl)
      · exact absurd (nI_le (by omega) (by omega)) c21
    | succ k ih =>
      intro i P' v3 v4 hi hP he h3
      refine r_iload_n hJ dX2_free_19 rfl jg2 ?_
      refine r_iconst hJ (v := nI 3) dX2_free_20 (by decide) ?_
      refine r_icmp_ge hJ (tgt := 109) dX2_free_21 (by decide) (fun c21 => ?_) (fun c21 => ?_)
      · exact absurd c21 (nI_ge (by omega) (by omega))
      · refine r_aload_n hJ dX2_free_24 rfl jg0 ?_
        refine r_g2_5 hJ ho m58 dX2_free_25 ?_
        refine r_iload_n hJ dX2_free_28 rfl jg1 ?_
        refine r_ialdO hJ (by omega) (alP2 ho (by omega)) rfl dX2_free_29 ?_
        refine r_iconst hJ (v := (-1)) dX2_free_30 (by decide) ?_
        refine r_icmp_ne hJ (tgt := 109) dX2_free_31 (by decide) (fun c31 => ?_) (fun c31 => ?_)
        · have c31 := c31
          exact ret_v hF dX2_free_109 rfl (by rw [← he, serve, if_neg (by simp [c21, c31])])
        · refine r_aload_n hJ dX2_free_34 rfl jg0 ?_
          refine r_g2_10 hJ ho m64 dX2_free_35 ?_
          refine r_iload_n hJ dX2_free_38 rfl jg1 ?_
          refine r_ialdO hJ (by omega) (alP7 ho (by omega)) rfl dX2_free_39 ?_
          refine r_if_le hJ (tgt := 109) dX2_free_40 (by decide) (fun c40 => ?_) (fun c40 => ?_)
          · have c40 := Int32.not_lt.mpr c40
            exact ret_v hF dX2_free_109 rfl (by rw [← he, serve, if_neg (by simp [c21, c31, c40])])
          · have c40 := Int32.not_le.mp c40
            obtain ⟨g1, g2, g3, g4, g5⟩ := PI_pos hP hn c40
            have hs : serve n (k + 1) P' = serve n k (serveS P' n) := by rw [serve, if_pos ⟨c31, c40⟩]
            have hPs := PI_serveS hn hP c40
            rw [hs] at he
            refine r_aload_n hJ dX2_free_43 rfl jg0 ?_
            refine r_g2_11 hJ ho m66 dX2_free_44 ?_
            refine r_iload_n hJ dX2_free_47 rfl jg1 ?_
            refine r_iconst hJ (v := nI 3) dX2_free_48 (by decide) ?_
            refine r_imul hJ dX2_free_49 ?_
            refine r_ialdO hJ (by omega) (alP8 ho (by omega)) (pk_mul n 3) dX2_free_50 ?_
            refine r_istore_n hJ dX2_free_51 rfl (jp3 rfl rfl) ?_
            refine r_aload_n hJ dX2_free_52 rfl jg0 ?_
            refine r_g2_12 hJ ho m67 dX2_free_53 ?_
            refine r_iload_n hJ dX2_free_56 rfl jg1 ?_
            refine r_iconst hJ (v := nI 3) dX2_free_57 (by decide) ?_
            refine r_imul hJ dX2_free_58 ?_
            refine r_ialdO hJ (by omega) (alP9 ho (by omega)) (pk_mul n 3) dX2_free_59 ?_
            refine r_istore hJ dX2_free_60 (jp4 rfl rfl) ?_
            refine r_aload_n hJ dX2_free_62 rfl jg0 ?_
            refine r_iload_n hJ dX2_free_63 rfl jg1 ?_
            refine r_iconst hJ (v := nI 0) dX2_free_64 (by decide) ?_
            refine r_V2u hJ kX2_102 (rcv2 E ho) (c2_dropWish l E S x P' ho hn g2 g3 (q := 0) g1) dX2_free_65 ⟨by decide, by decide⟩ (Nat.le_of_ble_eq_true rfl) ?_
            refine r_aload_n hJ dX2_free_68 rfl jg0 ?_
            refine r_iload_n hJ dX2_free_69 rfl jg3 ?_
            refine r_V1v hJ kX2_88 (rcv2 E ho) (c2_numbersOf l E S x (dropP P' n 0) ho (P' 8 (n * 3))) dX2_free_70 ⟨by decide, by decide⟩ (Nat.le_of_ble_eq_true rfl) ?_
            refine r_aload_n hJ dX2_free_73 rfl jg0 ?_
            refine r_g2_4 hJ ho m56 dX2_free_74 ?_
            refine r_iconst hJ (v := nI 1) dX2_free_77 (by decide) ?_
            refine r_ialdO hJ (by omega) (alP1 ho (by omega)) rfl dX2_free_78 ?_
            refine r_icmp_ge hJ (tgt := 93) dX2_free_79 (by decide) (fun c79 => ?_) (fun c79 => ?_)
            · have hv : serveS P' n = put (dropP P' n 0) 11 (toN (P' 8 (n * 3))) ((dropP P' n 0) 11 (toN (P' 8 (n * 3))) + nI 1) := by simp only [serveS]; exact if_neg (Int32.not_lt.mpr c79)
              rw [hv] at he hPs
              refine r_aload_n hJ dX2_free_93 rfl jg0 ?_
              refine r_g2_14 hJ ho m69 dX2_free_94 ?_
              refine r_iload_n hJ dX2_free_97 rfl jg3 ?_
              refine r_dup2_11 hJ dX2_free_98 rfl rfl ?_
              refine r_ialdO hJ (by omega) (alP11 ho (by omega)) g5 dX2_free_99 ?_
              refine r_iconst hJ (v := nI 1) dX2_free_100 (by decide) ?_
              refine r_iadd hJ dX2_free_101 ?_
              refine r_iast hJ (by omega) (alP11 ho (by omega)) g5 dX2_free_102 ?_
              refine r_iinc hJ dX2_free_103 jg2 (ii1 _) (jp2 rfl rfl) ?_
              refine r_goto hJ (tgt := 19) dX2_free_106 (by decide) ?_
              exact ih (i + 1) _ _ _ (by omega) hPs he rfl
            · have hv : serveS P' n = leaseP (dropP P' n 0) (toN (P' 8 (n * 3))) n (P' 9 (n * 3)) := by simp only [serveS]; exact if_pos (Int32.not_le.mp c79)
              rw [hv] at he hPs
              refine r_aload_n hJ dX2_free_82 rfl jg0 ?_
              refine r_iload_n hJ dX2_free_83 rfl jg3 ?_
              refine r_iload_n hJ dX2_free_84 rfl jg1 ?_
              refine r_iload hJ dX2_free_85 jg4 ?_
              have hle := c2_lease l E S x (dropP P' n 0) ho g4 hn (P' 9 (n * 3))
              rw [← g5] at hle
              refine r_V3u hJ kX2_91 (rcv2 E ho) (hle) dX2_free_87 ⟨by decide, by decide⟩ (Nat.le_of_ble_eq_true rfl) ?_
              refine r_goto hJ (tgt := 103) dX2_free_90 (by decide) ?_
              refine r_iinc hJ dX2_free_103 jg2 (ii1 _) (jp2 rfl rfl) ?_
              refine r_goto hJ (tgt := 19) dX2_free_106 (by decide) ?_
              exact ih (i + 1) _ _ _ (by omega) hPs he rfl
  refine r_aload_n hJ dX2_free_0 rfl jg0 ?_
  refine r_g2_5 hJ ho m58 dX2_free_1 ?_
  refine r_iload_n hJ dX2_free_4 rfl jg1 ?_
  refine r_iconst hJ (v := (-1)) dX2_free_5 (by decide) ?_
  refine r_iast hJ (by omega) (alP2 ho (by omega)) rfl dX2_free_6 ?_
  refine r_aload_n hJ dX2_free_7 rfl jg0 ?_
  refine r_dup hJ dX2_free_8 rfl ?_
  refine r_g2_3O hJ ho m55 dX2_free_9 ?_
  refine r_iconst hJ (v := nI 1) dX2_free_12 (by decide) ?_
  refine r_iadd hJ dX2_free_13 ?_
  refine r_p2_3 hJ ho m55 dX2_free_14 ?_
  refine r_iconst hJ (v := nI 0) dX2_free_17 (by decide) ?_
  refine r_istore_n hJ dX2_free_18 rfl (jp2 rfl rfl) ?_
  exact loop 3 0 _ none none rfl (PI_put (by decide) (PI_put2 (Or.inl rfl) hP)) rfl rfl

set_option maxRecDepth 100000 in
set_option maxHeartbeats 1000000 in
theorem c2_freeSpan (l : Launch) (E : jE) (S : jS) (x : jX) (P : jO) {o : Nat} (ho : o < 8) (hP : PI P) (h : Int32) {a b : Nat} (hab : a ≤ b) (hb : b < 64) : Ct l E yX2_freeSpan cX2_freeSpan 6 (some .int) 3 [.ref (ad E o 0), .int h, .int (nI a), .int (nI b)] (setO S o P, x) (some (.int (nI (spanN h (b + 1 - a) a (P, 0)).2))) (setO S o (spanN h (b + 1 - a) a (P, 0)).1, x) := by
  refine Ct.of (by decide +kernel) (Nat.le_refl _) (Nat.le_of_ble_eq_true rfl) rfl (fun J hJ hF => ?_)
  have loop : ∀ (k i c : Nat) (P' : jO), i + k = b + 1 → PI P' → spanN h k i (P', c) = spanN h (b + 1 - a) a (P, 0) → J (setO S o P', x) 6 [some (.ref (ad E o 0)), some (.int h), some (.int (nI a)), some (.int (nI b)), some (.int (nI c)), some (.int (nI i))] [] := by
    intro k
    induction k with
    | zero =>
      intro i c P' hi hP he
      obtain rfl : i = b + 1 := by omega
      refine r_iload hJ dX2_freeSpan_6 jg5 ?_
      refine r_iload_n hJ dX2_freeSpan_8 rfl jg3 ?_
      refine r_icmp_gt hJ (tgt := 38) dX2_freeSpan_9 (by decide) (fun c9 => ?_) (fun c9 => ?_)
      · refine r_iload hJ dX2_freeSpan_38 jg4 ?_
        exact ret_i hF dX2_freeSpan_40 (by rw [← he]; rfl) (by rw [← he]; rfl)
      · exact absurd (nI_lt (by omega) (by omega)) c9
    | succ k ih =>
      intro i c P' hi hP he
      refine r_iload hJ dX2_freeSpan_6 jg5 ?_
      refine r_iload_n hJ dX2_freeSpan_8 rfl jg3 ?_
      refine r_icmp_gt hJ (tgt := 38) dX2_freeSpan_9 (by decide) (fun c9 => ?_) (fun c9 => ?_)
      · exact absurd c9 (nI_nlt (by omega) (by omega))
      · refine r_aload_n hJ dX2_freeSpan_12 rfl jg0 ?_
        refine r_g2_5 hJ ho m58 dX2_freeSpan_13 ?_
        refine r_iload hJ dX2_freeSpan_16 jg5 ?_
        refine r_ialdO hJ (by omega) (alP2 ho (by omega)) rfl dX2_freeSpan_18 ?_
        refine r_iload_n hJ dX2_freeSpan_19 rfl jg1 ?_
        refine r_icmp_ne hJ (tgt := 32) dX2_freeSpan_20 (by decide) (fun c20 => ?_) (fun c20 => ?_)
        · refine r_iinc hJ dX2_freeSpan_32 jg5 (ii1 _) (jp5 rfl rfl) ?_
          refine r_goto hJ (tgt := 6) dX2_freeSpan_35 (by decide) ?_
          exact ih (i + 1) c _ (by omega) hP (by rw [← he, spanN, if_neg c20])
        · refine r_iinc hJ dX2_freeSpan_23 jg4 (ii1 _) (jp4 rfl rfl) ?_
          refine r_aload_n hJ dX2_freeSpan_26 rfl jg0 ?_
          refine r_iload hJ dX2_freeSpan_27 jg5 ?_
          refine r_V1u hJ kX2_98 (rcv2 E ho) (c2_free l E S x P' ho (n := i) (by omega) hP) dX2_freeSpan_29 ⟨by decide, by decide⟩ (Nat.le_of_ble_eq_true rfl) ?_
          refine r_iinc hJ dX2_freeSpan_32 jg5 (ii1 _) (jp5 rfl rfl) ?_
          refine r_goto hJ (tgt := 6) dX2_freeSpan_35 (by decide) ?_
          exact ih (i + 1) (c + 1) _ (by omega) (PI_free (by omega) hP) (by rw [← he, spanN, if_pos c20])
  refine r_iconst hJ (v := nI 0) dX2_freeSpan_0 (by decide) ?_
  refine r_istore hJ dX2_freeSpan_1 (jp4 rfl rfl) ?_
  refine r_iload_n hJ dX2_freeSpan_3 rfl jg2 ?_
  refine r_istore hJ dX2_freeSpan_4 (jp5 rfl rfl) ?_
  exact loop (b + 1 - a) a 0 P (by omega) hP rfl

set_option maxRecDepth 100000 in
set_option maxHeartbeats 1000000 in
theorem c2_addWish (l : Launch) (E : jE) (S : jS) (x : jX) (P : jO) {o : Nat} (ho : o < 8) {h n : Nat} (hh : h < 8) (hn : n < 64) (t : Int32) {w : Nat} (hw3 : w ≤ 3) (hw : P 7 n = nI w) : Ct l E yX2_addWish cX2_addWish 5 (some .int) 2 [.ref (ad E o 0), .int (nI h), .int (nI n), .int t] (setO S o P, x) (some (.int (if P 2 n = -1 then nI 0 else addW P h n t 7 n))) (setO S o (addW P h n t), x) := by
  refine Ct.of (by decide +kernel) (Nat.le_refl _) (Nat.le_of_ble_eq_true rfl) rfl (fun J hJ hF => ?_)
  refine r_aload_n hJ dX2_addWish_0 rfl jg0 ?_
  refine r_g2_5 hJ ho m58 dX2_addWish_1 ?_
  refine r_iload_n hJ dX2_addWish_4 rfl jg2 ?_
  refine r_ialdO hJ (by omega) (alP2 ho (by omega)) rfl dX2_addWish_5 ?_
  refine r_iconst hJ (v := (-1)) dX2_addWish_6 (by decide) ?_
  refine r_icmp_ne hJ (tgt := 19) dX2_addWish_7 (by decide) (fun c7 => ?_) (fun c7 => ?_)
  · refine r_aload_n hJ dX2_addWish_19 rfl jg0 ?_
    refine r_g2_10 hJ ho m64 dX2_addWish_20 ?_
    refine r_iload_n hJ dX2_addWish_23 rfl jg2 ?_
    refine r_ialdO hJ (by omega) (alP7 ho (by omega)) rfl dX2_addWish_24 ?_
    refine r_iconst hJ (v := nI 3) dX2_addWish_25 (by decide) ?_
    refine r_icmp_ge hJ (tgt := 67) dX2_addWish_26 (by decide) (fun c26 => ?_) (fun c26 => ?_)
    · rw [hw, nI_leI (by omega) (by omega)] at c26
      have hadd : addW P h n t = P := by rw [addW, if_neg c7, hw, toN_nI (by omega), if_neg (by omega)]
      refine r_aload_n hJ dX2_addWish_67 rfl jg0 ?_
      refine r_g2_10 hJ ho m64 dX2_addWish_68 ?_
      refine r_iload_n hJ dX2_addWish_71 rfl jg2 ?_
      refine r_ialdO hJ (by omega) (alP7 ho (by omega)) rfl dX2_addWish_72 ?_
      exact ret_i hF dX2_addWish_73 (by rw [if_neg c7, hadd]) (by rw [hadd])
    · rw [hw, nI_leI (by omega) (by omega)] at c26
      have hadd : addW P h n t = put (put (put P 8 (n * 3 + w) (nI h)) 9 (n * 3 + w) t) 7 n ((put (put P 8 (n * 3 + w) (nI h)) 9 (n * 3 + w) t) 7 n + nI 1) := by rw [addW, if_neg c7, hw, toN_nI (by omega), if_pos (by omega)]
      refine r_iload_n hJ dX2_addWish_29 rfl jg2 ?_
      refine r_iconst hJ (v := nI 3) dX2_addWish_30 (by decide) ?_
      refine r_imul hJ dX2_addWish_31 ?_
      refine r_aload_n hJ dX2_addWish_32 rfl jg0 ?_
      refine r_g2_10 hJ ho m64 dX2_addWish_33 ?_
      refine r_iload_n hJ dX2_addWish_36 rfl jg2 ?_
      refine r_ialdO hJ (by omega) (alP7 ho (by omega)) rfl dX2_addWish_37 ?_
      refine r_iadd hJ dX2_addWish_38 ?_
      rw [hw, ix1]
      refine r_istore hJ dX2_addWish_39 (jp4 rfl rfl) ?_
      refine r_aload_n hJ dX2_addWish_41 rfl jg0 ?_
      refine r_g2_11 hJ ho m66 dX2_addWish_42 ?_
      refine r_iload hJ dX2_addWish_45 jg4 ?_
      refine r_iload_n hJ dX2_addWish_47 rfl jg1 ?_
      refine r_iast hJ (by omega) (alP8 ho (by omega)) rfl dX2_addWish_48 ?_
      refine r_aload_n hJ dX2_addWish_49 rfl jg0 ?_
      refine r_g2_12 hJ ho m67 dX2_addWish_50 ?_
      refine r_iload hJ dX2_addWish_53 jg4 ?_
      refine r_iload_n hJ dX2_addWish_55 rfl jg3 ?_
      refine r_iast hJ (by omega) (alP9 ho (by omega)) rfl dX2_addWish_56 ?_
      refine r_aload_n hJ dX2_addWish_57 rfl jg0 ?_
      refine r_g2_10 hJ ho m64 dX2_addWish_58 ?_
      refine r_iload_n hJ dX2_addWish_61 rfl jg2 ?_
      refine r_dup2_11 hJ dX2_addWish_62 rfl rfl ?_
      refine r_ialdO hJ (by omega) (alP7 ho (by omega)) rfl dX2_addWish_63 ?_
      refine r_iconst hJ (v := nI 1) dX2_addWish_64 (by decide) ?_
      refine r_iadd hJ dX2_addWish_65 ?_
      refine r_iast hJ (by omega) (alP7 ho (by omega)) rfl dX2_addWish_66 ?_
      refine r_aload_n hJ dX2_addWish_67 rfl jg0 ?_
      refine r_g2_10 hJ ho m64 dX2_addWish_68 ?_
      refine r_iload_n hJ dX2_addWish_71 rfl jg2 ?_
      refine r_ialdO hJ (by omega) (alP7 ho (by omega)) rfl dX2_addWish_72 ?_
      exact ret_i hF dX2_addWish_73 (by rw [if_neg c7, hadd]) (by rw [hadd])
  · refine r_aload_n hJ dX2_addWish_10 rfl jg0 ?_
    refine r_iload_n hJ dX2_addWish_11 rfl jg1 ?_
    refine r_iload_n hJ dX2_addWish_12 rfl jg2 ?_
    refine r_iload_n hJ dX2_addWish_13 rfl jg3 ?_
    refine r_V3u hJ kX2_91 (rcv2 E ho) (c2_lease l E S x P ho hh hn t) dX2_addWish_14 ⟨by decide, by decide⟩ (Nat.le_of_ble_eq_true rfl) ?_
    refine r_iconst hJ (v := nI 0) dX2_addWish_17 (by decide) ?_
    exact ret_i hF dX2_addWish_18 (by rw [if_pos c7]) (by rw [addW, if_pos c7])

set_option maxRecDepth 100000 in
set_option maxHeartbeats 1000000 in
theorem c2_countUnits (l : Launch) (E : jE) (S : jS) (x : jX) (P : jO) {o : Nat} (ho : o < 8) (hP : PI P) : Ct l E yX2_countUnits cX2_countUnits 2 none 2 [.ref (ad E o 0)] (setO S o P, x) none (setO S o (unitsN 64 0 P), x) := by
  refine Ct.of (by decide +kernel) (Nat.le_refl _) (Nat.le_of_ble_eq_true rfl) rfl (fun J hJ hF => ?_)
  have loop : ∀ (k i : Nat) (P' : jO), i + k = 64 → PI P' → unitsN k i P' = unitsN 64 0 P → J (setO S o P', x) 2 [some (.ref (ad E o 0)), some (.int (nI i))] [] := by
    intro k
    induction k with
    | zero =>
      intro i P' hi hP he
      obtain rfl : i = 64 := by omega
      refine r_iload_n hJ dX2_countUnits_2 rfl jg1 ?_
      refine r_bipush hJ (v := nI 64) dX2_countUnits_3 (by decide) ?_
      refine r_icmp_ge hJ (tgt := 38) dX2_countUnits_5 (by decide) (fun c5 => ?_) (fun c5 => ?_)
      · exact ret_v hF dX2_countUnits_38 rfl (by rw [← he]; rfl)
      · exact absurd (nI_le (by omega) (by omega)) c5
    | succ k ih =>
      intro i P' hi hP he
      refine r_iload_n hJ dX2_countUnits_2 rfl jg1 ?_
      refine r_bipush hJ (v := nI 64) dX2_countUnits_3 (by decide) ?_
      refine r_icmp_ge hJ (tgt := 38) dX2_countUnits_5 (by decide) (fun c5 => ?_) (fun c5 => ?_)
      · exact absurd c5 (nI_ge (by omega) (by omega))
      · refine r_aload_n hJ dX2_countUnits_8 rfl jg0 ?_
        refine r_iload_n hJ dX2_countUnits_9 rfl jg1 ?_
        refine r_V1v hJ kX2_95 (rcv2 E ho) (c2_stateOf l E S x P' ho (n := i) (by omega)) dX2_countUnits_10 ⟨by decide, by decide⟩ (Nat.le_of_ble_eq_true rfl) ?_
        refine r_iconst hJ (v := nI 1) dX2_countUnits_13 (by decide) ?_
        refine r_icmp_ne hJ (tgt := 32) dX2_countUnits_14 (by decide) (fun c14 => ?_) (fun c14 => ?_)
        · refine r_iinc hJ dX2_countUnits_32 jg1 (ii1 _) (jp1 rfl rfl) ?_
          refine r_goto hJ (tgt := 2) dX2_countUnits_35 (by decide) ?_
          exact ih (i + 1) _ (by omega) hP (by rw [← he, unitsN, if_neg (show ¬ stg _ i = 1 from c14)])
        · have hu : ∃ h, h < 8 ∧ P' 2 i = nI h := by
            rcases hP.2.1 i (by omega) with q | q
            · simp [stg, q, nI1] at c14
            · exact q
          obtain ⟨hq, hq8, hqe⟩ := hu
          have hqt : toN (P' 2 i) = hq := by rw [hqe, toN_nI (by omega)]
          refine r_aload_n hJ dX2_countUnits_17 rfl jg0 ?_
          refine r_g2_15 hJ ho m70 dX2_countUnits_18 ?_
          refine r_aload_n hJ dX2_countUnits_21 rfl jg0 ?_
          refine r_g2_5 hJ ho m58 dX2_countUnits_22 ?_
          refine r_iload_n hJ dX2_countUnits_25 rfl jg1 ?_
          refine r_ialdO hJ (by omega) (alP2 ho (by omega)) rfl dX2_countUnits_26 ?_
          refine r_dup2_11 hJ dX2_countUnits_27 rfl rfl ?_
          refine r_ialdO hJ (by omega) (alP12 ho (by omega)) hqe dX2_countUnits_28 ?_
          refine r_iconst hJ (v := nI 1) dX2_countUnits_29 (by decide) ?_
          refine r_iadd hJ dX2_countUnits_30 ?_
          refine r_iast hJ (by omega) (alP12 ho (by omega)) hqe dX2_countUnits_31 ?_
          refine r_iinc hJ dX2_countUnits_32 jg1 (ii1 _) (jp1 rfl rfl) ?_
          refine r_goto hJ (tgt := 2) dX2_countUnits_35 (by decide) ?_
          exact ih (i + 1) _ (by omega) (PI_put (by decide) hP) (by rw [← he, unitsN, if_pos (show stg _ i = 1 from c14), hqt])
  refine r_iconst hJ (v := nI 0) dX2_countUnits_0 (by decide) ?_
  refine r_istore_n hJ dX2_countUnits_1 rfl (jp1 rfl rfl) ?_
  exact loop 64 0 P (by omega) hP rfl

set_option maxRecDepth 100000 in
set_option maxHeartbeats 1000000 in
theorem c2_freeDue (l : Launch) (E : jE) (S : jS) (x : jX) (P : jO) {o : Nat} (ho : o < 8) (hP : PI P) : Ct l E yX2_freeDue cX2_freeDue 2 none 3 [.ref (ad E o 0)] (setO S o P, x) none (setO S o (dueN 64 0 P), x) := by
  refine Ct.of (by decide +kernel) (Nat.le_refl _) (Nat.le_of_ble_eq_true rfl) rfl (fun J hJ hF => ?_)
  have loop : ∀ (k i : Nat) (P' : jO), i + k = 64 → PI P' → dueN k i P' = dueN 64 0 P → J (setO S o P', x) 2 [some (.ref (ad E o 0)), some (.int (nI i))] [] := by
    intro k
    induction k with
    | zero =>
      intro i P' hi hP he
      obtain rfl : i = 64 := by omega
      refine r_iload_n hJ dX2_freeDue_2 rfl jg1 ?_
      refine r_bipush hJ (v := nI 64) dX2_freeDue_3 (by decide) ?_
      refine r_icmp_ge hJ (tgt := 42) dX2_freeDue_5 (by decide) (fun c5 => ?_) (fun c5 => ?_)
      · exact ret_v hF dX2_freeDue_42 rfl (by rw [← he]; rfl)
      · exact absurd (nI_le (by omega) (by omega)) c5
    | succ k ih =>
      intro i P' hi hP he
      refine r_iload_n hJ dX2_freeDue_2 rfl jg1 ?_
      refine r_bipush hJ (v := nI 64) dX2_freeDue_3 (by decide) ?_
      refine r_icmp_ge hJ (tgt := 42) dX2_freeDue_5 (by decide) (fun c5 => ?_) (fun c5 => ?_)
      · exact absurd c5 (nI_ge (by omega) (by omega))
      · refine r_aload_n hJ dX2_freeDue_8 rfl jg0 ?_
        refine r_g2_5 hJ ho m58 dX2_freeDue_9 ?_
        refine r_iload_n hJ dX2_freeDue_12 rfl jg1 ?_
        refine r_ialdO hJ (by omega) (alP2 ho (by omega)) rfl dX2_freeDue_13 ?_
        refine r_iconst hJ (v := (-1)) dX2_freeDue_14 (by decide) ?_
        refine r_icmp_eq hJ (tgt := 36) dX2_freeDue_15 (by decide) (fun c15 => ?_) (fun c15 => ?_)
        · refine r_iinc hJ dX2_freeDue_36 jg1 (ii1 _) (jp1 rfl rfl) ?_
          refine r_goto hJ (tgt := 2) dX2_freeDue_39 (by decide) ?_
          exact ih (i + 1) _ (by omega) hP (by rw [← he, dueN, if_neg (by simp [c15])])
        · refine r_aload_n hJ dX2_freeDue_18 rfl jg0 ?_
          refine r_g2_8 hJ ho m62 dX2_freeDue_19 ?_
          refine r_iload_n hJ dX2_freeDue_22 rfl jg1 ?_
          refine r_ialdO hJ (by omega) (alP5 ho (by omega)) rfl dX2_freeDue_23 ?_
          refine r_aload_n hJ dX2_freeDue_24 rfl jg0 ?_
          refine r_g2_0O hJ ho m51 dX2_freeDue_25 ?_
          refine r_icmp_ne hJ (tgt := 36) dX2_freeDue_28 (by decide) (fun c28 => ?_) (fun c28 => ?_)
          · refine r_iinc hJ dX2_freeDue_36 jg1 (ii1 _) (jp1 rfl rfl) ?_
            refine r_goto hJ (tgt := 2) dX2_freeDue_39 (by decide) ?_
            exact ih (i + 1) _ (by omega) hP (by rw [← he, dueN, if_neg (by simp [c28])])
          · refine r_aload_n hJ dX2_freeDue_31 rfl jg0 ?_
            refine r_iload_n hJ dX2_freeDue_32 rfl jg1 ?_
            refine r_V1u hJ kX2_98 (rcv2 E ho) (c2_free l E S x P' ho (n := i) (by omega) hP) dX2_freeDue_33 ⟨by decide, by decide⟩ (Nat.le_of_ble_eq_true rfl) ?_
            refine r_iinc hJ dX2_freeDue_36 jg1 (ii1 _) (jp1 rfl rfl) ?_
            refine r_goto hJ (tgt := 2) dX2_freeDue_39 (by decide) ?_
            exact ih (i + 1) _ (by omega) (PI_free (by omega) hP) (by rw [← he, dueN, if_pos ⟨c15, c28⟩])
  refine r_iconst hJ (v := nI 0) dX2_freeDue_0 (by decide) ?_
  refine r_istore_n hJ dX2_freeDue_1 rfl (jp1 rfl rfl) ?_
  exact loop 64 0 P (by omega) hP rfl

set_option maxRecDepth 100000 in
set_option maxHeartbeats 1000000 in
theorem c2_passUnits (l : Launch) (E : jE) (S : jS) (x : jX) (P : jO) {o : Nat} (ho : o < 8) (hP : PI P) {b : Nat} (hb : b < 2 ^ 30) : Ct l E yX2_passUnits cX2_passUnits 4 (some .int) 4 [.ref (ad E o 0), .int (nI b)] (setO S o P, x) (some (.int (passN b P 0 3 - P 0 3))) (setO S o (passN b P), x) := by
  refine Ct.of (by decide +kernel) (Nat.le_refl _) (Nat.le_of_ble_eq_true rfl) rfl (fun J hJ hF => ?_)
  have loop : ∀ (k i : Nat) (P' : jO), i + k = b → PI P' → passN k P' = passN b P → J (setO S o P', x) 7 [some (.ref (ad E o 0)), some (.int (nI b)), some (.int (P 0 3)), some (.int (nI i))] [] := by
    intro k
    induction k with
    | zero =>
      intro i P' hi hP he
      obtain rfl : i = b := by omega
      refine r_iload_n hJ dX2_passUnits_7 rfl jg3 ?_
      refine r_iload_n hJ dX2_passUnits_8 rfl jg1 ?_
      refine r_icmp_ge hJ (tgt := 36) dX2_passUnits_9 (by decide) (fun c9 => ?_) (fun c9 => ?_)
      · refine r_aload_n hJ dX2_passUnits_36 rfl jg0 ?_
        refine r_g2_3O hJ ho m55 dX2_passUnits_37 ?_
        refine r_iload_n hJ dX2_passUnits_40 rfl jg2 ?_
        refine r_isub hJ dX2_passUnits_41 ?_
        exact ret_i hF dX2_passUnits_42 (by rw [← he]; rfl) (by rw [← he]; rfl)
      · exact absurd (nI_le (by omega) (by omega)) c9
    | succ k ih =>
      intro i P' hi hP he
      refine r_iload_n hJ dX2_passUnits_7 rfl jg3 ?_
      refine r_iload_n hJ dX2_passUnits_8 rfl jg1 ?_
      refine r_icmp_ge hJ (tgt := 36) dX2_passUnits_9 (by decide) (fun c9 => ?_) (fun c9 => ?_)
      · exact absurd c9 (nI_ge (by omega) (by omega))
      · refine r_aload_n hJ dX2_passUnits_12 rfl jg0 ?_
        refine r_V0u hJ kX2_106 (rcv2 E ho) (c2_countUnits l E S x P' ho hP) dX2_passUnits_13 ⟨by decide, by decide⟩ (Nat.le_of_ble_eq_true rfl) ?_
        refine r_aload_n hJ dX2_passUnits_16 rfl jg0 ?_
        refine r_dup hJ dX2_passUnits_17 rfl ?_
        refine r_g2_0O hJ ho m51 dX2_passUnits_18 ?_
        refine r_iconst hJ (v := nI 1) dX2_passUnits_21 (by decide) ?_
        refine r_iadd hJ dX2_passUnits_22 ?_
        refine r_p2_0 hJ ho m51 dX2_passUnits_23 ?_
        refine r_aload_n hJ dX2_passUnits_26 rfl jg0 ?_
        refine r_V0u hJ kX2_109 (rcv2 E ho) (c2_freeDue l E S x _ ho (PI_put (by decide) (PI_unitsN 64 0 _ hP))) dX2_passUnits_27 ⟨by decide, by decide⟩ (Nat.le_of_ble_eq_true rfl) ?_
        refine r_iinc hJ dX2_passUnits_30 jg3 (ii1 _) (jp3 rfl rfl) ?_
        refine r_goto hJ (tgt := 7) dX2_passUnits_33 (by decide) ?_
        exact ih (i + 1) _ (by omega) (PI_tick hP) he
  refine r_aload_n hJ dX2_passUnits_0 rfl jg0 ?_
  refine r_g2_3O hJ ho m55 dX2_passUnits_1 ?_
  refine r_istore_n hJ dX2_passUnits_4 rfl (jp2 rfl rfl) ?_
  refine r_iconst hJ (v := nI 0) dX2_passUnits_5 (by decide) ?_
  refine r_istore_n hJ dX2_passUnits_6 rfl (jp3 rfl rfl) ?_
  exact loop b 0 P (by omega) hP rfl

set_option maxRecDepth 100000 in
set_option maxHeartbeats 1000000 in
theorem c2_leap (l : Launch) (E : jE) (S : jS) (x : jX) (P : jO) {o : Nat} (ho : o < 8) (hP : PI P) (u : Int32) : Ct l E yX2_leap cX2_leap 4 (some .boolean) 4 [.ref (ad E o 0), .int u] (setO S o P, x) (some (.int (bI (!decide (u < leapV P u))))) (setO S o (leapP P u), x) := by
  refine Ct.of (by decide +kernel) (Nat.le_refl _) (Nat.le_of_ble_eq_true rfl) rfl (fun J hJ hF => ?_)
  have loop : ∀ (k i : Nat) (v : Int32), i + k = 64 → nextN P k i v = leapV P u → J (setO S o P, x) 6 [some (.ref (ad E o 0)), some (.int u), some (.int v), some (.int (nI i))] [] := by
    intro k
    induction k with
    | zero =>
      intro i v hi he
      obtain rfl : i = 64 := by omega
      obtain rfl : v = leapV P u := he
      refine r_iload_n hJ dX2_leap_6 rfl jg3 ?_
      refine r_bipush hJ (v := nI 64) dX2_leap_7 (by decide) ?_
      refine r_icmp_ge hJ (tgt := 45) dX2_leap_9 (by decide) (fun c9 => ?_) (fun c9 => ?_)
      · refine r_iload_n hJ dX2_leap_45 rfl jg2 ?_
        refine r_iload_n hJ dX2_leap_46 rfl jg1 ?_
        refine r_icmp_le hJ (tgt := 52) dX2_leap_47 (by decide) (fun c47 => ?_) (fun c47 => ?_)
        · have c47 := Int32.not_lt.mpr c47
          refine r_aload_n hJ dX2_leap_52 rfl jg0 ?_
          refine r_iload_n hJ dX2_leap_53 rfl jg2 ?_
          refine r_p2_0 hJ ho m51 dX2_leap_54 ?_
          refine r_aload_n hJ dX2_leap_57 rfl jg0 ?_
          refine r_V0u hJ kX2_109 (rcv2 E ho) (c2_freeDue l E S x _ ho (PI_put (by decide) hP)) dX2_leap_58 ⟨by decide, by decide⟩ (Nat.le_of_ble_eq_true rfl) ?_
          refine r_iconst hJ (v := nI 1) dX2_leap_61 (by decide) ?_
          exact ret_z hF dX2_leap_62 (by decide) (by simp [bI, c47, nI1]) (by rw [leapP, if_neg c47])
        · have c47 := Int32.not_le.mp c47
          refine r_iconst hJ (v := nI 0) dX2_leap_50 (by decide) ?_
          exact ret_z hF dX2_leap_51 (by decide) (by simp [bI, c47, nI0]) (by rw [leapP, if_pos c47])
      · exact absurd (nI_le (by omega) (by omega)) c9
    | succ k ih =>
      intro i v hi he
      refine r_iload_n hJ dX2_leap_6 rfl jg3 ?_
      refine r_bipush hJ (v := nI 64) dX2_leap_7 (by decide) ?_
      refine r_icmp_ge hJ (tgt := 45) dX2_leap_9 (by decide) (fun c9 => ?_) (fun c9 => ?_)
      · exact absurd c9 (nI_ge (by omega) (by omega))
      · refine r_aload_n hJ dX2_leap_12 rfl jg0 ?_
        refine r_g2_5 hJ ho m58 dX2_leap_13 ?_
        refine r_iload_n hJ dX2_leap_16 rfl jg3 ?_
        refine r_ialdO hJ (by omega) (alP2 ho (by omega)) rfl dX2_leap_17 ?_
        refine r_iconst hJ (v := (-1)) dX2_leap_18 (by decide) ?_
        refine r_icmp_eq hJ (tgt := 39) dX2_leap_19 (by decide) (fun c19 => ?_) (fun c19 => ?_)
        · refine r_iinc hJ dX2_leap_39 jg3 (ii1 _) (jp3 rfl rfl) ?_
          refine r_goto hJ (tgt := 6) dX2_leap_42 (by decide) ?_
          exact ih (i + 1) _ (by omega) (by rw [← he, nextN, if_neg (by simp [c19])])
        · refine r_aload_n hJ dX2_leap_22 rfl jg0 ?_
          refine r_g2_8 hJ ho m62 dX2_leap_23 ?_
          refine r_iload_n hJ dX2_leap_26 rfl jg3 ?_
          refine r_ialdO hJ (by omega) (alP5 ho (by omega)) rfl dX2_leap_27 ?_
          refine r_iload_n hJ dX2_leap_28 rfl jg2 ?_
          refine r_icmp_ge hJ (tgt := 39) dX2_leap_29 (by decide) (fun c29 => ?_) (fun c29 => ?_)
          · refine r_iinc hJ dX2_leap_39 jg3 (ii1 _) (jp3 rfl rfl) ?_
            refine r_goto hJ (tgt := 6) dX2_leap_42 (by decide) ?_
            exact ih (i + 1) _ (by omega) (by rw [← he, nextN, if_neg (by simp; intro; exact c29)])
          · refine r_aload_n hJ dX2_leap_32 rfl jg0 ?_
            refine r_g2_8 hJ ho m62 dX2_leap_33 ?_
            refine r_iload_n hJ dX2_leap_36 rfl jg3 ?_
            refine r_ialdO hJ (by omega) (alP5 ho (by omega)) rfl dX2_leap_37 ?_
            refine r_istore_n hJ dX2_leap_38 rfl (jp2 rfl rfl) ?_
            refine r_iinc hJ dX2_leap_39 jg3 (ii1 _) (jp3 rfl rfl) ?_
            refine r_goto hJ (tgt := 6) dX2_leap_42 (by decide) ?_
            exact ih (i + 1) _ (by omega) (by rw [← he, nextN, if_pos ⟨c19, Int32.not_le.mp c29⟩])
  refine r_iload_n hJ dX2_leap_0 rfl jg1 ?_
  refine r_iconst hJ (v := nI 1) dX2_leap_1 (by decide) ?_
  refine r_iadd hJ dX2_leap_2 ?_
  refine r_istore_n hJ dX2_leap_3 rfl (jp2 rfl rfl) ?_
  refine r_iconst hJ (v := nI 0) dX2_leap_4 (by decide) ?_
  refine r_istore_n hJ dX2_leap_5 rfl (jp3 rfl rfl) ?_
  exact loop 64 0 _ (by omega) rfl
end
section
/-! two states that agree where the world looks -/
def sEq (x : jX) (S S' : jS) : Prop := (∀ o j i, i < aln o j → S o j i = S' o j i) ∧ ∀ (E : jE) (o j : Nat), scal E x o (S o) j = scal E x o (S' o) j
theorem arrV_ext {cI : ClassId} {N : Nat} {f g : Nat → Value} (h : ∀ j, j < N → f j = g j) : arrV cI N f = arrV cI N g := by
  unfold arrV
  congr 2
  funext j
  exact h j.val j.isLt
theorem wld_eqv {E : jE} {x : jX} {S S' : jS} {D : va_G} {H : Heap} (h : sEq x S S') (hP : va_P D vwCl (wld E (S, x)) H) : va_P D vwCl (wld E (S', x)) H := by
  intro k q hk
  have hk1 : k < 109 := by
    have := (List.getElem?_eq_some_iff.mp hk).1
    rwa [wld_len] at this
  rw [wld_at E _ hk1] at hk
  have h0 := hP k _ (wld_at E (S, x) hk1)
  rw [← Option.some.inj hk]
  generalize hl : loc k = lk at h0 ⊢
  obtain ⟨o, j⟩ := lk
  show va_at D vwCl (E.1 + k, cel E x o (S' o) j) H
  have h1 : va_at D vwCl (E.1 + k, cel E x o (S o) j) H := h0
  unfold cel at h1 ⊢
  split
  · rename_i ha
    rw [if_pos ha] at h1
    have h2 : H[E.1 + k]? = some (vp_cell E.2.2.1.1 (aln o j, .inl (S o j))) := h1
    show H[E.1 + k]? = some (vp_cell E.2.2.1.1 (aln o j, .inl (S' o j)))
    rw [h2, vp_cell_i, vp_cell_i]
    exact congrArg some (arrV_ext fun i hi => by rw [h.1 o j i hi])
  · rename_i ha
    rw [if_neg ha] at h1
    rw [← h.2 E o j]
    exact h1
section ROWS2
variable {l : Launch} {E : jE} {own : String} {cc : ByteArray} {nL d n0 cap : Nat} {J : jT} {pc : Nat} {L : List (Option Value)} {rest : List Value}
theorem r_eqv (hJ : jR l E own cc nL d n0 cap J) {S S' : jS} {x : jX} {st : List Value} (h : sEq x S S') (k : J (S', x) pc L st) : J (S, x) pc L st := by
  obtain ⟨p, e, R, s, m, args, below, meth, c, Q, cb, sb, rfl, -, -⟩ := hJ
  intro h1 h2 H locs ls hP hS hl
  exact k h1 h2 H locs ls (wld_eqv h hP) hS hl
def wMath (own : String) (ix : Nat) (y : MethodName) (code : ByteArray) : Prop := Cond.methodLink own ix y ∈ gw ∧ Cond.static y ∈ gw ∧ Cond.initialized "java/lang/Math" ∈ gw ∧ Cond.code y code 2 (some .int) ∈ gw
theorem r_max (hJ : jR l E own cc nL d n0 cap J) {G : jG} {ix : Nat} {x y : Int32} (w : wMath own ix Lib.Math.max.name Lib.Math.max.code) (hd : decode cc pc = .ok (.invokestatic ix, 3)) (hdd : 1 ≤ d) (hst : (rest.map fun v => v.category).sum ≤ 8) (k : J G (pc + 3) L (.int (if x < y then y else x) :: rest)) : J G pc L (.int y :: .int x :: rest) := by
  obtain ⟨p, e, R, s, m, args, below, meth, c, Q, cb, sb, rfl, ⟨hx, hb, hml, hown, hts⟩, hfr, hlo, hce, hsl, hB⟩ := hJ
  intro h1 h2 H locs ls hP hS hl
  exact va_mmax hx hb (by rw [hml]; exact hl.1.symm) hown (hts _ w.1) (hts _ w.2.1) (hts _ w.2.2.1) (hts _ w.2.2.2) (by omega) (by omega) (by omega) (by omega) hd (k h1 h2 H locs ls hP hS hl)
theorem r_min (hJ : jR l E own cc nL d n0 cap J) {G : jG} {ix : Nat} {x y : Int32} (w : wMath own ix Lib.Math.min.name Lib.Math.min.code) (hd : decode cc pc = .ok (.invokestatic ix, 3)) (hdd : 1 ≤ d) (hst : (rest.map fun v => v.category).sum ≤ 8) (k : J G (pc + 3) L (.int (if y < x then y else x) :: rest)) : J G pc L (.int y :: .int x :: rest) := by
  obtain ⟨p, e, R, s, m, args, below, meth, c, Q, cb, sb, rfl, ⟨hx, hb, hml, hown, hts⟩, hfr, hlo, hce, hsl, hB⟩ := hJ
  intro h1 h2 H locs ls hP hS hl
  exact va_mmin hx hb (by rw [hml]; exact hl.1.symm) hown (hts _ w.1) (hts _ w.2.1) (hts _ w.2.2.1) (hts _ w.2.2.2) (by omega) (by omega) (by omega) (by omega) hd (k h1 h2 H locs ls hP hS hl)
def wCopy (own : String) (ix : Nat) : Prop := Cond.methodLink own ix arraycopyName ∈ gw ∧ Cond.native arraycopyName ∈ gw ∧ Cond.static arraycopyName ∈ gw ∧ Cond.initialized "java/lang/System" ∈ gw
/-- a whole row copied onto a row of the same length -/
theorem r_copy (hJ : jR l E own cc nL d n0 cap J) {S : jS} {x : jX} {P : jO} {o o1 j j1 ix n : Nat} (w : wCopy own ix) (ho : o < 13) (ho1 : o1 < 13) (ha : 0 < aln o j) (hn : aln o j = n) (hn1 : aln o1 j1 = n) (hd : decode cc pc = .ok (.invokestatic ix, 3)) (hdd : 1 ≤ d) (hst : (rest.map fun v => v.category).sum ≤ 8)
    (k : J (setO S o (putA P j (fun i => if i < n then (setO S o P) o1 j1 i else P j i)), x) (pc + 3) L rest) : J (setO S o P, x) pc L (.int (nI n) :: .int (nI 0) :: .ref (ad E o j) :: .int (nI 0) :: .ref (ad E o1 j1) :: rest) := by
  obtain ⟨p, e, R, s, m, args, below, meth, c, Q, cb, sb, rfl, ⟨hx, hb, hml, hown, hts⟩, hfr, hlo, hce, hsl, hB⟩ := hJ
  intro h1 h2 H locs ls hP hS hl
  have hle := aln_le o j
  have hnw : nativeFrameWords "java/lang/System" "arraycopy" 5 ≤ 13 := by decide
  have t0 : (nI 0).toNatClampNeg = 0 := nI_clamp (by decide)
  have tn : (nI n).toNatClampNeg = n := nI_clamp (by omega)
  refine va_copyi (D := E.2.1) (A := jA E) (ws := wld E (setO S o P, x)) (f := (setO S o P) o1 j1) (g := P j) (n0 := n) (n1 := aln o j) (ty := .int) hx hb (by rw [hml]; exact hl.1.symm) hown (hts _ w.1) (hts _ w.2.1) (hts _ w.2.2.1) (hts _ w.2.2.2) hB.1 hP (wld_D E _) hS (bas o1 + j1) (bas o + j) 0 0
    (by rw [wld_get E _ x ho1 (aln_wid o1 ho1 j1 (by omega)), cel_arr (by omega), hn1]) (by rw [wld_get E _ x ho (aln_wid o ho j ha), cel_arr ha, setO_at]) rfl rfl rfl (nI_pos (by decide)) (nI_pos (by decide)) (nI_pos (by omega)) (by rw [t0, tn]; omega) (by rw [t0, tn]; omega) (fun _ _ => rfl) (by omega) (by omega) hd (fun H1 locs1 hP1 _ hS1 => ?_)
  rw [t0, tn] at hP1
  have e1 : va_cpy ((setO S o P) o1 j1) (P j) 0 0 n = fun i => if i < n then (setO S o P) o1 j1 i else P j i := by
    funext i
    simp [va_cpy]
  rw [e1, wld_arr E S x ho ha] at hP1
  exact k h1 h2 H1 locs1 ls hP1 hS1 hl
theorem r_sum (hJ : jR l E "NumberLeases$Pool" cc nL d n0 cap J) {nL' d' : Nat} {cc' : ByteArray} {S : jS} {x : jX} {v v1 : Value} (hc : Cond.code yX4_sum cc' nL' (some .int) ∈ gw) (hs : Cond.static yX4_sum ∈ gw) (hi : Cond.initialized "NumberLeases" ∈ gw) (ct : Ct l E yX4_sum cc' nL' (some .int) d' [v1] (S, x) (some v) (S, x)) (hd : decode cc pc = .ok (.invokestatic 137, 3)) (hdd : d' < d ∧ nL' ≤ 13) (hst : (rest.map fun v => v.category).sum ≤ 8) (k : J (S, x) (pc + 3) L (v :: rest)) : J (S, x) pc L (v1 :: rest) := by
  obtain ⟨p, e, R, s, m, args, below, meth, c, Q, cb, sb, rfl, hfix, hfr, hlo, hce, hsl, hB⟩ := hJ
  obtain ⟨kx, hkx, hM⟩ := ct
  intro h1 h2 H locs ls hP hS hl
  have hkx' : x.2.2 = x.2.2 + kx := hkx
  have h2' : x.2.2 ≤ n0 + cap := h2
  have hr := va_runSN (e := e) (below := below) (meth := meth) (rest := rest) (g := F0 m pc ls (v1 :: rest)) (cells := cb + (x.2.2 - n0)) (slots := sb + 6 * (x.2.2 - n0)) (locs := locs) (As := [v1]) (H := H) hfix hM
    ⟨va_cnB 1 hfix.2.2.2.2 (gI fun w hw => by
      rcases List.mem_cons.mp hw with h | h
      · rw [h]; exact hc
      · exact h) rfl rfl rfl hB.2.2.2.2.2.2.2.2.1 (hfix.2.2.2.2 _ hi) (by decide +kernel) ⟨by show d' + 1 ≤ R.frames; omega, by show 8 + (nL' + 11) + 32 * d' ≤ R.locals; omega⟩, hfix.2.2.2.2 _ hs, trivial⟩
    ⟨jPc_blind E _ (S, x), fun U hU hW => ⟨rfl, by rw [hU]; exact hP, hB.go hS hW hU⟩⟩ rfl rfl hl.1 rfl (lv_room hst) hd ⟨by omega, by omega⟩
  exact jAfter (G := (S, x)) (G' := (S, x)) hB h1 hkx h2 hS hl hr k
end ROWS2
end
section
set_option maxRecDepth 100000 in
set_option maxHeartbeats 1000000 in
theorem c2_numbersIn (l : Launch) (E : jE) (S : jS) (x : jX) (P : jO) {o : Nat} (ho : o < 8) {z : Nat} (hz : P 1 3 = nI z) (hz4 : z ≤ 64) (s : Int32) : Ct l E yX2_numbersIn cX2_numbersIn 4 (some .int) 2 [.ref (ad E o 0), .int s] (setO S o P, x) (some (.int (nI (cnt (fun n => decide (stg P n = s)) z)))) (setO S o P, x) := by
  refine Ct.of (by decide +kernel) (Nat.le_refl _) (Nat.le_of_ble_eq_true rfl) rfl (fun J hJ hF => ?_)
  have loop : ∀ (k i : Nat), i + k = z → J (setO S o P, x) 4 [some (.ref (ad E o 0)), some (.int s), some (.int (nI (cnt (fun n => decide (stg P n = s)) i))), some (.int (nI i))] [] := by
    intro k
    induction k with
    | zero =>
      intro i hi
      obtain rfl : i = z := by omega
      refine r_iload_n hJ dX2_numbersIn_4 rfl jg3 ?_
      refine r_aload_n hJ dX2_numbersIn_5 rfl jg0 ?_
      refine r_g2_4 hJ ho m56 dX2_numbersIn_6 ?_
      refine r_iconst hJ (v := nI 3) dX2_numbersIn_9 (by decide) ?_
      refine r_ialdO hJ (by omega) (alP1 ho (by omega)) rfl dX2_numbersIn_10 ?_
      refine r_icmp_ge hJ (tgt := 32) dX2_numbersIn_11 (by decide) (fun c11 => ?_) (fun c11 => ?_)
      · refine r_iload_n hJ dX2_numbersIn_32 rfl jg2 ?_
        exact ret_i hF dX2_numbersIn_33 rfl rfl
      · rw [hz] at c11
        exact absurd (nI_le (by omega) (by omega)) c11
    | succ k ih =>
      intro i hi
      refine r_iload_n hJ dX2_numbersIn_4 rfl jg3 ?_
      refine r_aload_n hJ dX2_numbersIn_5 rfl jg0 ?_
      refine r_g2_4 hJ ho m56 dX2_numbersIn_6 ?_
      refine r_iconst hJ (v := nI 3) dX2_numbersIn_9 (by decide) ?_
      refine r_ialdO hJ (by omega) (alP1 ho (by omega)) rfl dX2_numbersIn_10 ?_
      refine r_icmp_ge hJ (tgt := 32) dX2_numbersIn_11 (by decide) (fun c11 => ?_) (fun c11 => ?_)
      · rw [hz] at c11
        exact absurd c11 (nI_ge (by omega) (by omega))
      · refine r_aload_n hJ dX2_numbersIn_14 rfl jg0 ?_
        refine r_iload_n hJ dX2_numbersIn_15 rfl jg3 ?_
        refine r_V1v hJ kX2_95 (rcv2 E ho) (c2_stateOf l E S x P ho (n := i) (by omega)) dX2_numbersIn_16 ⟨by decide, by decide⟩ (Nat.le_of_ble_eq_true rfl) ?_
        refine r_iload_n hJ dX2_numbersIn_19 rfl jg1 ?_
        refine r_icmp_ne hJ (tgt := 26) dX2_numbersIn_20 (by decide) (fun c20 => ?_) (fun c20 => ?_)
        · have e : cnt (fun n => decide (stg P n = s)) (i + 1) = cnt (fun n => decide (stg P n = s)) i := by simp [cnt, c20]
          rw [← e]
          refine r_iinc hJ dX2_numbersIn_26 jg3 (ii1 _) (jp3 rfl rfl) ?_
          refine r_goto hJ (tgt := 4) dX2_numbersIn_29 (by decide) ?_
          exact ih (i + 1) (by omega)
        · have e : cnt (fun n => decide (stg P n = s)) (i + 1) = cnt (fun n => decide (stg P n = s)) i + 1 := by simp [cnt, c20]
          refine r_iinc hJ dX2_numbersIn_23 jg2 (ii1 _) (jp2 rfl rfl) ?_
          rw [← e]
          refine r_iinc hJ dX2_numbersIn_26 jg3 (ii1 _) (jp3 rfl rfl) ?_
          refine r_goto hJ (tgt := 4) dX2_numbersIn_29 (by decide) ?_
          exact ih (i + 1) (by omega)
  refine r_iconst hJ (v := nI 0) dX2_numbersIn_0 (by decide) ?_
  refine r_istore_n hJ dX2_numbersIn_1 rfl (jp2 rfl rfl) ?_
  refine r_iconst hJ (v := nI 0) dX2_numbersIn_2 (by decide) ?_
  refine r_istore_n hJ dX2_numbersIn_3 rfl (jp3 rfl rfl) ?_
  exact loop z 0 (by omega)

set_option maxRecDepth 100000 in
set_option maxHeartbeats 1000000 in
theorem c2_freeNumbers (l : Launch) (E : jE) (S : jS) (x : jX) (P : jO) {o : Nat} (ho : o < 8) {z : Nat} (hz : P 1 3 = nI z) (hz4 : z ≤ 64) : Ct l E yX2_freeNumbers cX2_freeNumbers 1 (some .int) 3 [.ref (ad E o 0)] (setO S o P, x) (some (.int (nI (cnt (fun n => decide (stg P n = nI 0)) z)))) (setO S o P, x) := by
  refine Ct.of (by decide +kernel) (Nat.le_refl _) (Nat.le_of_ble_eq_true rfl) rfl (fun J hJ hF => ?_)
  refine r_aload_n hJ dX2_freeNumbers_0 rfl jg0 ?_
  refine r_iconst hJ (v := nI 0) dX2_freeNumbers_1 (by decide) ?_
  refine r_V1v hJ kX2_134 (rcv2 E ho) (c2_numbersIn l E S x P ho hz hz4 (nI 0)) dX2_freeNumbers_2 ⟨by decide, by decide⟩ (Nat.le_of_ble_eq_true rfl) ?_
  exact ret_i hF dX2_freeNumbers_5 rfl rfl

def inP (P : jO) (h s : Int32) (n : Nat) : Bool := decide (P 2 n = h) && decide (stg P n = s)
set_option maxRecDepth 100000 in
set_option maxHeartbeats 1000000 in
theorem c2_numbersOfIn (l : Launch) (E : jE) (S : jS) (x : jX) (P : jO) {o : Nat} (ho : o < 8) (h s : Int32) : Ct l E yX2_numbersOfIn cX2_numbersOfIn 5 (some .int) 2 [.ref (ad E o 0), .int h, .int s] (setO S o P, x) (some (.int (nI (cnt (inP P h s) 64)))) (setO S o P, x) := by
  refine Ct.of (by decide +kernel) (Nat.le_refl _) (Nat.le_of_ble_eq_true rfl) rfl (fun J hJ hF => ?_)
  have loop : ∀ (k i : Nat), i + k = 64 → J (setO S o P, x) 5 [some (.ref (ad E o 0)), some (.int h), some (.int s), some (.int (nI (cnt (inP P h s) i))), some (.int (nI i))] [] := by
    intro k
    induction k with
    | zero =>
      intro i hi
      obtain rfl : i = 64 := by omega
      refine r_iload hJ dX2_numbersOfIn_5 jg4 ?_
      refine r_bipush hJ (v := nI 64) dX2_numbersOfIn_7 (by decide) ?_
      refine r_icmp_ge hJ (tgt := 42) dX2_numbersOfIn_9 (by decide) (fun c9 => ?_) (fun c9 => ?_)
      · refine r_iload_n hJ dX2_numbersOfIn_42 rfl jg3 ?_
        exact ret_i hF dX2_numbersOfIn_43 rfl rfl
      · exact absurd (nI_le (by omega) (by omega)) c9
    | succ k ih =>
      intro i hi
      refine r_iload hJ dX2_numbersOfIn_5 jg4 ?_
      refine r_bipush hJ (v := nI 64) dX2_numbersOfIn_7 (by decide) ?_
      refine r_icmp_ge hJ (tgt := 42) dX2_numbersOfIn_9 (by decide) (fun c9 => ?_) (fun c9 => ?_)
      · exact absurd c9 (nI_ge (by omega) (by omega))
      · refine r_aload_n hJ dX2_numbersOfIn_12 rfl jg0 ?_
        refine r_g2_5 hJ ho m58 dX2_numbersOfIn_13 ?_
        refine r_iload hJ dX2_numbersOfIn_16 jg4 ?_
        refine r_ialdO hJ (by omega) (alP2 ho (by omega)) rfl dX2_numbersOfIn_18 ?_
        refine r_iload_n hJ dX2_numbersOfIn_19 rfl jg1 ?_
        refine r_icmp_ne hJ (tgt := 36) dX2_numbersOfIn_20 (by decide) (fun c20 => ?_) (fun c20 => ?_)
        · have e : cnt (inP P h s) (i + 1) = cnt (inP P h s) i := by simp [cnt, inP, c20]
          rw [← e]
          refine r_iinc hJ dX2_numbersOfIn_36 jg4 (ii1 _) (jp4 rfl rfl) ?_
          refine r_goto hJ (tgt := 5) dX2_numbersOfIn_39 (by decide) ?_
          exact ih (i + 1) (by omega)
        · refine r_aload_n hJ dX2_numbersOfIn_23 rfl jg0 ?_
          refine r_iload hJ dX2_numbersOfIn_24 jg4 ?_
          refine r_V1v hJ kX2_95 (rcv2 E ho) (c2_stateOf l E S x P ho (n := i) (by omega)) dX2_numbersOfIn_26 ⟨by decide, by decide⟩ (Nat.le_of_ble_eq_true rfl) ?_
          refine r_iload_n hJ dX2_numbersOfIn_29 rfl jg2 ?_
          refine r_icmp_ne hJ (tgt := 36) dX2_numbersOfIn_30 (by decide) (fun c30 => ?_) (fun c30 => ?_)
          · have e : cnt (inP P h s) (i + 1) = cnt (inP P h s) i := by simp [cnt, inP, c20, c30]
            rw [← e]
            refine r_iinc hJ dX2_numbersOfIn_36 jg4 (ii1 _) (jp4 rfl rfl) ?_
            refine r_goto hJ (tgt := 5) dX2_numbersOfIn_39 (by decide) ?_
            exact ih (i + 1) (by omega)
          · have e : cnt (inP P h s) (i + 1) = cnt (inP P h s) i + 1 := by simp [cnt, inP, c20, c30]
            refine r_iinc hJ dX2_numbersOfIn_33 jg3 (ii1 _) (jp3 rfl rfl) ?_
            rw [← e]
            refine r_iinc hJ dX2_numbersOfIn_36 jg4 (ii1 _) (jp4 rfl rfl) ?_
            refine r_goto hJ (tgt := 5) dX2_numbersOfIn_39 (by decide) ?_
            exact ih (i + 1) (by omega)
  refine r_iconst hJ (v := nI 0) dX2_numbersOfIn_0 (by decide) ?_
  refine r_istore_n hJ dX2_numbersOfIn_1 rfl (jp3 rfl rfl) ?_
  refine r_iconst hJ (v := nI 0) dX2_numbersOfIn_2 (by decide) ?_
  refine r_istore hJ dX2_numbersOfIn_3 (jp4 rfl rfl) ?_
  exact loop 64 0 (by omega)

set_option maxRecDepth 100000 in
set_option maxHeartbeats 1000000 in
theorem c2_wishesOf (l : Launch) (E : jE) (S : jS) (x : jX) (P : jO) {o : Nat} (ho : o < 8) (hP : PI P) (h : Int32) : Ct l E yX2_wishesOf cX2_wishesOf 4 (some .int) 2 [.ref (ad E o 0), .int h] (setO S o P, x) (some (.int (nI (cnt (fun n => (placeW P h n).isSome) 64)))) (setO S o P, x) := by
  refine Ct.of (by decide +kernel) (Nat.le_refl _) (Nat.le_of_ble_eq_true rfl) rfl (fun J hJ hF => ?_)
  have loop : ∀ (k i : Nat), i + k = 64 → J (setO S o P, x) 4 [some (.ref (ad E o 0)), some (.int h), some (.int (nI (cnt (fun n => (placeW P h n).isSome) i))), some (.int (nI i))] [] := by
    intro k
    induction k with
    | zero =>
      intro i hi
      obtain rfl : i = 64 := by omega
      refine r_iload_n hJ dX2_wishesOf_4 rfl jg3 ?_
      refine r_bipush hJ (v := nI 64) dX2_wishesOf_5 (by decide) ?_
      refine r_icmp_ge hJ (tgt := 29) dX2_wishesOf_7 (by decide) (fun c7 => ?_) (fun c7 => ?_)
      · refine r_iload_n hJ dX2_wishesOf_29 rfl jg2 ?_
        exact ret_i hF dX2_wishesOf_30 rfl rfl
      · exact absurd (nI_le (by omega) (by omega)) c7
    | succ k ih =>
      intro i hi
      refine r_iload_n hJ dX2_wishesOf_4 rfl jg3 ?_
      refine r_bipush hJ (v := nI 64) dX2_wishesOf_5 (by decide) ?_
      refine r_icmp_ge hJ (tgt := 29) dX2_wishesOf_7 (by decide) (fun c7 => ?_) (fun c7 => ?_)
      · exact absurd c7 (nI_ge (by omega) (by omega))
      · refine r_aload_n hJ dX2_wishesOf_10 rfl jg0 ?_
        refine r_iload_n hJ dX2_wishesOf_11 rfl jg1 ?_
        refine r_iload_n hJ dX2_wishesOf_12 rfl jg3 ?_
        obtain ⟨w, hw3, hw, -⟩ := hP.2.2 i (by omega)
        refine r_V2v hJ kX2_85 (rcv2 E ho) (c2_placeOfWish l E S x P ho h (n := i) (by omega) hw3 hw) dX2_wishesOf_13 ⟨by decide, by decide⟩ (Nat.le_of_ble_eq_true rfl) ?_
        refine r_iconst hJ (v := (-1)) dX2_wishesOf_16 (by decide) ?_
        refine r_icmp_eq hJ (tgt := 23) dX2_wishesOf_17 (by decide) (fun c17 => ?_) (fun c17 => ?_)
        · rw [placeW_m1 hw3 hw] at c17
          have e : cnt (fun n => (placeW P h n).isSome) (i + 1) = cnt (fun n => (placeW P h n).isSome) i := by simp [cnt, c17]
          rw [← e]
          refine r_iinc hJ dX2_wishesOf_23 jg3 (ii1 _) (jp3 rfl rfl) ?_
          refine r_goto hJ (tgt := 4) dX2_wishesOf_26 (by decide) ?_
          exact ih (i + 1) (by omega)
        · rw [placeW_m1 hw3 hw] at c17
          have c17 := Option.isSome_iff_ne_none.mpr c17
          have e : cnt (fun n => (placeW P h n).isSome) (i + 1) = cnt (fun n => (placeW P h n).isSome) i + 1 := by simp [cnt, c17]
          refine r_iinc hJ dX2_wishesOf_20 jg2 (ii1 _) (jp2 rfl rfl) ?_
          rw [← e]
          refine r_iinc hJ dX2_wishesOf_23 jg3 (ii1 _) (jp3 rfl rfl) ?_
          refine r_goto hJ (tgt := 4) dX2_wishesOf_26 (by decide) ?_
          exact ih (i + 1) (by omega)
  refine r_iconst hJ (v := nI 0) dX2_wishesOf_0 (by decide) ?_
  refine r_istore_n hJ dX2_wishesOf_1 rfl (jp2 rfl rfl) ?_
  refine r_iconst hJ (v := nI 0) dX2_wishesOf_2 (by decide) ?_
  refine r_istore_n hJ dX2_wishesOf_3 rfl (jp3 rfl rfl) ?_
  exact loop 64 0 (by omega)

set_option maxRecDepth 100000 in
set_option maxHeartbeats 1000000 in
theorem c2_leastOf (l : Launch) (E : jE) (S : jS) (x : jX) (P : jO) {o : Nat} (ho : o < 8) (h : Int32) : Ct l E yX2_leastOf cX2_leastOf 3 (some .int) 1 [.ref (ad E o 0), .int h] (setO S o P, x) (some (.int (oI (fnd (fun n => decide (P 2 n = h)) 64 0)))) (setO S o P, x) := by
  refine Ct.of (by decide +kernel) (Nat.le_refl _) (Nat.le_of_ble_eq_true rfl) rfl (fun J hJ hF => ?_)
  have loop : ∀ (k i : Nat) , i + k = 64 → fnd (fun n => decide (P 2 n = h)) k i = fnd (fun n => decide (P 2 n = h)) 64 0 → J (setO S o P, x) 2 [some (.ref (ad E o 0)), some (.int h), some (.int (nI i))] [] := by
    intro k
    induction k with
    | zero =>
      intro i  hi he
      obtain rfl : i = 64 := by omega
      refine r_iload_n hJ dX2_leastOf_2 rfl jg2 ?_
      refine r_bipush hJ (v := nI 64) dX2_leastOf_3 (by decide) ?_
      refine r_icmp_ge hJ (tgt := 26) dX2_leastOf_5 (by decide) (fun c5 => ?_) (fun c5 => ?_)
      · refine r_iconst hJ (v := (-1)) dX2_leastOf_26 (by decide) ?_
        exact ret_i hF dX2_leastOf_27 (by rw [← he]; rfl) rfl
      · exact absurd (nI_le (by omega) (by omega)) c5
    | succ k ih =>
      intro i  hi he
      refine r_iload_n hJ dX2_leastOf_2 rfl jg2 ?_
      refine r_bipush hJ (v := nI 64) dX2_leastOf_3 (by decide) ?_
      refine r_icmp_ge hJ (tgt := 26) dX2_leastOf_5 (by decide) (fun c5 => ?_) (fun c5 => ?_)
      · exact absurd c5 (nI_ge (by omega) (by omega))
      · refine r_aload_n hJ dX2_leastOf_8 rfl jg0 ?_
        refine r_g2_5 hJ ho m58 dX2_leastOf_9 ?_
        refine r_iload_n hJ dX2_leastOf_12 rfl jg2 ?_
        refine r_ialdO hJ (by omega) (alP2 ho (by omega)) rfl dX2_leastOf_13 ?_
        refine r_iload_n hJ dX2_leastOf_14 rfl jg1 ?_
        refine r_icmp_ne hJ (tgt := 20) dX2_leastOf_15 (by decide) (fun c15 => ?_) (fun c15 => ?_)
        · refine r_iinc hJ dX2_leastOf_20 jg2 (ii1 _) (jp2 rfl rfl) ?_
          refine r_goto hJ (tgt := 2) dX2_leastOf_23 (by decide) ?_
          exact ih (i + 1) (by omega) (by rw [← he]; simp [fnd, c15])
        · refine r_iload_n hJ dX2_leastOf_18 rfl jg2 ?_
          exact ret_i hF dX2_leastOf_19 (by rw [← he]; simp [fnd, c15, oI]) rfl
  refine r_iconst hJ (v := nI 0) dX2_leastOf_0 (by decide) ?_
  refine r_istore_n hJ dX2_leastOf_1 rfl (jp2 rfl rfl) ?_
  exact loop 64 0 (by omega) rfl

def leastE (P : jO) (h : Int32) : Nat → Nat → Int32 → Int32
  | 0, _, v => v
  | k + 1, n, v => leastE P h k (n + 1) (if P 2 n = h ∧ stg P n = nI 1 ∧ (v = -1 ∨ P 4 n < v) then P 4 n else v)
set_option maxRecDepth 100000 in
set_option maxHeartbeats 1000000 in
theorem c2_leastEndOf (l : Launch) (E : jE) (S : jS) (x : jX) (P : jO) {o : Nat} (ho : o < 8) (h : Int32) : Ct l E yX2_leastEndOf cX2_leastEndOf 4 (some .int) 2 [.ref (ad E o 0), .int h] (setO S o P, x) (some (.int (leastE P h 64 0 (-1)))) (setO S o P, x) := by
  refine Ct.of (by decide +kernel) (Nat.le_refl _) (Nat.le_of_ble_eq_true rfl) rfl (fun J hJ hF => ?_)
  have loop : ∀ (k i : Nat) (v : Int32), i + k = 64 → leastE P h k i v = leastE P h 64 0 (-1) → J (setO S o P, x) 4 [some (.ref (ad E o 0)), some (.int h), some (.int v), some (.int (nI i))] [] := by
    intro k
    induction k with
    | zero =>
      intro i v hi he
      obtain rfl : i = 64 := by omega
      refine r_iload_n hJ dX2_leastEndOf_4 rfl jg3 ?_
      refine r_bipush hJ (v := nI 64) dX2_leastEndOf_5 (by decide) ?_
      refine r_icmp_ge hJ (tgt := 57) dX2_leastEndOf_7 (by decide) (fun c7 => ?_) (fun c7 => ?_)
      · refine r_iload_n hJ dX2_leastEndOf_57 rfl jg2 ?_
        exact ret_i hF dX2_leastEndOf_58 (by rw [← he]; rfl) rfl
      · exact absurd (nI_le (by omega) (by omega)) c7
    | succ k ih =>
      intro i v hi he
      refine r_iload_n hJ dX2_leastEndOf_4 rfl jg3 ?_
      refine r_bipush hJ (v := nI 64) dX2_leastEndOf_5 (by decide) ?_
      refine r_icmp_ge hJ (tgt := 57) dX2_leastEndOf_7 (by decide) (fun c7 => ?_) (fun c7 => ?_)
      · exact absurd c7 (nI_ge (by omega) (by omega))
      · refine r_aload_n hJ dX2_leastEndOf_10 rfl jg0 ?_
        refine r_g2_5 hJ ho m58 dX2_leastEndOf_11 ?_
        refine r_iload_n hJ dX2_leastEndOf_14 rfl jg3 ?_
        refine r_ialdO hJ (by omega) (alP2 ho (by omega)) rfl dX2_leastEndOf_15 ?_
        refine r_iload_n hJ dX2_leastEndOf_16 rfl jg1 ?_
        refine r_icmp_ne hJ (tgt := 51) dX2_leastEndOf_17 (by decide) (fun c17 => ?_) (fun c17 => ?_)
        · refine r_iinc hJ dX2_leastEndOf_51 jg3 (ii1 _) (jp3 rfl rfl) ?_
          refine r_goto hJ (tgt := 4) dX2_leastEndOf_54 (by decide) ?_
          exact ih (i + 1) _ (by omega) (by rw [← he, leastE, if_neg (by simp [c17])])
        · refine r_aload_n hJ dX2_leastEndOf_20 rfl jg0 ?_
          refine r_iload_n hJ dX2_leastEndOf_21 rfl jg3 ?_
          refine r_V1v hJ kX2_95 (rcv2 E ho) (c2_stateOf l E S x P ho (n := i) (by omega)) dX2_leastEndOf_22 ⟨by decide, by decide⟩ (Nat.le_of_ble_eq_true rfl) ?_
          refine r_iconst hJ (v := nI 1) dX2_leastEndOf_25 (by decide) ?_
          refine r_icmp_ne hJ (tgt := 51) dX2_leastEndOf_26 (by decide) (fun c26 => ?_) (fun c26 => ?_)
          · refine r_iinc hJ dX2_leastEndOf_51 jg3 (ii1 _) (jp3 rfl rfl) ?_
            refine r_goto hJ (tgt := 4) dX2_leastEndOf_54 (by decide) ?_
            exact ih (i + 1) _ (by omega) (by rw [← he, leastE, if_neg (by simp [c17, c26])])
          · refine r_iload_n hJ dX2_leastEndOf_29 rfl jg2 ?_
            refine r_iconst hJ (v := (-1)) dX2_leastEndOf_30 (by decide) ?_
            refine r_icmp_eq hJ (tgt := 44) dX2_leastEndOf_31 (by decide) (fun c31 => ?_) (fun c31 => ?_)
            · refine r_aload_n hJ dX2_leastEndOf_44 rfl jg0 ?_
              refine r_g2_7 hJ ho m61 dX2_leastEndOf_45 ?_
              refine r_iload_n hJ dX2_leastEndOf_48 rfl jg3 ?_
              refine r_ialdO hJ (by omega) (alP4 ho (by omega)) rfl dX2_leastEndOf_49 ?_
              refine r_istore_n hJ dX2_leastEndOf_50 rfl (jp2 rfl rfl) ?_
              refine r_iinc hJ dX2_leastEndOf_51 jg3 (ii1 _) (jp3 rfl rfl) ?_
              refine r_goto hJ (tgt := 4) dX2_leastEndOf_54 (by decide) ?_
              exact ih (i + 1) _ (by omega) (by rw [← he, leastE, if_pos ⟨c17, c26, Or.inl c31⟩])
            · refine r_aload_n hJ dX2_leastEndOf_34 rfl jg0 ?_
              refine r_g2_7 hJ ho m61 dX2_leastEndOf_35 ?_
              refine r_iload_n hJ dX2_leastEndOf_38 rfl jg3 ?_
              refine r_ialdO hJ (by omega) (alP4 ho (by omega)) rfl dX2_leastEndOf_39 ?_
              refine r_iload_n hJ dX2_leastEndOf_40 rfl jg2 ?_
              refine r_icmp_ge hJ (tgt := 51) dX2_leastEndOf_41 (by decide) (fun c41 => ?_) (fun c41 => ?_)
              · refine r_iinc hJ dX2_leastEndOf_51 jg3 (ii1 _) (jp3 rfl rfl) ?_
                refine r_goto hJ (tgt := 4) dX2_leastEndOf_54 (by decide) ?_
                exact ih (i + 1) _ (by omega) (by rw [← he, leastE, if_neg (fun q => q.2.2.elim c31 (fun r => absurd c41 (Int32.not_le.mpr r)))])
              · refine r_aload_n hJ dX2_leastEndOf_44 rfl jg0 ?_
                refine r_g2_7 hJ ho m61 dX2_leastEndOf_45 ?_
                refine r_iload_n hJ dX2_leastEndOf_48 rfl jg3 ?_
                refine r_ialdO hJ (by omega) (alP4 ho (by omega)) rfl dX2_leastEndOf_49 ?_
                refine r_istore_n hJ dX2_leastEndOf_50 rfl (jp2 rfl rfl) ?_
                refine r_iinc hJ dX2_leastEndOf_51 jg3 (ii1 _) (jp3 rfl rfl) ?_
                refine r_goto hJ (tgt := 4) dX2_leastEndOf_54 (by decide) ?_
                exact ih (i + 1) _ (by omega) (by rw [← he, leastE, if_pos ⟨c17, c26, Or.inr (Int32.not_le.mp c41)⟩])
  refine r_iconst hJ (v := (-1)) dX2_leastEndOf_0 (by decide) ?_
  refine r_istore_n hJ dX2_leastEndOf_1 rfl (jp2 rfl rfl) ?_
  refine r_iconst hJ (v := nI 0) dX2_leastEndOf_2 (by decide) ?_
  refine r_istore_n hJ dX2_leastEndOf_3 rfl (jp3 rfl rfl) ?_
  exact loop 64 0 _ (by omega) rfl

def longN (P : jO) (z : Nat) : Nat → Nat → Nat → Nat
  | 0, _, v => v
  | k + 1, n, v => longN P z k (n + 1) (if v < rowP P z n then rowP P z n else v)
theorem rowP_le (P : jO) (z n : Nat) : rowP P z n ≤ z := by
  have := row_le (frP P) (z - n) n
  unfold rowP
  omega
def stS (P : jO) (n : Nat) : Bool := decide (P 2 n = -1) && (decide (n = 0) || !decide (P 2 (n - 1) = -1))
def spanAt (P : jO) (q : Int32) : Nat → Nat → Nat → Option Nat
  | 0, _, _ => none
  | k + 1, n, c => if stS P n then (if nI c = q then some n else spanAt P q k (n + 1) (c + 1)) else spanAt P q k (n + 1) c
theorem spanAt_lt {P : jO} {q : Int32} : ∀ {k n c i : Nat}, spanAt P q k n c = some i → n ≤ i ∧ i < n + k
  | 0, n, c, i, h => by simp [spanAt] at h
  | k + 1, n, c, i, h => by
    rw [spanAt] at h
    split at h
    · split at h
      · cases h
        omega
      · have := spanAt_lt h
        omega
    · have := spanAt_lt h
      omega
set_option maxRecDepth 100000 in
set_option maxHeartbeats 1000000 in
theorem c2_longestRow (l : Launch) (E : jE) (S : jS) (x : jX) (P : jO) {o : Nat} (ho : o < 8) {z : Nat} (hz : P 1 3 = nI z) (hz4 : z ≤ 64) : Ct l E yX2_longestRow cX2_longestRow 3 (some .int) 2 [.ref (ad E o 0)] (setO S o P, x) (some (.int (nI (longN P z z 0 0)))) (setO S o P, x) := by
  refine Ct.of (by decide +kernel) (Nat.le_refl _) (Nat.le_of_ble_eq_true rfl) rfl (fun J hJ hF => ?_)
  have loop : ∀ (k i v : Nat), i + k = z → v ≤ 64 → longN P z k i v = longN P z z 0 0 → J (setO S o P, x) 4 [some (.ref (ad E o 0)), some (.int (nI v)), some (.int (nI i))] [] := by
    intro k
    induction k with
    | zero =>
      intro i v hi hv he
      obtain rfl : i = z := by omega
      refine r_iload_n hJ dX2_longestRow_4 rfl jg2 ?_
      refine r_aload_n hJ dX2_longestRow_5 rfl jg0 ?_
      refine r_g2_4 hJ ho m56 dX2_longestRow_6 ?_
      refine r_iconst hJ (v := nI 3) dX2_longestRow_9 (by decide) ?_
      refine r_ialdO hJ (by omega) (alP1 ho (by omega)) rfl dX2_longestRow_10 ?_
      refine r_icmp_ge hJ (tgt := 30) dX2_longestRow_11 (by decide) (fun c11 => ?_) (fun c11 => ?_)
      · refine r_iload_n hJ dX2_longestRow_30 rfl jg1 ?_
        exact ret_i hF dX2_longestRow_31 (by rw [← he]; rfl) rfl
      · rw [hz] at c11
        exact absurd (nI_le (by omega) (by omega)) c11
    | succ k ih =>
      intro i v hi hv he
      refine r_iload_n hJ dX2_longestRow_4 rfl jg2 ?_
      refine r_aload_n hJ dX2_longestRow_5 rfl jg0 ?_
      refine r_g2_4 hJ ho m56 dX2_longestRow_6 ?_
      refine r_iconst hJ (v := nI 3) dX2_longestRow_9 (by decide) ?_
      refine r_ialdO hJ (by omega) (alP1 ho (by omega)) rfl dX2_longestRow_10 ?_
      refine r_icmp_ge hJ (tgt := 30) dX2_longestRow_11 (by decide) (fun c11 => ?_) (fun c11 => ?_)
      · rw [hz] at c11
        exact absurd c11 (nI_ge (by omega) (by omega))
      · refine r_iload_n hJ dX2_longestRow_14 rfl jg1 ?_
        refine r_aload_n hJ dX2_longestRow_15 rfl jg0 ?_
        refine r_iload_n hJ dX2_longestRow_16 rfl jg2 ?_
        refine r_V1v hJ kX2_127 (rcv2 E ho) (c2_rowFrom l E S x P ho hz hz4 (f := i) (by omega)) dX2_longestRow_17 ⟨by decide, by decide⟩ (Nat.le_of_ble_eq_true rfl) ?_
        have hrz := rowP_le P z i
        refine r_max hJ ⟨m280, m281, m35, m282⟩ dX2_longestRow_20 (by decide) (Nat.le_of_ble_eq_true rfl) ?_
        rw [show (if nI v < nI (rowP P z i) then nI (rowP P z i) else nI v) = nI (if v < rowP P z i then rowP P z i else v) from by simp only [nI_ltI (show v < 2 ^ 31 by omega) (show rowP P z i < 2 ^ 31 by omega)]; split <;> rfl]
        refine r_istore_n hJ dX2_longestRow_23 rfl (jp1 rfl rfl) ?_
        refine r_iinc hJ dX2_longestRow_24 jg2 (ii1 _) (jp2 rfl rfl) ?_
        refine r_goto hJ (tgt := 4) dX2_longestRow_27 (by decide) ?_
        exact ih (i + 1) _ (by omega) (by split <;> omega) he
  refine r_iconst hJ (v := nI 0) dX2_longestRow_0 (by decide) ?_
  refine r_istore_n hJ dX2_longestRow_1 rfl (jp1 rfl rfl) ?_
  refine r_iconst hJ (v := nI 0) dX2_longestRow_2 (by decide) ?_
  refine r_istore_n hJ dX2_longestRow_3 rfl (jp2 rfl rfl) ?_
  exact loop z 0 0 (by omega) (by omega) rfl

set_option maxRecDepth 100000 in
set_option maxHeartbeats 1000000 in
theorem c2_startsSpan (l : Launch) (E : jE) (S : jS) (x : jX) (P : jO) {o : Nat} (ho : o < 8) {n : Nat} (hn : n < 64) : Ct l E yX2_startsSpan cX2_startsSpan 2 (some .boolean) 1 [.ref (ad E o 0), .int (nI n)] (setO S o P, x) (some (.int (bI (stS P n)))) (setO S o P, x) := by
  refine Ct.of (by decide +kernel) (Nat.le_refl _) (Nat.le_of_ble_eq_true rfl) rfl (fun J hJ hF => ?_)
  refine r_aload_n hJ dX2_startsSpan_0 rfl jg0 ?_
  refine r_g2_5 hJ ho m58 dX2_startsSpan_1 ?_
  refine r_iload_n hJ dX2_startsSpan_4 rfl jg1 ?_
  refine r_ialdO hJ (by omega) (alP2 ho (by omega)) rfl dX2_startsSpan_5 ?_
  refine r_iconst hJ (v := (-1)) dX2_startsSpan_6 (by decide) ?_
  refine r_icmp_ne hJ (tgt := 30) dX2_startsSpan_7 (by decide) (fun c7 => ?_) (fun c7 => ?_)
  · refine r_iconst hJ (v := nI 0) dX2_startsSpan_30 (by decide) ?_
    exact ret_z hF dX2_startsSpan_31 (by decide) (by simp [stS, bI, nI0, nI1, c7]) rfl
  · refine r_iload_n hJ dX2_startsSpan_10 rfl jg1 ?_
    refine r_if_eq hJ (tgt := 26) dX2_startsSpan_11 (by decide) (fun c11 => ?_) (fun c11 => ?_)
    · rw [show (0 : Int32) = nI 0 from rfl, nI_eq (by omega) (by decide)] at c11
      rw [c11] at c7
      refine r_iconst hJ (v := nI 1) dX2_startsSpan_26 (by decide) ?_
      refine r_goto hJ (tgt := 31) dX2_startsSpan_27 (by decide) ?_
      exact ret_z hF dX2_startsSpan_31 (by decide) (by simp [stS, bI, nI0, nI1, c7, c11]) rfl
    · rw [show (0 : Int32) = nI 0 from rfl, nI_eq (by omega) (by decide)] at c11
      refine r_aload_n hJ dX2_startsSpan_14 rfl jg0 ?_
      refine r_g2_5 hJ ho m58 dX2_startsSpan_15 ?_
      refine r_iload_n hJ dX2_startsSpan_18 rfl jg1 ?_
      refine r_iconst hJ (v := nI 1) dX2_startsSpan_19 (by decide) ?_
      refine r_isub hJ dX2_startsSpan_20 ?_
      rw [pk_sub (by omega)]
      refine r_ialdO hJ (by omega) (alP2 ho (by omega)) rfl dX2_startsSpan_21 ?_
      refine r_iconst hJ (v := (-1)) dX2_startsSpan_22 (by decide) ?_
      refine r_icmp_eq hJ (tgt := 30) dX2_startsSpan_23 (by decide) (fun c23 => ?_) (fun c23 => ?_)
      · refine r_iconst hJ (v := nI 0) dX2_startsSpan_30 (by decide) ?_
        exact ret_z hF dX2_startsSpan_31 (by decide) (by simp [stS, bI, nI0, nI1, c7, c11, c23]) rfl
      · refine r_iconst hJ (v := nI 1) dX2_startsSpan_26 (by decide) ?_
        refine r_goto hJ (tgt := 31) dX2_startsSpan_27 (by decide) ?_
        exact ret_z hF dX2_startsSpan_31 (by decide) (by simp [stS, bI, nI0, nI1, c7, c11, c23]) rfl

set_option maxRecDepth 100000 in
set_option maxHeartbeats 1000000 in
theorem c2_spans (l : Launch) (E : jE) (S : jS) (x : jX) (P : jO) {o : Nat} (ho : o < 8) {z : Nat} (hz : P 1 3 = nI z) (hz4 : z ≤ 64) : Ct l E yX2_spans cX2_spans 3 (some .int) 2 [.ref (ad E o 0)] (setO S o P, x) (some (.int (nI (cnt (stS P) z)))) (setO S o P, x) := by
  refine Ct.of (by decide +kernel) (Nat.le_refl _) (Nat.le_of_ble_eq_true rfl) rfl (fun J hJ hF => ?_)
  have loop : ∀ (k i : Nat), i + k = z → J (setO S o P, x) 4 [some (.ref (ad E o 0)), some (.int (nI (cnt (stS P) i))), some (.int (nI i))] [] := by
    intro k
    induction k with
    | zero =>
      intro i hi
      obtain rfl : i = z := by omega
      refine r_iload_n hJ dX2_spans_4 rfl jg2 ?_
      refine r_aload_n hJ dX2_spans_5 rfl jg0 ?_
      refine r_g2_4 hJ ho m56 dX2_spans_6 ?_
      refine r_iconst hJ (v := nI 3) dX2_spans_9 (by decide) ?_
      refine r_ialdO hJ (by omega) (alP1 ho (by omega)) rfl dX2_spans_10 ?_
      refine r_icmp_ge hJ (tgt := 31) dX2_spans_11 (by decide) (fun c11 => ?_) (fun c11 => ?_)
      · rw [hz] at c11
        refine r_iload_n hJ dX2_spans_31 rfl jg1 ?_
        exact ret_i hF dX2_spans_32 rfl rfl
      · rw [hz] at c11
        exact absurd (nI_le (by omega) (by omega)) c11
    | succ k ih =>
      intro i hi
      refine r_iload_n hJ dX2_spans_4 rfl jg2 ?_
      refine r_aload_n hJ dX2_spans_5 rfl jg0 ?_
      refine r_g2_4 hJ ho m56 dX2_spans_6 ?_
      refine r_iconst hJ (v := nI 3) dX2_spans_9 (by decide) ?_
      refine r_ialdO hJ (by omega) (alP1 ho (by omega)) rfl dX2_spans_10 ?_
      refine r_icmp_ge hJ (tgt := 31) dX2_spans_11 (by decide) (fun c11 => ?_) (fun c11 => ?_)
      · rw [hz] at c11
        exact absurd c11 (nI_ge (by omega) (by omega))
      · rw [hz] at c11
        refine r_aload_n hJ dX2_spans_14 rfl jg0 ?_
        refine r_iload_n hJ dX2_spans_15 rfl jg2 ?_
        refine r_V1v hJ kX2_150 (rcv2 E ho) (c2_startsSpan l E S x P ho (n := i) (by omega)) dX2_spans_16 ⟨by decide, by decide⟩ (Nat.le_of_ble_eq_true rfl) ?_
        refine r_if_eq hJ (tgt := 25) dX2_spans_19 (by decide) (fun c19 => ?_) (fun c19 => ?_)
        · rw [bI_0] at c19
          have e : cnt (stS P) (i + 1) = cnt (stS P) i := by simp [cnt, c19]
          rw [← e]
          refine r_iinc hJ dX2_spans_25 jg2 (ii1 _) (jp2 rfl rfl) ?_
          refine r_goto hJ (tgt := 4) dX2_spans_28 (by decide) ?_
          exact ih (i + 1) (by omega)
        · rw [bI_0, Bool.not_eq_false] at c19
          have e : cnt (stS P) (i + 1) = cnt (stS P) i + 1 := by simp [cnt, c19]
          refine r_iinc hJ dX2_spans_22 jg1 (ii1 _) (jp1 rfl rfl) ?_
          rw [← e]
          refine r_iinc hJ dX2_spans_25 jg2 (ii1 _) (jp2 rfl rfl) ?_
          refine r_goto hJ (tgt := 4) dX2_spans_28 (by decide) ?_
          exact ih (i + 1) (by omega)
  refine r_iconst hJ (v := nI 0) dX2_spans_0 (by decide) ?_
  refine r_istore_n hJ dX2_spans_1 rfl (jp1 rfl rfl) ?_
  refine r_iconst hJ (v := nI 0) dX2_spans_2 (by decide) ?_
  refine r_istore_n hJ dX2_spans_3 rfl (jp2 rfl rfl) ?_
  exact loop z 0 (by omega)

set_option maxRecDepth 100000 in
set_option maxHeartbeats 1000000 in
theorem c2_startOfSpan (l : Launch) (E : jE) (S : jS) (x : jX) (P : jO) {o : Nat} (ho : o < 8) {z : Nat} (hz : P 1 3 = nI z) (hz4 : z ≤ 64) (q : Int32) : Ct l E yX2_startOfSpan cX2_startOfSpan 4 (some .int) 2 [.ref (ad E o 0), .int q] (setO S o P, x) (some (.int (oI (spanAt P q z 0 0)))) (setO S o P, x) := by
  refine Ct.of (by decide +kernel) (Nat.le_refl _) (Nat.le_of_ble_eq_true rfl) rfl (fun J hJ hF => ?_)
  have loop : ∀ (k i c : Nat), i + k = z → spanAt P q k i c = spanAt P q z 0 0 → J (setO S o P, x) 4 [some (.ref (ad E o 0)), some (.int q), some (.int (nI c)), some (.int (nI i))] [] := by
    intro k
    induction k with
    | zero =>
      intro i c hi he
      obtain rfl : i = z := by omega
      refine r_iload_n hJ dX2_startOfSpan_4 rfl jg3 ?_
      refine r_aload_n hJ dX2_startOfSpan_5 rfl jg0 ?_
      refine r_g2_4 hJ ho m56 dX2_startOfSpan_6 ?_
      refine r_iconst hJ (v := nI 3) dX2_startOfSpan_9 (by decide) ?_
      refine r_ialdO hJ (by omega) (alP1 ho (by omega)) rfl dX2_startOfSpan_10 ?_
      refine r_icmp_ge hJ (tgt := 38) dX2_startOfSpan_11 (by decide) (fun c11 => ?_) (fun c11 => ?_)
      · refine r_iconst hJ (v := (-1)) dX2_startOfSpan_38 (by decide) ?_
        exact ret_i hF dX2_startOfSpan_39 (by rw [← he]; rfl) rfl
      · rw [hz] at c11
        exact absurd (nI_le (by omega) (by omega)) c11
    | succ k ih =>
      intro i c hi he
      refine r_iload_n hJ dX2_startOfSpan_4 rfl jg3 ?_
      refine r_aload_n hJ dX2_startOfSpan_5 rfl jg0 ?_
      refine r_g2_4 hJ ho m56 dX2_startOfSpan_6 ?_
      refine r_iconst hJ (v := nI 3) dX2_startOfSpan_9 (by decide) ?_
      refine r_ialdO hJ (by omega) (alP1 ho (by omega)) rfl dX2_startOfSpan_10 ?_
      refine r_icmp_ge hJ (tgt := 38) dX2_startOfSpan_11 (by decide) (fun c11 => ?_) (fun c11 => ?_)
      · rw [hz] at c11
        exact absurd c11 (nI_ge (by omega) (by omega))
      · rw [hz] at c11
        refine r_aload_n hJ dX2_startOfSpan_14 rfl jg0 ?_
        refine r_iload_n hJ dX2_startOfSpan_15 rfl jg3 ?_
        refine r_V1v hJ kX2_150 (rcv2 E ho) (c2_startsSpan l E S x P ho (n := i) (by omega)) dX2_startOfSpan_16 ⟨by decide, by decide⟩ (Nat.le_of_ble_eq_true rfl) ?_
        refine r_if_eq hJ (tgt := 32) dX2_startOfSpan_19 (by decide) (fun c19 => ?_) (fun c19 => ?_)
        · rw [bI_0] at c19
          refine r_iinc hJ dX2_startOfSpan_32 jg3 (ii1 _) (jp3 rfl rfl) ?_
          refine r_goto hJ (tgt := 4) dX2_startOfSpan_35 (by decide) ?_
          exact ih (i + 1) c (by omega) (by rw [← he, spanAt, if_neg (by simp [c19])])
        · rw [bI_0, Bool.not_eq_false] at c19
          refine r_iload_n hJ dX2_startOfSpan_22 rfl jg2 ?_
          refine r_iload_n hJ dX2_startOfSpan_23 rfl jg1 ?_
          refine r_icmp_ne hJ (tgt := 29) dX2_startOfSpan_24 (by decide) (fun c24 => ?_) (fun c24 => ?_)
          · refine r_iinc hJ dX2_startOfSpan_29 jg2 (ii1 _) (jp2 rfl rfl) ?_
            refine r_iinc hJ dX2_startOfSpan_32 jg3 (ii1 _) (jp3 rfl rfl) ?_
            refine r_goto hJ (tgt := 4) dX2_startOfSpan_35 (by decide) ?_
            exact ih (i + 1) (c + 1) (by omega) (by rw [← he, spanAt, if_pos c19, if_neg c24])
          · refine r_iload_n hJ dX2_startOfSpan_27 rfl jg3 ?_
            exact ret_i hF dX2_startOfSpan_28 (by rw [← he, spanAt, if_pos c19, if_pos c24]; rfl) rfl
  refine r_iconst hJ (v := nI 0) dX2_startOfSpan_0 (by decide) ?_
  refine r_istore_n hJ dX2_startOfSpan_1 rfl (jp2 rfl rfl) ?_
  refine r_iconst hJ (v := nI 0) dX2_startOfSpan_2 (by decide) ?_
  refine r_istore_n hJ dX2_startOfSpan_3 rfl (jp3 rfl rfl) ?_
  exact loop z 0 0 (by omega) rfl

def ofSp (P : jO) (z : Nat) (q w : Int32) : Int32 := match spanAt P q z 0 0 with
  | none => -1
  | some i => if w = 0 then nI i else nI (rowP P z i)
theorem spanAt_m1 {P : jO} {q : Int32} {z : Nat} (hz : z ≤ 64) : oI (spanAt P q z 0 0) = -1 ↔ spanAt P q z 0 0 = none := oI_m1 fun n h => by have := (spanAt_lt h).2; omega
set_option maxRecDepth 100000 in
set_option maxHeartbeats 1000000 in
theorem c2_ofSpan (l : Launch) (E : jE) (S : jS) (x : jX) (P : jO) {o : Nat} (ho : o < 8) {z : Nat} (hz : P 1 3 = nI z) (hz4 : z ≤ 64) (q w : Int32) : Ct l E yX2_ofSpan cX2_ofSpan 4 (some .int) 3 [.ref (ad E o 0), .int q, .int w] (setO S o P, x) (some (.int (ofSp P z q w))) (setO S o P, x) := by
  refine Ct.of (by decide +kernel) (Nat.le_refl _) (Nat.le_of_ble_eq_true rfl) rfl (fun J hJ hF => ?_)
  refine r_aload_n hJ dX2_ofSpan_0 rfl jg0 ?_
  refine r_iload_n hJ dX2_ofSpan_1 rfl jg1 ?_
  refine r_V1v hJ kX2_124 (rcv2 E ho) (c2_startOfSpan l E S x P ho hz hz4 q) dX2_ofSpan_2 ⟨by decide, by decide⟩ (Nat.le_of_ble_eq_true rfl) ?_
  refine r_istore_n hJ dX2_ofSpan_5 rfl (jp3 rfl rfl) ?_
  refine r_iload_n hJ dX2_ofSpan_6 rfl jg3 ?_
  refine r_iconst hJ (v := (-1)) dX2_ofSpan_7 (by decide) ?_
  refine r_icmp_eq hJ (tgt := 15) dX2_ofSpan_8 (by decide) (fun c8 => ?_) (fun c8 => ?_)
  · rw [spanAt_m1 hz4] at c8
    refine r_iload_n hJ dX2_ofSpan_15 rfl jg3 ?_
    first | exact ret_i hF dX2_ofSpan_16 (by unfold ofSp; rw [c8]; rfl) rfl | exact ret_i hF dX2_ofSpan_16 (by unfold ofSp; rw [hi]; simp [oI, c12]) rfl
  · rw [spanAt_m1 hz4] at c8
    obtain ⟨i, hi⟩ := Option.ne_none_iff_exists'.mp c8
    have hi2 := (spanAt_lt hi).2
    rw [hi]
    refine r_iload_n hJ dX2_ofSpan_11 rfl jg2 ?_
    refine r_if_ne hJ (tgt := 17) dX2_ofSpan_12 (by decide) (fun c12 => ?_) (fun c12 => ?_)
    · refine r_aload_n hJ dX2_ofSpan_17 rfl jg0 ?_
      refine r_iload_n hJ dX2_ofSpan_18 rfl jg3 ?_
      refine r_V1v hJ kX2_127 (rcv2 E ho) (c2_rowFrom l E S x P ho hz hz4 (f := i) (by omega)) dX2_ofSpan_19 ⟨by decide, by decide⟩ (Nat.le_of_ble_eq_true rfl) ?_
      exact ret_i hF dX2_ofSpan_22 (by unfold ofSp; rw [hi]; simp [c12]) rfl
    · refine r_iload_n hJ dX2_ofSpan_15 rfl jg3 ?_
      first | exact ret_i hF dX2_ofSpan_16 (by unfold ofSp; rw [c8]; rfl) rfl | exact ret_i hF dX2_ofSpan_16 (by unfold ofSp; rw [hi]; simp [oI, c12]) rfl
end
section
def sumA (f : Nat → Int32) : Nat → Int32
  | 0 => 0
  | n + 1 => sumA f n + f n
set_option maxRecDepth 100000 in
set_option maxHeartbeats 1000000 in
theorem c4_sum (l : Launch) (E : jE) (S : jS) (x : jX) {o j n : Nat} (ho : o < 13) (hp : 0 < n) (hn : aln o j = n) : Ct l E yX4_sum cX4_sum 6 (some .int) 1 [.ref (ad E o j)] (S, x) (some (.int (sumA (S o j) n))) (S, x) := by
  refine Ct.of (by decide +kernel) (Nat.le_refl _) (Nat.le_of_ble_eq_true rfl) rfl (fun J hJ hF => ?_)
  have ha := aln_le o j
  have loop : ∀ (k i : Nat) (v5 : Option Value), i + k = n → J (S, x) 10 [some (.ref (ad E o j)), some (.int (sumA (S o j) i)), some (.ref (ad E o j)), some (.int (nI n)), some (.int (nI i)), v5] [] := by
    intro k
    induction k with
    | zero =>
      intro i v5 hi
      obtain rfl : i = n := by omega
      refine r_iload hJ dX4_sum_10 jg4 ?_
      refine r_iload_n hJ dX4_sum_12 rfl jg3 ?_
      refine r_icmp_ge hJ (tgt := 33) dX4_sum_13 (by decide) (fun c13 => ?_) (fun c13 => ?_)
      · refine r_iload_n hJ dX4_sum_33 rfl jg1 ?_
        exact ret_i hF dX4_sum_34 rfl rfl
      · exact absurd (nI_le (by omega) (by omega)) c13
    | succ k ih =>
      intro i v5 hi
      refine r_iload hJ dX4_sum_10 jg4 ?_
      refine r_iload_n hJ dX4_sum_12 rfl jg3 ?_
      refine r_icmp_ge hJ (tgt := 33) dX4_sum_13 (by decide) (fun c13 => ?_) (fun c13 => ?_)
      · exact absurd c13 (nI_ge (by omega) (by omega))
      · refine r_aload_n hJ dX4_sum_16 rfl jg2 ?_
        refine r_iload hJ dX4_sum_17 jg4 ?_
        refine r_iald hJ (by omega) (by rw [hn]; omega) rfl dX4_sum_19 ?_
        refine r_istore hJ dX4_sum_20 (jp5 rfl rfl) ?_
        refine r_iload_n hJ dX4_sum_22 rfl jg1 ?_
        refine r_iload hJ dX4_sum_23 jg5 ?_
        refine r_iadd hJ dX4_sum_25 ?_
        refine r_istore_n hJ dX4_sum_26 rfl (jp1 rfl rfl) ?_
        refine r_iinc hJ dX4_sum_27 jg4 (ii1 _) (jp4 rfl rfl) ?_
        refine r_goto hJ (tgt := 10) dX4_sum_30 (by decide) ?_
        exact ih (i + 1) _ (by omega)
  refine r_iconst hJ (v := nI 0) dX4_sum_0 (by decide) ?_
  refine r_istore_n hJ dX4_sum_1 rfl (jp1 rfl rfl) ?_
  refine r_aload_n hJ dX4_sum_2 rfl jg0 ?_
  refine r_astore_n hJ dX4_sum_3 rfl (jp2 rfl rfl) ?_
  refine r_aload_n hJ dX4_sum_4 rfl jg2 ?_
  refine r_alen hJ (by omega) (by omega) (by rw [hn]) dX4_sum_5 ?_
  refine r_istore_n hJ dX4_sum_6 rfl (jp3 rfl rfl) ?_
  refine r_iconst hJ (v := nI 0) dX4_sum_7 (by decide) ?_
  refine r_istore hJ dX4_sum_8 (jp4 rfl rfl) ?_
  exact loop n 0 _ (by omega)

def ofN (P : jO) (n : Nat) : Nat → Int32
  | 0 => stg P n
  | 1 => P 2 n
  | 2 => if P 2 n = -1 then -1 else P 3 n
  | 3 => if P 2 n = -1 then -1 else P 4 n
  | 4 => if P 2 n = -1 then -1 else P 5 n
  | 5 => P 7 n
  | 6 => if 0 < P 7 n then P 8 (n * 3) else -1
  | 7 => if 0 < P 7 n then P 9 (n * 3) else -1
  | _ => P 6 n
theorem le8 {q : Nat} (h : q ≤ 8) : q = 0 ∨ q = 1 ∨ q = 2 ∨ q = 3 ∨ q = 4 ∨ q = 5 ∨ q = 6 ∨ q = 7 ∨ q = 8 := by omega
theorem le7 {q : Nat} (h : q ≤ 7) : q = 0 ∨ q = 1 ∨ q = 2 ∨ q = 3 ∨ q = 4 ∨ q = 5 ∨ q = 6 ∨ q = 7 := by omega
theorem le11 {q : Nat} (h : q ≤ 11) : q = 0 ∨ q = 1 ∨ q = 2 ∨ q = 3 ∨ q = 4 ∨ q = 5 ∨ q = 6 ∨ q = 7 ∨ q = 8 ∨ q = 9 ∨ q = 10 ∨ q = 11 := by omega
set_option maxRecDepth 100000 in
set_option maxHeartbeats 1000000 in
theorem c2_ofNumber (l : Launch) (E : jE) (S : jS) (x : jX) (P : jO) {o : Nat} (ho : o < 8) {n : Nat} (hn : n < 64) {q : Nat} (hq : q ≤ 8) : Ct l E yX2_ofNumber cX2_ofNumber 5 (some .int) 2 [.ref (ad E o 0), .int (nI n), .int (nI q)] (setO S o P, x) (some (.int (ofN P n q))) (setO S o P, x) := by
  refine Ct.of (by decide +kernel) (Nat.le_refl _) (Nat.le_of_ble_eq_true rfl) rfl (fun J hJ hF => ?_)
  have sw : ∀ v3 v4 : Int32, v3 = bI (decide (P 2 n = -1)) → v4 = bI (decide (0 < P 7 n)) → J (setO S o P, x) 32 [some (.ref (ad E o 0)), some (.int (nI n)), some (.int (nI q)), some (.int v3), some (.int v4)] [] := by
    intro v3 v4 h3 h4
    rcases le8 hq with rfl | rfl | rfl | rfl | rfl | rfl | rfl | rfl | rfl
    · refine r_iload_n hJ dX2_ofNumber_32 rfl jg2 ?_
      refine r_tableIn hJ (off := 47) (tgt := 80) dX2_ofNumber_33 (by decide) (by decide) (by decide) (by decide) ?_
      refine r_aload_n hJ dX2_ofNumber_80 rfl jg0 ?_
      refine r_iload_n hJ dX2_ofNumber_81 rfl jg1 ?_
      refine r_V1v hJ kX2_95 (rcv2 E ho) (c2_stateOf l E S x P ho hn) dX2_ofNumber_82 ⟨by decide, by decide⟩ (Nat.le_of_ble_eq_true rfl) ?_
      exact ret_i hF dX2_ofNumber_85 (by simp [ofN, ]) rfl
    · refine r_iload_n hJ dX2_ofNumber_32 rfl jg2 ?_
      refine r_tableIn hJ (off := 53) (tgt := 86) dX2_ofNumber_33 (by decide) (by decide) (by decide) (by decide) ?_
      refine r_aload_n hJ dX2_ofNumber_86 rfl jg0 ?_
      refine r_g2_5 hJ ho m58 dX2_ofNumber_87 ?_
      refine r_iload_n hJ dX2_ofNumber_90 rfl jg1 ?_
      refine r_ialdO hJ (by omega) (alP2 ho (by omega)) rfl dX2_ofNumber_91 ?_
      exact ret_i hF dX2_ofNumber_92 (by simp [ofN, ]) rfl
    · refine r_iload_n hJ dX2_ofNumber_32 rfl jg2 ?_
      refine r_tableIn hJ (off := 60) (tgt := 93) dX2_ofNumber_33 (by decide) (by decide) (by decide) (by decide) ?_
      refine r_iload_n hJ dX2_ofNumber_93 rfl jg3 ?_
      refine r_if_eq hJ (tgt := 101) dX2_ofNumber_94 (by decide) (fun c94 => ?_) (fun c94 => ?_)
      · simp only [h3, bI_0, decide_eq_false_iff_not, Decidable.not_not] at c94
        refine r_aload_n hJ dX2_ofNumber_101 rfl jg0 ?_
        refine r_g2_6 hJ ho m60 dX2_ofNumber_102 ?_
        refine r_iload_n hJ dX2_ofNumber_105 rfl jg1 ?_
        refine r_ialdO hJ (by omega) (alP3 ho (by omega)) rfl dX2_ofNumber_106 ?_
        exact ret_i hF dX2_ofNumber_107 (by simp [ofN, c94]) rfl
      · simp only [h3, bI_0, decide_eq_false_iff_not, Decidable.not_not] at c94
        refine r_iconst hJ (v := (-1)) dX2_ofNumber_97 (by decide) ?_
        refine r_goto hJ (tgt := 107) dX2_ofNumber_98 (by decide) ?_
        exact ret_i hF dX2_ofNumber_107 (by simp [ofN, c94]) rfl
    · refine r_iload_n hJ dX2_ofNumber_32 rfl jg2 ?_
      refine r_tableIn hJ (off := 75) (tgt := 108) dX2_ofNumber_33 (by decide) (by decide) (by decide) (by decide) ?_
      refine r_iload_n hJ dX2_ofNumber_108 rfl jg3 ?_
      refine r_if_eq hJ (tgt := 116) dX2_ofNumber_109 (by decide) (fun c109 => ?_) (fun c109 => ?_)
      · simp only [h3, bI_0, decide_eq_false_iff_not, Decidable.not_not] at c109
        refine r_aload_n hJ dX2_ofNumber_116 rfl jg0 ?_
        refine r_g2_7 hJ ho m61 dX2_ofNumber_117 ?_
        refine r_iload_n hJ dX2_ofNumber_120 rfl jg1 ?_
        refine r_ialdO hJ (by omega) (alP4 ho (by omega)) rfl dX2_ofNumber_121 ?_
        exact ret_i hF dX2_ofNumber_122 (by simp [ofN, c109]) rfl
      · simp only [h3, bI_0, decide_eq_false_iff_not, Decidable.not_not] at c109
        refine r_iconst hJ (v := (-1)) dX2_ofNumber_112 (by decide) ?_
        refine r_goto hJ (tgt := 122) dX2_ofNumber_113 (by decide) ?_
        exact ret_i hF dX2_ofNumber_122 (by simp [ofN, c109]) rfl
    · refine r_iload_n hJ dX2_ofNumber_32 rfl jg2 ?_
      refine r_tableIn hJ (off := 90) (tgt := 123) dX2_ofNumber_33 (by decide) (by decide) (by decide) (by decide) ?_
      refine r_iload_n hJ dX2_ofNumber_123 rfl jg3 ?_
      refine r_if_eq hJ (tgt := 131) dX2_ofNumber_124 (by decide) (fun c124 => ?_) (fun c124 => ?_)
      · simp only [h3, bI_0, decide_eq_false_iff_not, Decidable.not_not] at c124
        refine r_aload_n hJ dX2_ofNumber_131 rfl jg0 ?_
        refine r_g2_8 hJ ho m62 dX2_ofNumber_132 ?_
        refine r_iload_n hJ dX2_ofNumber_135 rfl jg1 ?_
        refine r_ialdO hJ (by omega) (alP5 ho (by omega)) rfl dX2_ofNumber_136 ?_
        exact ret_i hF dX2_ofNumber_137 (by simp [ofN, c124]) rfl
      · simp only [h3, bI_0, decide_eq_false_iff_not, Decidable.not_not] at c124
        refine r_iconst hJ (v := (-1)) dX2_ofNumber_127 (by decide) ?_
        refine r_goto hJ (tgt := 137) dX2_ofNumber_128 (by decide) ?_
        exact ret_i hF dX2_ofNumber_137 (by simp [ofN, c124]) rfl
    · refine r_iload_n hJ dX2_ofNumber_32 rfl jg2 ?_
      refine r_tableIn hJ (off := 105) (tgt := 138) dX2_ofNumber_33 (by decide) (by decide) (by decide) (by decide) ?_
      refine r_aload_n hJ dX2_ofNumber_138 rfl jg0 ?_
      refine r_g2_10 hJ ho m64 dX2_ofNumber_139 ?_
      refine r_iload_n hJ dX2_ofNumber_142 rfl jg1 ?_
      refine r_ialdO hJ (by omega) (alP7 ho (by omega)) rfl dX2_ofNumber_143 ?_
      exact ret_i hF dX2_ofNumber_144 (by simp [ofN, ]) rfl
    · refine r_iload_n hJ dX2_ofNumber_32 rfl jg2 ?_
      refine r_tableIn hJ (off := 112) (tgt := 145) dX2_ofNumber_33 (by decide) (by decide) (by decide) (by decide) ?_
      refine r_iload hJ dX2_ofNumber_145 jg4 ?_
      refine r_if_eq hJ (tgt := 161) dX2_ofNumber_147 (by decide) (fun c147 => ?_) (fun c147 => ?_)
      · simp only [h4, bI_0, decide_eq_false_iff_not, Decidable.not_not] at c147
        refine r_iconst hJ (v := (-1)) dX2_ofNumber_161 (by decide) ?_
        exact ret_i hF dX2_ofNumber_162 (by simp [ofN, c147]) rfl
      · simp only [h4, bI_0, decide_eq_false_iff_not, Decidable.not_not] at c147
        refine r_aload_n hJ dX2_ofNumber_150 rfl jg0 ?_
        refine r_g2_11 hJ ho m66 dX2_ofNumber_151 ?_
        refine r_iload_n hJ dX2_ofNumber_154 rfl jg1 ?_
        refine r_iconst hJ (v := nI 3) dX2_ofNumber_155 (by decide) ?_
        refine r_imul hJ dX2_ofNumber_156 ?_
        refine r_ialdO hJ (by omega) (alP8 ho (by omega)) (pk_mul n 3) dX2_ofNumber_157 ?_
        refine r_goto hJ (tgt := 162) dX2_ofNumber_158 (by decide) ?_
        exact ret_i hF dX2_ofNumber_162 (by simp [ofN, c147]) rfl
    · refine r_iload_n hJ dX2_ofNumber_32 rfl jg2 ?_
      refine r_tableIn hJ (off := 130) (tgt := 163) dX2_ofNumber_33 (by decide) (by decide) (by decide) (by decide) ?_
      refine r_iload hJ dX2_ofNumber_163 jg4 ?_
      refine r_if_eq hJ (tgt := 179) dX2_ofNumber_165 (by decide) (fun c165 => ?_) (fun c165 => ?_)
      · simp only [h4, bI_0, decide_eq_false_iff_not, Decidable.not_not] at c165
        refine r_iconst hJ (v := (-1)) dX2_ofNumber_179 (by decide) ?_
        exact ret_i hF dX2_ofNumber_180 (by simp [ofN, c165]) rfl
      · simp only [h4, bI_0, decide_eq_false_iff_not, Decidable.not_not] at c165
        refine r_aload_n hJ dX2_ofNumber_168 rfl jg0 ?_
        refine r_g2_12 hJ ho m67 dX2_ofNumber_169 ?_
        refine r_iload_n hJ dX2_ofNumber_172 rfl jg1 ?_
        refine r_iconst hJ (v := nI 3) dX2_ofNumber_173 (by decide) ?_
        refine r_imul hJ dX2_ofNumber_174 ?_
        refine r_ialdO hJ (by omega) (alP9 ho (by omega)) (pk_mul n 3) dX2_ofNumber_175 ?_
        refine r_goto hJ (tgt := 180) dX2_ofNumber_176 (by decide) ?_
        exact ret_i hF dX2_ofNumber_180 (by simp [ofN, c165]) rfl
    · refine r_iload_n hJ dX2_ofNumber_32 rfl jg2 ?_
      refine r_tableOut hJ (tgt := 181) dX2_ofNumber_33 (by decide) (by decide) ?_
      refine r_aload_n hJ dX2_ofNumber_181 rfl jg0 ?_
      refine r_g2_9 hJ ho m63 dX2_ofNumber_182 ?_
      refine r_iload_n hJ dX2_ofNumber_185 rfl jg1 ?_
      refine r_ialdO hJ (by omega) (alP6 ho (by omega)) rfl dX2_ofNumber_186 ?_
      exact ret_i hF dX2_ofNumber_187 (by simp [ofN, ]) rfl
  refine r_aload_n hJ dX2_ofNumber_0 rfl jg0 ?_
  refine r_g2_5 hJ ho m58 dX2_ofNumber_1 ?_
  refine r_iload_n hJ dX2_ofNumber_4 rfl jg1 ?_
  refine r_ialdO hJ (by omega) (alP2 ho (by omega)) rfl dX2_ofNumber_5 ?_
  refine r_iconst hJ (v := (-1)) dX2_ofNumber_6 (by decide) ?_
  refine r_icmp_ne hJ (tgt := 14) dX2_ofNumber_7 (by decide) (fun c7 => ?_) (fun c7 => ?_)
  · have e3 : nI 0 = bI (decide (P 2 n = -1)) := by simp [bI, c7, nI0]
    refine r_iconst hJ (v := nI 0) dX2_ofNumber_14 (by decide) ?_
    refine r_istore_n hJ dX2_ofNumber_15 rfl (jp3 rfl rfl) ?_
    refine r_aload_n hJ dX2_ofNumber_16 rfl jg0 ?_
    refine r_g2_10 hJ ho m64 dX2_ofNumber_17 ?_
    refine r_iload_n hJ dX2_ofNumber_20 rfl jg1 ?_
    refine r_ialdO hJ (by omega) (alP7 ho (by omega)) rfl dX2_ofNumber_21 ?_
    refine r_if_le hJ (tgt := 29) dX2_ofNumber_22 (by decide) (fun c22 => ?_) (fun c22 => ?_)
    · have c22 := Int32.not_lt.mpr c22
      have e4 : nI 0 = bI (decide (0 < P 7 n)) := by simp [bI, c22, nI0]
      refine r_iconst hJ (v := nI 0) dX2_ofNumber_29 (by decide) ?_
      refine r_istore hJ dX2_ofNumber_30 (jp4 rfl rfl) ?_
      exact sw _ _ e3 e4
    · have c22 := Int32.not_le.mp c22
      have e4 : nI 1 = bI (decide (0 < P 7 n)) := by simp [bI, c22, nI1]
      refine r_iconst hJ (v := nI 1) dX2_ofNumber_25 (by decide) ?_
      refine r_goto hJ (tgt := 30) dX2_ofNumber_26 (by decide) ?_
      refine r_istore hJ dX2_ofNumber_30 (jp4 rfl rfl) ?_
      exact sw _ _ e3 e4
  · have e3 : nI 1 = bI (decide (P 2 n = -1)) := by simp [bI, c7, nI1]
    refine r_iconst hJ (v := nI 1) dX2_ofNumber_10 (by decide) ?_
    refine r_goto hJ (tgt := 15) dX2_ofNumber_11 (by decide) ?_
    refine r_istore_n hJ dX2_ofNumber_15 rfl (jp3 rfl rfl) ?_
    refine r_aload_n hJ dX2_ofNumber_16 rfl jg0 ?_
    refine r_g2_10 hJ ho m64 dX2_ofNumber_17 ?_
    refine r_iload_n hJ dX2_ofNumber_20 rfl jg1 ?_
    refine r_ialdO hJ (by omega) (alP7 ho (by omega)) rfl dX2_ofNumber_21 ?_
    refine r_if_le hJ (tgt := 29) dX2_ofNumber_22 (by decide) (fun c22 => ?_) (fun c22 => ?_)
    · have c22 := Int32.not_lt.mpr c22
      have e4 : nI 0 = bI (decide (0 < P 7 n)) := by simp [bI, c22, nI0]
      refine r_iconst hJ (v := nI 0) dX2_ofNumber_29 (by decide) ?_
      refine r_istore hJ dX2_ofNumber_30 (jp4 rfl rfl) ?_
      exact sw _ _ e3 e4
    · have c22 := Int32.not_le.mp c22
      have e4 : nI 1 = bI (decide (0 < P 7 n)) := by simp [bI, c22, nI1]
      refine r_iconst hJ (v := nI 1) dX2_ofNumber_25 (by decide) ?_
      refine r_goto hJ (tgt := 30) dX2_ofNumber_26 (by decide) ?_
      refine r_istore hJ dX2_ofNumber_30 (jp4 rfl rfl) ?_
      exact sw _ _ e3 e4

def ofH (P : jO) (h : Nat) : Nat → Int32
  | 0 => nI (cnt (inP P (nI h) (nI 1)) 64)
  | 1 => nI (cnt (inP P (nI h) (nI 2)) 64)
  | 2 => nI (cnt (fun n => (placeW P (nI h) n).isSome) 64)
  | 3 => oI (fnd (fun n => decide (P 2 n = nI h)) 64 0)
  | 4 => leastE P (nI h) 64 0 (-1)
  | 5 => P 10 h
  | 6 => P 11 h
  | _ => P 12 h
set_option maxRecDepth 100000 in
set_option maxHeartbeats 1000000 in
theorem c2_ofHolder (l : Launch) (E : jE) (S : jS) (x : jX) (P : jO) {o : Nat} (ho : o < 8) (hP : PI P) {h : Nat} (hh : h < 8) {q : Nat} (hq : q ≤ 7) : Ct l E yX2_ofHolder cX2_ofHolder 3 (some .int) 3 [.ref (ad E o 0), .int (nI h), .int (nI q)] (setO S o P, x) (some (.int (ofH P h q))) (setO S o P, x) := by
  refine Ct.of (by decide +kernel) (Nat.le_refl _) (Nat.le_of_ble_eq_true rfl) rfl (fun J hJ hF => ?_)
  rcases le7 hq with rfl | rfl | rfl | rfl | rfl | rfl | rfl | rfl
  · refine r_iload_n hJ dX2_ofHolder_0 rfl jg2 ?_
    refine r_tableIn hJ (off := 43) (tgt := 44) dX2_ofHolder_1 (by decide) (by decide) (by decide) (by decide) ?_
    refine r_aload_n hJ dX2_ofHolder_44 rfl jg0 ?_
    refine r_iload_n hJ dX2_ofHolder_45 rfl jg1 ?_
    refine r_iconst hJ (v := nI 1) dX2_ofHolder_46 (by decide) ?_
    refine r_V2v hJ kX2_112 (rcv2 E ho) (c2_numbersOfIn l E S x P ho (nI h) (nI 1)) dX2_ofHolder_47 ⟨by decide, by decide⟩ (Nat.le_of_ble_eq_true rfl) ?_
    exact ret_i hF dX2_ofHolder_50 rfl rfl
  · refine r_iload_n hJ dX2_ofHolder_0 rfl jg2 ?_
    refine r_tableIn hJ (off := 50) (tgt := 51) dX2_ofHolder_1 (by decide) (by decide) (by decide) (by decide) ?_
    refine r_aload_n hJ dX2_ofHolder_51 rfl jg0 ?_
    refine r_iload_n hJ dX2_ofHolder_52 rfl jg1 ?_
    refine r_iconst hJ (v := nI 2) dX2_ofHolder_53 (by decide) ?_
    refine r_V2v hJ kX2_112 (rcv2 E ho) (c2_numbersOfIn l E S x P ho (nI h) (nI 2)) dX2_ofHolder_54 ⟨by decide, by decide⟩ (Nat.le_of_ble_eq_true rfl) ?_
    exact ret_i hF dX2_ofHolder_57 rfl rfl
  · refine r_iload_n hJ dX2_ofHolder_0 rfl jg2 ?_
    refine r_tableIn hJ (off := 57) (tgt := 58) dX2_ofHolder_1 (by decide) (by decide) (by decide) (by decide) ?_
    refine r_aload_n hJ dX2_ofHolder_58 rfl jg0 ?_
    refine r_iload_n hJ dX2_ofHolder_59 rfl jg1 ?_
    refine r_V1v hJ kX2_115 (rcv2 E ho) (c2_wishesOf l E S x P ho hP (nI h)) dX2_ofHolder_60 ⟨by decide, by decide⟩ (Nat.le_of_ble_eq_true rfl) ?_
    exact ret_i hF dX2_ofHolder_63 rfl rfl
  · refine r_iload_n hJ dX2_ofHolder_0 rfl jg2 ?_
    refine r_tableIn hJ (off := 63) (tgt := 64) dX2_ofHolder_1 (by decide) (by decide) (by decide) (by decide) ?_
    refine r_aload_n hJ dX2_ofHolder_64 rfl jg0 ?_
    refine r_iload_n hJ dX2_ofHolder_65 rfl jg1 ?_
    refine r_V1v hJ kX2_118 (rcv2 E ho) (c2_leastOf l E S x P ho (nI h)) dX2_ofHolder_66 ⟨by decide, by decide⟩ (Nat.le_of_ble_eq_true rfl) ?_
    exact ret_i hF dX2_ofHolder_69 rfl rfl
  · refine r_iload_n hJ dX2_ofHolder_0 rfl jg2 ?_
    refine r_tableIn hJ (off := 69) (tgt := 70) dX2_ofHolder_1 (by decide) (by decide) (by decide) (by decide) ?_
    refine r_aload_n hJ dX2_ofHolder_70 rfl jg0 ?_
    refine r_iload_n hJ dX2_ofHolder_71 rfl jg1 ?_
    refine r_V1v hJ kX2_121 (rcv2 E ho) (c2_leastEndOf l E S x P ho (nI h)) dX2_ofHolder_72 ⟨by decide, by decide⟩ (Nat.le_of_ble_eq_true rfl) ?_
    exact ret_i hF dX2_ofHolder_75 rfl rfl
  · refine r_iload_n hJ dX2_ofHolder_0 rfl jg2 ?_
    refine r_tableIn hJ (off := 75) (tgt := 76) dX2_ofHolder_1 (by decide) (by decide) (by decide) (by decide) ?_
    refine r_aload_n hJ dX2_ofHolder_76 rfl jg0 ?_
    refine r_g2_13 hJ ho m68 dX2_ofHolder_77 ?_
    refine r_iload_n hJ dX2_ofHolder_80 rfl jg1 ?_
    refine r_ialdO hJ (by omega) (alP10 ho (by omega)) rfl dX2_ofHolder_81 ?_
    exact ret_i hF dX2_ofHolder_82 rfl rfl
  · refine r_iload_n hJ dX2_ofHolder_0 rfl jg2 ?_
    refine r_tableIn hJ (off := 82) (tgt := 83) dX2_ofHolder_1 (by decide) (by decide) (by decide) (by decide) ?_
    refine r_aload_n hJ dX2_ofHolder_83 rfl jg0 ?_
    refine r_g2_14 hJ ho m69 dX2_ofHolder_84 ?_
    refine r_iload_n hJ dX2_ofHolder_87 rfl jg1 ?_
    refine r_ialdO hJ (by omega) (alP11 ho (by omega)) rfl dX2_ofHolder_88 ?_
    exact ret_i hF dX2_ofHolder_89 rfl rfl
  · refine r_iload_n hJ dX2_ofHolder_0 rfl jg2 ?_
    refine r_tableOut hJ (tgt := 90) dX2_ofHolder_1 (by decide) (by decide) ?_
    refine r_aload_n hJ dX2_ofHolder_90 rfl jg0 ?_
    refine r_g2_15 hJ ho m70 dX2_ofHolder_91 ?_
    refine r_iload_n hJ dX2_ofHolder_94 rfl jg1 ?_
    refine r_ialdO hJ (by omega) (alP12 ho (by omega)) rfl dX2_ofHolder_95 ?_
    exact ret_i hF dX2_ofHolder_96 rfl rfl

def ofA (P : jO) (z : Nat) : Nat → Int32
  | 0 => P 0 0
  | 1 => nI (cnt (fun n => decide (stg P n = nI 0)) z)
  | 2 => nI (cnt (fun n => decide (stg P n = nI 1)) z)
  | 3 => nI (cnt (fun n => decide (stg P n = nI 2)) z)
  | 4 => sumA (P 7) 64
  | 5 => sumA (P 10) 8
  | 6 => P 0 1
  | 7 => P 0 2
  | 8 => P 0 3
  | 9 => sumA (P 11) 8
  | 10 => nI (cnt (stS P) z)
  | _ => nI (longN P z z 0 0)
theorem sum_at {l : Launch} {E : jE} {S : jS} {x : jX} {P : jO} {o j n : Nat} (ho : o < 8) (hp : 0 < n) (hn : aln o j = n) : Ct l E yX4_sum cX4_sum 6 (some .int) 1 [.ref (ad E o j)] (setO S o P, x) (some (.int (sumA (P j) n))) (setO S o P, x) := by
  have h := c4_sum l E (setO S o P) x (o := o) (j := j) (n := n) (by omega) hp hn
  rwa [setO_at] at h
set_option maxRecDepth 100000 in
set_option maxHeartbeats 1000000 in
theorem c2_ofAll (l : Launch) (E : jE) (S : jS) (x : jX) (P : jO) {o : Nat} (ho : o < 8) {z : Nat} (hz : P 1 3 = nI z) (hz4 : z ≤ 64) {q : Nat} (hq : q ≤ 11) : Ct l E yX2_ofAll cX2_ofAll 2 (some .int) 4 [.ref (ad E o 0), .int (nI q)] (setO S o P, x) (some (.int (ofA P z q))) (setO S o P, x) := by
  refine Ct.of (by decide +kernel) (Nat.le_refl _) (Nat.le_of_ble_eq_true rfl) rfl (fun J hJ hF => ?_)
  rcases le11 hq with rfl | rfl | rfl | rfl | rfl | rfl | rfl | rfl | rfl | rfl | rfl | rfl
  · refine r_iload_n hJ dX2_ofAll_0 rfl jg1 ?_
    refine r_tableIn hJ (off := 59) (tgt := 60) dX2_ofAll_1 (by decide) (by decide) (by decide) (by decide) ?_
    refine r_aload_n hJ dX2_ofAll_60 rfl jg0 ?_
    refine r_g2_0O hJ ho m51 dX2_ofAll_61 ?_
    exact ret_i hF dX2_ofAll_64 rfl rfl
  · refine r_iload_n hJ dX2_ofAll_0 rfl jg1 ?_
    refine r_tableIn hJ (off := 64) (tgt := 65) dX2_ofAll_1 (by decide) (by decide) (by decide) (by decide) ?_
    refine r_aload_n hJ dX2_ofAll_65 rfl jg0 ?_
    refine r_V0v hJ kX2_130 (rcv2 E ho) (c2_freeNumbers l E S x P ho hz hz4) dX2_ofAll_66 ⟨by decide, by decide⟩ (Nat.le_of_ble_eq_true rfl) ?_
    exact ret_i hF dX2_ofAll_69 rfl rfl
  · refine r_iload_n hJ dX2_ofAll_0 rfl jg1 ?_
    refine r_tableIn hJ (off := 69) (tgt := 70) dX2_ofAll_1 (by decide) (by decide) (by decide) (by decide) ?_
    refine r_aload_n hJ dX2_ofAll_70 rfl jg0 ?_
    refine r_iconst hJ (v := nI 1) dX2_ofAll_71 (by decide) ?_
    refine r_V1v hJ kX2_134 (rcv2 E ho) (c2_numbersIn l E S x P ho hz hz4 (nI 1)) dX2_ofAll_72 ⟨by decide, by decide⟩ (Nat.le_of_ble_eq_true rfl) ?_
    exact ret_i hF dX2_ofAll_75 rfl rfl
  · refine r_iload_n hJ dX2_ofAll_0 rfl jg1 ?_
    refine r_tableIn hJ (off := 75) (tgt := 76) dX2_ofAll_1 (by decide) (by decide) (by decide) (by decide) ?_
    refine r_aload_n hJ dX2_ofAll_76 rfl jg0 ?_
    refine r_iconst hJ (v := nI 2) dX2_ofAll_77 (by decide) ?_
    refine r_V1v hJ kX2_134 (rcv2 E ho) (c2_numbersIn l E S x P ho hz hz4 (nI 2)) dX2_ofAll_78 ⟨by decide, by decide⟩ (Nat.le_of_ble_eq_true rfl) ?_
    exact ret_i hF dX2_ofAll_81 rfl rfl
  · refine r_iload_n hJ dX2_ofAll_0 rfl jg1 ?_
    refine r_tableIn hJ (off := 81) (tgt := 82) dX2_ofAll_1 (by decide) (by decide) (by decide) (by decide) ?_
    refine r_aload_n hJ dX2_ofAll_82 rfl jg0 ?_
    refine r_g2_10 hJ ho m64 dX2_ofAll_83 ?_
    refine r_sum hJ m271 m270 m25 (sum_at ho (n := 64) (by decide) (by simp [aln, ho])) dX2_ofAll_86 ⟨by decide, by decide⟩ (Nat.le_of_ble_eq_true rfl) ?_
    exact ret_i hF dX2_ofAll_89 rfl rfl
  · refine r_iload_n hJ dX2_ofAll_0 rfl jg1 ?_
    refine r_tableIn hJ (off := 89) (tgt := 90) dX2_ofAll_1 (by decide) (by decide) (by decide) (by decide) ?_
    refine r_aload_n hJ dX2_ofAll_90 rfl jg0 ?_
    refine r_g2_13 hJ ho m68 dX2_ofAll_91 ?_
    refine r_sum hJ m271 m270 m25 (sum_at ho (n := 8) (by decide) (by simp [aln, ho])) dX2_ofAll_94 ⟨by decide, by decide⟩ (Nat.le_of_ble_eq_true rfl) ?_
    exact ret_i hF dX2_ofAll_97 rfl rfl
  · refine r_iload_n hJ dX2_ofAll_0 rfl jg1 ?_
    refine r_tableIn hJ (off := 97) (tgt := 98) dX2_ofAll_1 (by decide) (by decide) (by decide) (by decide) ?_
    refine r_aload_n hJ dX2_ofAll_98 rfl jg0 ?_
    refine r_g2_1O hJ ho m53 dX2_ofAll_99 ?_
    exact ret_i hF dX2_ofAll_102 rfl rfl
  · refine r_iload_n hJ dX2_ofAll_0 rfl jg1 ?_
    refine r_tableIn hJ (off := 102) (tgt := 103) dX2_ofAll_1 (by decide) (by decide) (by decide) (by decide) ?_
    refine r_aload_n hJ dX2_ofAll_103 rfl jg0 ?_
    refine r_g2_2O hJ ho m54 dX2_ofAll_104 ?_
    exact ret_i hF dX2_ofAll_107 rfl rfl
  · refine r_iload_n hJ dX2_ofAll_0 rfl jg1 ?_
    refine r_tableIn hJ (off := 107) (tgt := 108) dX2_ofAll_1 (by decide) (by decide) (by decide) (by decide) ?_
    refine r_aload_n hJ dX2_ofAll_108 rfl jg0 ?_
    refine r_g2_3O hJ ho m55 dX2_ofAll_109 ?_
    exact ret_i hF dX2_ofAll_112 rfl rfl
  · refine r_iload_n hJ dX2_ofAll_0 rfl jg1 ?_
    refine r_tableIn hJ (off := 112) (tgt := 113) dX2_ofAll_1 (by decide) (by decide) (by decide) (by decide) ?_
    refine r_aload_n hJ dX2_ofAll_113 rfl jg0 ?_
    refine r_g2_14 hJ ho m69 dX2_ofAll_114 ?_
    refine r_sum hJ m271 m270 m25 (sum_at ho (n := 8) (by decide) (by simp [aln, ho])) dX2_ofAll_117 ⟨by decide, by decide⟩ (Nat.le_of_ble_eq_true rfl) ?_
    exact ret_i hF dX2_ofAll_120 rfl rfl
  · refine r_iload_n hJ dX2_ofAll_0 rfl jg1 ?_
    refine r_tableIn hJ (off := 120) (tgt := 121) dX2_ofAll_1 (by decide) (by decide) (by decide) (by decide) ?_
    refine r_aload_n hJ dX2_ofAll_121 rfl jg0 ?_
    refine r_V0v hJ kX2_141 (rcv2 E ho) (c2_spans l E S x P ho hz hz4) dX2_ofAll_122 ⟨by decide, by decide⟩ (Nat.le_of_ble_eq_true rfl) ?_
    exact ret_i hF dX2_ofAll_125 rfl rfl
  · refine r_iload_n hJ dX2_ofAll_0 rfl jg1 ?_
    refine r_tableOut hJ (tgt := 126) dX2_ofAll_1 (by decide) (by decide) ?_
    refine r_aload_n hJ dX2_ofAll_126 rfl jg0 ?_
    refine r_V0v hJ kX2_144 (rcv2 E ho) (c2_longestRow l E S x P ho hz hz4) dX2_ofAll_127 ⟨by decide, by decide⟩ (Nat.le_of_ble_eq_true rfl) ?_
    exact ret_i hF dX2_ofAll_130 rfl rfl

set_option maxRecDepth 100000 in
set_option maxHeartbeats 1000000 in
theorem c2_copyRow (l : Launch) (E : jE) (S : jS) (x : jX) (P : jO) {o o1 j n : Nat} (ho : o < 8) (ho1 : o1 < 8) (hne : o1 ≠ o) (hp : 0 < n) (hn : aln o j = n) (hn1 : aln o1 j = n) : Ct l E yX2_copyRow cX2_copyRow 2 none 2 [.ref (ad E o1 j), .ref (ad E o j)] (setO S o P, x) none (setO S o (putA P j (fun i => if i < n then S o1 j i else P j i)), x) := by
  refine Ct.of (by decide +kernel) (Nat.le_refl _) (Nat.le_of_ble_eq_true rfl) rfl (fun J hJ hF => ?_)
  refine r_aload_n hJ dX2_copyRow_0 rfl jg0 ?_
  refine r_iconst hJ (v := nI 0) dX2_copyRow_1 (by decide) ?_
  refine r_aload_n hJ dX2_copyRow_2 rfl jg1 ?_
  refine r_iconst hJ (v := nI 0) dX2_copyRow_3 (by decide) ?_
  refine r_aload_n hJ dX2_copyRow_4 rfl jg0 ?_
  refine r_alen hJ (by omega) (by omega) (by rw [hn1]) dX2_copyRow_5 ?_
  refine r_aload_n hJ dX2_copyRow_6 rfl jg1 ?_
  refine r_alen hJ (by omega) (by omega) (by rw [hn]) dX2_copyRow_7 ?_
  refine r_min hJ ⟨m370, m371, m35, m372⟩ dX2_copyRow_8 (by decide) (Nat.le_of_ble_eq_true rfl) ?_
  rw [show (if nI n < nI n then nI n else nI n) = nI n from ite_self _]
  refine r_copy hJ ⟨m373, m375, m374, m36⟩ (by omega) (by omega) (by omega) hn hn1 dX2_copyRow_11 (by decide) (Nat.le_of_ble_eq_true rfl) ?_
  rw [setO_ne hne]
  exact ret_v hF dX2_copyRow_14 rfl rfl

/-- a pool's row j, for its places alone, from another pool -/
def cfR (P Q : jO) (j n : Nat) : jO := putA P j (fun i => if i < n then Q j i else P j i)
def cf0 (P Q : jO) : jO := put (put (put (put P 0 0 (Q 0 0)) 0 1 (Q 0 1)) 0 2 (Q 0 2)) 0 3 (Q 0 3)
def cfN (P Q : jO) : jO := cfR (cfR (cfR (cfR (cfR (cfR (cfR (cfR (cfR (cfR (cfR (cfR (cf0 P Q) Q 1 4) Q 2 64) Q 3 64) Q 4 64) Q 5 64) Q 6 64) Q 7 64) Q 8 192) Q 9 192) Q 10 8) Q 11 8) Q 12 8
theorem cfR_app (P Q : jO) (j n j' i : Nat) : cfR P Q j n j' i = if j' = j ∧ i < n then Q j i else P j' i := by
  by_cases h : j' = j
  · subst h
    simp [cfR, putA]
  · simp [cfR, putA, h]
theorem cfN_0 (P Q : jO) (i : Nat) : cfN P Q 0 i = if i = 3 then Q 0 3 else if i = 2 then Q 0 2 else if i = 1 then Q 0 1 else if i = 0 then Q 0 0 else P 0 i := by
  simp [cfN, cfR_app, cf0, put_app]
theorem cfN_at {o j i : Nat} (P Q : jO) (ho : o < 8) (h : i < aln o j) : cfN P Q j i = Q j i := by
  have hj : 0 < j ∧ j < 13 := by
    have h1 := aln_wid o (by omega) j (by omega)
    have h2 : wid o = 13 := by simp [wid, ho]
    rcases Nat.eq_zero_or_pos j with q | q
    · subst q
      simp [aln_0] at h
    · omega
  obtain ⟨h1, h2⟩ := hj
  rcases (show j = 1 ∨ j = 2 ∨ j = 3 ∨ j = 4 ∨ j = 5 ∨ j = 6 ∨ j = 7 ∨ j = 8 ∨ j = 9 ∨ j = 10 ∨ j = 11 ∨ j = 12 by omega) with rfl | rfl | rfl | rfl | rfl | rfl | rfl | rfl | rfl | rfl | rfl | rfl <;> simp [aln, ho] at h <;> simp [cfN, cfR_app, h]
theorem cfN_eq {S : jS} {x : jX} {P Q : jO} {o : Nat} (ho : o < 8) : sEq x (setO S o (cfN P Q)) (setO S o Q) := by
  refine ⟨fun o' j i h => ?_, fun E o' j => ?_⟩
  · by_cases h1 : o' = o
    · subst h1
      rw [setO_at, setO_at, cfN_at P Q ho h]
    · rw [setO_ne h1, setO_ne h1]
  · by_cases h1 : o' = o
    · subst h1
      rw [setO_at, setO_at]
      simp [scal, ho, poolF, cfN_0]
    · rw [setO_ne h1, setO_ne h1]
set_option maxRecDepth 100000 in
set_option maxHeartbeats 1000000 in
theorem c2_copyFrom (l : Launch) (E : jE) (S : jS) (x : jX) (P : jO) {o o1 : Nat} (ho : o < 8) (ho1 : o1 < 8) (hne : o1 ≠ o) : Ct l E yX2_copyFrom cX2_copyFrom 2 none 3 [.ref (ad E o 0), .ref (ad E o1 0)] (setO S o P, x) none (setO S o (S o1), x) := by
  refine Ct.of (by decide +kernel) (Nat.le_refl _) (Nat.le_of_ble_eq_true rfl) rfl (fun J hJ hF => ?_)
  refine r_aload_n hJ dX2_copyFrom_0 rfl jg0 ?_
  refine r_aload_n hJ dX2_copyFrom_1 rfl jg1 ?_
  refine r_g2_0 hJ ho1 m51 dX2_copyFrom_2 ?_
  rw [setO_ne hne]
  refine r_p2_0 hJ ho m51 dX2_copyFrom_5 ?_
  refine r_aload_n hJ dX2_copyFrom_8 rfl jg0 ?_
  refine r_aload_n hJ dX2_copyFrom_9 rfl jg1 ?_
  refine r_g2_1 hJ ho1 m53 dX2_copyFrom_10 ?_
  rw [setO_ne hne]
  refine r_p2_1 hJ ho m53 dX2_copyFrom_13 ?_
  refine r_aload_n hJ dX2_copyFrom_16 rfl jg0 ?_
  refine r_aload_n hJ dX2_copyFrom_17 rfl jg1 ?_
  refine r_g2_2 hJ ho1 m54 dX2_copyFrom_18 ?_
  rw [setO_ne hne]
  refine r_p2_2 hJ ho m54 dX2_copyFrom_21 ?_
  refine r_aload_n hJ dX2_copyFrom_24 rfl jg0 ?_
  refine r_aload_n hJ dX2_copyFrom_25 rfl jg1 ?_
  refine r_g2_3 hJ ho1 m55 dX2_copyFrom_26 ?_
  rw [setO_ne hne]
  refine r_p2_3 hJ ho m55 dX2_copyFrom_29 ?_
  refine r_aload_n hJ dX2_copyFrom_32 rfl jg1 ?_
  refine r_g2_4 hJ ho1 m56 dX2_copyFrom_33 ?_
  refine r_aload_n hJ dX2_copyFrom_36 rfl jg0 ?_
  refine r_g2_4 hJ ho m56 dX2_copyFrom_37 ?_
  refine r_S2u hJ kX2_61 (c2_copyRow l E S x _ ho ho1 hne (j := 1) (n := 4) (by decide) (by simp [aln, ho]) (by simp [aln, ho1])) dX2_copyFrom_40 ⟨by decide, by decide⟩ (Nat.le_of_ble_eq_true rfl) ?_
  refine r_aload_n hJ dX2_copyFrom_43 rfl jg1 ?_
  refine r_g2_5 hJ ho1 m58 dX2_copyFrom_44 ?_
  refine r_aload_n hJ dX2_copyFrom_47 rfl jg0 ?_
  refine r_g2_5 hJ ho m58 dX2_copyFrom_48 ?_
  refine r_S2u hJ kX2_61 (c2_copyRow l E S x _ ho ho1 hne (j := 2) (n := 64) (by decide) (by simp [aln, ho]) (by simp [aln, ho1])) dX2_copyFrom_51 ⟨by decide, by decide⟩ (Nat.le_of_ble_eq_true rfl) ?_
  refine r_aload_n hJ dX2_copyFrom_54 rfl jg1 ?_
  refine r_g2_6 hJ ho1 m60 dX2_copyFrom_55 ?_
  refine r_aload_n hJ dX2_copyFrom_58 rfl jg0 ?_
  refine r_g2_6 hJ ho m60 dX2_copyFrom_59 ?_
  refine r_S2u hJ kX2_61 (c2_copyRow l E S x _ ho ho1 hne (j := 3) (n := 64) (by decide) (by simp [aln, ho]) (by simp [aln, ho1])) dX2_copyFrom_62 ⟨by decide, by decide⟩ (Nat.le_of_ble_eq_true rfl) ?_
  refine r_aload_n hJ dX2_copyFrom_65 rfl jg1 ?_
  refine r_g2_7 hJ ho1 m61 dX2_copyFrom_66 ?_
  refine r_aload_n hJ dX2_copyFrom_69 rfl jg0 ?_
  refine r_g2_7 hJ ho m61 dX2_copyFrom_70 ?_
  refine r_S2u hJ kX2_61 (c2_copyRow l E S x _ ho ho1 hne (j := 4) (n := 64) (by decide) (by simp [aln, ho]) (by simp [aln, ho1])) dX2_copyFrom_73 ⟨by decide, by decide⟩ (Nat.le_of_ble_eq_true rfl) ?_
  refine r_aload_n hJ dX2_copyFrom_76 rfl jg1 ?_
  refine r_g2_8 hJ ho1 m62 dX2_copyFrom_77 ?_
  refine r_aload_n hJ dX2_copyFrom_80 rfl jg0 ?_
  refine r_g2_8 hJ ho m62 dX2_copyFrom_81 ?_
  refine r_S2u hJ kX2_61 (c2_copyRow l E S x _ ho ho1 hne (j := 5) (n := 64) (by decide) (by simp [aln, ho]) (by simp [aln, ho1])) dX2_copyFrom_84 ⟨by decide, by decide⟩ (Nat.le_of_ble_eq_true rfl) ?_
  refine r_aload_n hJ dX2_copyFrom_87 rfl jg1 ?_
  refine r_g2_9 hJ ho1 m63 dX2_copyFrom_88 ?_
  refine r_aload_n hJ dX2_copyFrom_91 rfl jg0 ?_
  refine r_g2_9 hJ ho m63 dX2_copyFrom_92 ?_
  refine r_S2u hJ kX2_61 (c2_copyRow l E S x _ ho ho1 hne (j := 6) (n := 64) (by decide) (by simp [aln, ho]) (by simp [aln, ho1])) dX2_copyFrom_95 ⟨by decide, by decide⟩ (Nat.le_of_ble_eq_true rfl) ?_
  refine r_aload_n hJ dX2_copyFrom_98 rfl jg1 ?_
  refine r_g2_10 hJ ho1 m64 dX2_copyFrom_99 ?_
  refine r_aload_n hJ dX2_copyFrom_102 rfl jg0 ?_
  refine r_g2_10 hJ ho m64 dX2_copyFrom_103 ?_
  refine r_S2u hJ kX2_61 (c2_copyRow l E S x _ ho ho1 hne (j := 7) (n := 64) (by decide) (by simp [aln, ho]) (by simp [aln, ho1])) dX2_copyFrom_106 ⟨by decide, by decide⟩ (Nat.le_of_ble_eq_true rfl) ?_
  refine r_aload_n hJ dX2_copyFrom_109 rfl jg1 ?_
  refine r_g2_11 hJ ho1 m66 dX2_copyFrom_110 ?_
  refine r_aload_n hJ dX2_copyFrom_113 rfl jg0 ?_
  refine r_g2_11 hJ ho m66 dX2_copyFrom_114 ?_
  refine r_S2u hJ kX2_61 (c2_copyRow l E S x _ ho ho1 hne (j := 8) (n := 192) (by decide) (by simp [aln, ho]) (by simp [aln, ho1])) dX2_copyFrom_117 ⟨by decide, by decide⟩ (Nat.le_of_ble_eq_true rfl) ?_
  refine r_aload_n hJ dX2_copyFrom_120 rfl jg1 ?_
  refine r_g2_12 hJ ho1 m67 dX2_copyFrom_121 ?_
  refine r_aload_n hJ dX2_copyFrom_124 rfl jg0 ?_
  refine r_g2_12 hJ ho m67 dX2_copyFrom_125 ?_
  refine r_S2u hJ kX2_61 (c2_copyRow l E S x _ ho ho1 hne (j := 9) (n := 192) (by decide) (by simp [aln, ho]) (by simp [aln, ho1])) dX2_copyFrom_128 ⟨by decide, by decide⟩ (Nat.le_of_ble_eq_true rfl) ?_
  refine r_aload_n hJ dX2_copyFrom_131 rfl jg1 ?_
  refine r_g2_13 hJ ho1 m68 dX2_copyFrom_132 ?_
  refine r_aload_n hJ dX2_copyFrom_135 rfl jg0 ?_
  refine r_g2_13 hJ ho m68 dX2_copyFrom_136 ?_
  refine r_S2u hJ kX2_61 (c2_copyRow l E S x _ ho ho1 hne (j := 10) (n := 8) (by decide) (by simp [aln, ho]) (by simp [aln, ho1])) dX2_copyFrom_139 ⟨by decide, by decide⟩ (Nat.le_of_ble_eq_true rfl) ?_
  refine r_aload_n hJ dX2_copyFrom_142 rfl jg1 ?_
  refine r_g2_14 hJ ho1 m69 dX2_copyFrom_143 ?_
  refine r_aload_n hJ dX2_copyFrom_146 rfl jg0 ?_
  refine r_g2_14 hJ ho m69 dX2_copyFrom_147 ?_
  refine r_S2u hJ kX2_61 (c2_copyRow l E S x _ ho ho1 hne (j := 11) (n := 8) (by decide) (by simp [aln, ho]) (by simp [aln, ho1])) dX2_copyFrom_150 ⟨by decide, by decide⟩ (Nat.le_of_ble_eq_true rfl) ?_
  refine r_aload_n hJ dX2_copyFrom_153 rfl jg1 ?_
  refine r_g2_15 hJ ho1 m70 dX2_copyFrom_154 ?_
  refine r_aload_n hJ dX2_copyFrom_157 rfl jg0 ?_
  refine r_g2_15 hJ ho m70 dX2_copyFrom_158 ?_
  refine r_S2u hJ kX2_61 (c2_copyRow l E S x _ ho ho1 hne (j := 12) (n := 8) (by decide) (by simp [aln, ho]) (by simp [aln, ho1])) dX2_copyFrom_161 ⟨by decide, by decide⟩ (Nat.le_of_ble_eq_true rfl) ?_
  refine r_eqv hJ (S := setO S o (cfN P (S o1))) (cfN_eq ho) ?_
  exact ret_v hF dX2_copyFrom_164 rfl rfl
end
section
/-! SAVES: the row of kept pools (x.1 : place → pool), object 9 (its field 0: how many) -/
theorem wld_K (E : jE) (S : jS) (K : Nat → Nat) (y : Int64 × Nat) (n o : Nat) :
    (wld E (S, (K, y))).set (bas 9 + 1) (ad E 9 1, .inl (E.2.2.1.2.2, 6, .inr (.inr (.inr (.inr (va_up (fun i => some (ad E (K i) 0)) n (some (ad E o 0)))))))) = wld E (S, (va_up K n o, y)) := by
  have hf : va_up (fun i => some (ad E (K i) 0)) n (some (ad E o 0)) = fun i => some (ad E (va_up K n o i) 0) := by
    funext i
    by_cases h : i = n <;> simp [va_up, h]
  obtain ⟨h1, h2⟩ := loc_off 9 (by decide) 1 (by decide)
  rw [hf]
  apply List.ext_getElem?
  intro i
  by_cases hi : i < 109
  · by_cases hq : i = bas 9 + 1
    · subst hq
      rw [List.getElem?_set_self (by rw [wld_len]; exact hi), wld_get E _ _ (by decide) (by decide)]
      rfl
    · rw [List.getElem?_set_ne (Ne.symm hq), wld_at E _ hi, wld_at E _ hi]
      have h5 := (loc_ok i hi).1
      have h6 := (loc_ok i hi).2
      generalize loc i = lk at h5 h6
      obtain ⟨o', j'⟩ := lk
      congr 2
      show cel E (K, y) o' (S o') j' = cel E (va_up K n o, y) o' (S o') j'
      unfold cel scal
      by_cases h3 : o' = 9
      · subst h3
        have h7 : j' = 0 := by
          have h8 : j' < 2 := h6
          have h9 : j' ≠ 1 := by
            intro q
            subst q
            exact hq h5.symm
          omega
        subst h7
        simp
      · simp [h3]
  · rw [List.getElem?_eq_none (by rw [List.length_set, wld_len]; omega), List.getElem?_eq_none (by rw [wld_len]; omega)]
section ROWS3
variable {l : Launch} {E : jE} {own : String} {cc : ByteArray} {nL d n0 cap : Nat} {J : jT} {pc : Nat} {L : List (Option Value)} {rest : List Value}
theorem kept_at (E : jE) (S : jS) (x : jX) : (wld E (S, x))[bas 9 + 1]? = some (ad E 9 1, .inl (E.2.2.1.2.2, 6, .inr (.inr (.inr (.inr fun i => some (ad E (x.1 i) 0)))))) := by
  rw [wld_get E S x (by decide) (by decide)]
  rfl
theorem r_aald (hJ : jR l E own cc nL d n0 cap J) {S : jS} {x : jX} {n : Nat} {i : Int32} (hn : n < 6) (hi : i = nI n) (hd : decode cc pc = .ok (.aaload, 1)) (k : J (S, x) (pc + 1) L (.ref (ad E (x.1 n) 0) :: rest)) : J (S, x) pc L (.int i :: .ref (ad E 9 1) :: rest) := by
  obtain ⟨p, e, R, s, m, args, below, meth, c, Q, cb, sb, rfl, ⟨hx, hb, hml, hown, hts⟩, hfr, hlo, hce, hsl, hB⟩ := hJ
  intro h1 h2 H locs ls hP hS hl
  subst hi
  refine va_aldq (D := E.2.1) (ws := wld E (S, x)) hx hb hB.1 hP (bas 9 + 1) 2 (kept_at E S x) rfl (vp_in_nI hn (by decide)) hd ?_
  rw [nI_clamp (by omega)]
  exact k h1 h2 H locs ls hP hS hl
theorem r_aast (hJ : jR l E own cc nL d n0 cap J) {S : jS} {K : Nat → Nat} {y : Int64 × Nat} {n o : Nat} {i : Int32} (ho : o < 8) (hn : n < 6) (hi : i = nI n) (hd : decode cc pc = .ok (.aastore, 1)) (k : J (S, (va_up K n o, y)) (pc + 1) L rest) : J (S, (K, y)) pc L (.ref (ad E o 0) :: .int i :: .ref (ad E 9 1) :: rest) := by
  obtain ⟨p, e, R, s, m, args, below, meth, c, Q, cb, sb, rfl, ⟨hx, hb, hml, hown, hts⟩, hfr, hlo, hce, hsl, hB⟩ := hJ
  intro h1 h2 H locs ls hP hS hl
  subst hi
  have hw : 0 < wid o := by simp [wid, ho]
  refine va_astq (D := E.2.1) (A := jA E) (r := (RX2, TX2, 16)) (ws := wld E (S, (K, y))) hx hb hB.1 hP (wld_D E _) hS (bas 9 + 1) 2 (bas o + 0) 1 (kept_at E S (K, y)) rfl (vs := poolF E o (S o)) (by rw [wld_get E S _ (by omega) hw, cel_0]; simp [scal, ho]) rfl (vp_in_nI hn (by decide)) hd (fun H1 locs1 hP1 _ hS1 => ?_)
  rw [nI_clamp (by omega), wld_K] at hP1
  exact k h1 h2 H1 locs1 ls hP1 hS1 hl
theorem r_V1ux (hJ : jR l E own cc nL d n0 cap J) {ix nL' d' a : Nat} {C : String} {y : MethodName} {cc' : ByteArray} {ret : Option FieldType} {S S' : jS} {x x' : jX} {x1 : Value} (hx : x'.2.2 = x.2.2) (w : wV own ix C y cc' nL' ret 1) (hrc : rcv E a C) (ct : Ct l E y cc' nL' ret d' [.ref a, x1] (S, x) none (S', x')) (hd : decode cc pc = .ok (.invokevirtual ix, 3)) (hdd : d' < d ∧ nL' ≤ 13) (hst : (rest.map fun v => v.category).sum ≤ 8) (k : J (S', x') (pc + 3) L rest) : J (S, x) pc L (x1 :: .ref a :: rest) :=
  r_callV hJ (As := [x1]) w hrc ct hd hdd rfl hst (fun h => by rw [hx]; exact h) k
theorem r_V0ux (hJ : jR l E own cc nL d n0 cap J) {ix nL' d' a : Nat} {C : String} {y : MethodName} {cc' : ByteArray} {ret : Option FieldType} {S S' : jS} {x x' : jX} (hx : x'.2.2 = x.2.2) (w : wV own ix C y cc' nL' ret 0) (hrc : rcv E a C) (ct : Ct l E y cc' nL' ret d' [.ref a] (S, x) none (S', x')) (hd : decode cc pc = .ok (.invokevirtual ix, 3)) (hdd : d' < d ∧ nL' ≤ 13) (hst : (rest.map fun v => v.category).sum ≤ 8) (k : J (S', x') (pc + 3) L rest) : J (S, x) pc L (.ref a :: rest) :=
  r_callV hJ (As := []) w hrc ct hd hdd rfl hst (fun h => by rw [hx]; exact h) k
end ROWS3
def rotF : Nat → Nat → (Nat → Nat) → (Nat → Nat)
  | 0, _, K => K
  | k + 1, i, K => rotF k (i + 1) (va_up K (i - 1) (K i))
def rotK (K : Nat → Nat) : Nat → Nat := va_up (rotF 5 1 K) 5 (K 0)
theorem rotK_at (K : Nat → Nat) (i : Nat) : rotK K i = if i < 5 then K (i + 1) else if i = 5 then K 0 else K i := by
  unfold rotK rotF rotF rotF rotF rotF rotF va_up
  by_cases h0 : i = 0
  · subst h0; simp
  by_cases h1 : i = 1
  · subst h1; simp
  by_cases h2 : i = 2
  · subst h2; simp
  by_cases h3 : i = 3
  · subst h3; simp
  by_cases h4 : i = 4
  · subst h4; simp
  by_cases h5 : i = 5
  · subst h5; simp
  have : ¬ i < 5 := by omega
  simp [h0, h1, h2, h3, h4, h5, this]
/-- the kept pools: six different ones, of 2..7 -/
def KI (K : Nat → Nat) : Prop := (∀ i, i < 6 → 2 ≤ K i ∧ K i < 8) ∧ ∀ i j, i < 6 → j < 6 → K i = K j → i = j
theorem KI_rot {K : Nat → Nat} (h : KI K) : KI (rotK K) := by
  refine ⟨fun i hi => ?_, fun i j hi hj => ?_⟩
  · rw [rotK_at]
    split
    · exact h.1 _ (by omega)
    · rw [if_pos (by omega)]
      exact h.1 0 (by decide)
  · rw [rotK_at, rotK_at]
    intro q
    by_cases h1 : i < 5 <;> by_cases h2 : j < 5
    · rw [if_pos h1, if_pos h2] at q
      have := h.2 _ _ (by omega) (by omega) q
      omega
    · rw [if_pos h1, if_neg h2, if_pos (by omega)] at q
      have := h.2 _ _ (by omega) (by omega) q
      omega
    · rw [if_neg h1, if_pos (by omega), if_pos h2] at q
      have := h.2 _ _ (by omega) (by omega) q
      omega
    · omega
set_option maxRecDepth 100000 in
set_option maxHeartbeats 1000000 in
theorem c3_dropOldest (l : Launch) (E : jE) (S : jS) (K : Nat → Nat) (y : Int64 × Nat) (V : jO) (hK : KI K) : Ct l E yX3_dropOldest cX3_dropOldest 3 none 1 [.ref (ad E 9 0)] (setO S 9 V, (K, y)) none (setO S 9 (put V 0 0 (V 0 0 - nI 1)), (rotK K, y)) := by
  refine Ct.of (by decide +kernel) (Nat.le_refl _) (Nat.le_of_ble_eq_true rfl) rfl (fun J hJ hF => ?_)
  have loop : ∀ (k i : Nat) (K' : Nat → Nat), i + k = 6 → 0 < i → (∀ j, i ≤ j → j < 6 → K' j = K j) → rotF k i K' = rotF 5 1 K → J (setO S 9 V, (K', y)) 9 [some (.ref (ad E 9 0)), some (.ref (ad E (K 0) 0)), some (.int (nI i))] [] := by
    intro k
    induction k with
    | zero =>
      intro i K' hi h0 hk he
      obtain rfl : i = 6 := by omega
      refine r_iload_n hJ dX3_dropOldest_9 rfl jg2 ?_
      refine r_bipush hJ (v := nI 6) dX3_dropOldest_10 (by decide) ?_
      refine r_icmp_ge hJ (tgt := 35) dX3_dropOldest_12 (by decide) (fun c12 => ?_) (fun c12 => ?_)
      · refine r_aload_n hJ dX3_dropOldest_35 rfl jg0 ?_
        refine r_g3_0 hJ m114 dX3_dropOldest_36 ?_
        refine r_iconst hJ (v := nI 5) dX3_dropOldest_39 (by decide) ?_
        refine r_aload_n hJ dX3_dropOldest_40 rfl jg1 ?_
        refine r_aast hJ (hK.1 0 (by decide)).2 (by decide) rfl dX3_dropOldest_41 ?_
        refine r_aload_n hJ dX3_dropOldest_42 rfl jg0 ?_
        refine r_dup hJ dX3_dropOldest_43 rfl ?_
        refine r_g3_1O hJ m115 dX3_dropOldest_44 ?_
        refine r_iconst hJ (v := nI 1) dX3_dropOldest_47 (by decide) ?_
        refine r_isub hJ dX3_dropOldest_48 ?_
        refine r_p3_1 hJ m115 dX3_dropOldest_49 ?_
        exact ret_v hF dX3_dropOldest_52 rfl (by rw [show K' = rotF 5 1 K from he]; rfl)
      · exact absurd (nI_le (by omega) (by omega)) c12
    | succ k ih =>
      intro i K' hi h0 hk he
      have hK8 : ∀ j, j < 6 → j = i → 2 ≤ K' j ∧ K' j < 8 := fun j hj q => by rw [hk j (by omega) hj]; exact hK.1 j hj
      refine r_iload_n hJ dX3_dropOldest_9 rfl jg2 ?_
      refine r_bipush hJ (v := nI 6) dX3_dropOldest_10 (by decide) ?_
      refine r_icmp_ge hJ (tgt := 35) dX3_dropOldest_12 (by decide) (fun c12 => ?_) (fun c12 => ?_)
      · exact absurd c12 (nI_ge (by omega) (by omega))
      · refine r_aload_n hJ dX3_dropOldest_15 rfl jg0 ?_
        refine r_g3_0 hJ m114 dX3_dropOldest_16 ?_
        refine r_iload_n hJ dX3_dropOldest_19 rfl jg2 ?_
        refine r_iconst hJ (v := nI 1) dX3_dropOldest_20 (by decide) ?_
        refine r_isub hJ dX3_dropOldest_21 ?_
        rw [show nI i - nI 1 = nI (i - 1) from pk_sub (by omega)]
        refine r_aload_n hJ dX3_dropOldest_22 rfl jg0 ?_
        refine r_g3_0 hJ m114 dX3_dropOldest_23 ?_
        refine r_iload_n hJ dX3_dropOldest_26 rfl jg2 ?_
        refine r_aald hJ (by omega) rfl dX3_dropOldest_27 ?_
        refine r_aast hJ (hK8 i (by omega) rfl).2 (by omega) rfl dX3_dropOldest_28 ?_
        refine r_iinc hJ dX3_dropOldest_29 jg2 (ii1 _) (jp2 rfl rfl) ?_
        refine r_goto hJ (tgt := 9) dX3_dropOldest_32 (by decide) ?_
        exact ih (i + 1) _ (by omega) (by omega) (fun j hj hj6 => by rw [va_up_ne _ _ (by omega)]; exact hk j (by omega) hj6) he
  refine r_aload_n hJ dX3_dropOldest_0 rfl jg0 ?_
  refine r_g3_0 hJ m114 dX3_dropOldest_1 ?_
  refine r_iconst hJ (v := nI 0) dX3_dropOldest_4 (by decide) ?_
  refine r_aald hJ (by decide) rfl dX3_dropOldest_5 ?_
  refine r_astore_n hJ dX3_dropOldest_6 rfl (jp1 rfl rfl) ?_
  refine r_iconst hJ (v := nI 1) dX3_dropOldest_7 (by decide) ?_
  refine r_istore_n hJ dX3_dropOldest_8 rfl (jp2 rfl rfl) ?_
  exact loop 5 1 K (by omega) (by omega) (fun _ _ _ => rfl) rfl

theorem setO_comm {S : jS} {o o' : Nat} {P P' : jO} (h : o ≠ o') : setO (setO S o P) o' P' = setO (setO S o' P') o P := by
  funext q
  by_cases h1 : q = o
  · subst h1
    simp [setO, h]
  · by_cases h2 : q = o'
    · subst h2
      simp [setO, h1]
    · simp [setO, h1, h2]
theorem c2_copyG (l : Launch) (E : jE) (S : jS) (x : jX) {o o1 : Nat} (ho : o < 8) (ho1 : o1 < 8) (hne : o1 ≠ o) : Ct l E yX2_copyFrom cX2_copyFrom 2 none 3 [.ref (ad E o 0), .ref (ad E o1 0)] (S, x) none (setO S o (S o1), x) := by
  have h := c2_copyFrom l E S x (S o) ho ho1 hne
  rwa [setO_self] at h
set_option maxRecDepth 100000 in
set_option maxHeartbeats 1000000 in
theorem c3_keep_a (l : Launch) (E : jE) (S : jS) (K : Nat → Nat) (y : Int64 × Nat) (V : jO) (hK : KI K) {m : Nat} (hV : V 0 0 = nI m) (hm : m < 6) : Ct l E yX3_keep cX3_keep 3 none 4 [.ref (ad E 9 0), .ref (ad E 0 0)] (setO S 9 V, (K, y)) none (setO (setO S (K m) (S 0)) 9 (put V 0 0 (V 0 0 + nI 1)), (K, y)) := by
  refine Ct.of (by decide +kernel) (Nat.le_refl _) (Nat.le_of_ble_eq_true rfl) rfl (fun J hJ hF => ?_)
  have hKm := hK.1 m hm
  have hV1 := hV
  refine r_aload_n hJ dX3_keep_0 rfl jg0 ?_
  refine r_g3_1O hJ m115 dX3_keep_1 ?_
  refine r_bipush hJ (v := nI 6) dX3_keep_4 (by decide) ?_
  refine r_icmp_ne hJ (tgt := 13) dX3_keep_6 (by decide) (fun c6 => ?_) (fun c6 => ?_)
  · refine r_aload_n hJ dX3_keep_13 rfl jg0 ?_
    refine r_g3_0 hJ m114 dX3_keep_14 ?_
    refine r_aload_n hJ dX3_keep_17 rfl jg0 ?_
    refine r_g3_1O hJ m115 dX3_keep_18 ?_
    refine r_aald hJ (n := m) (by omega) hV1 dX3_keep_21 ?_
    refine r_astore_n hJ dX3_keep_22 rfl (jp2 rfl rfl) ?_
    refine r_aload_n hJ dX3_keep_23 rfl jg2 ?_
    refine r_ifnull hJ dX3_keep_24 ?_
    refine r_aload_n hJ dX3_keep_27 rfl jg2 ?_
    refine r_aload_n hJ dX3_keep_28 rfl jg1 ?_
    refine r_V1u hJ kX3_25 (rcv2 E hKm.2) (c2_copyG l E _ _ (o := K m) (o1 := 0) (hKm.2) (by decide) (by omega)) dX3_keep_29 ⟨by decide, by decide⟩ (Nat.le_of_ble_eq_true rfl) ?_
    rw [setO_ne (show (0 : Nat) ≠ 9 by decide), setO_comm (show (9 : Nat) ≠ K m by omega)]
    refine r_aload_n hJ dX3_keep_32 rfl jg0 ?_
    refine r_dup hJ dX3_keep_33 rfl ?_
    refine r_g3_1O hJ m115 dX3_keep_34 ?_
    refine r_iconst hJ (v := nI 1) dX3_keep_37 (by decide) ?_
    refine r_iadd hJ dX3_keep_38 ?_
    refine r_p3_1 hJ m115 dX3_keep_39 ?_
    exact ret_v hF dX3_keep_42 rfl rfl
  · exact absurd c6 (by rw [hV, nI_eq (by omega) (by decide)]; omega)

set_option maxRecDepth 100000 in
set_option maxHeartbeats 1000000 in
theorem c3_keep_b (l : Launch) (E : jE) (S : jS) (K : Nat → Nat) (y : Int64 × Nat) (V : jO) (hK : KI K) (hV : V 0 0 = nI 6) : Ct l E yX3_keep cX3_keep 3 none 4 [.ref (ad E 9 0), .ref (ad E 0 0)] (setO S 9 V, (K, y)) none (setO (setO S (rotK K 5) (S 0)) 9 (put (put V 0 0 (V 0 0 - nI 1)) 0 0 (put V 0 0 (V 0 0 - nI 1) 0 0 + nI 1)), (rotK K, y)) := by
  refine Ct.of (by decide +kernel) (Nat.le_refl _) (Nat.le_of_ble_eq_true rfl) rfl (fun J hJ hF => ?_)
  have hKm := (KI_rot hK).1 5 (by decide)
  have hV1 : put V 0 0 (V 0 0 - nI 1) 0 0 = nI 5 := by rw [put_app, if_pos (by decide), hV]; decide
  refine r_aload_n hJ dX3_keep_0 rfl jg0 ?_
  refine r_g3_1O hJ m115 dX3_keep_1 ?_
  refine r_bipush hJ (v := nI 6) dX3_keep_4 (by decide) ?_
  refine r_icmp_ne hJ (tgt := 13) dX3_keep_6 (by decide) (fun c6 => ?_) (fun c6 => ?_)
  · exact absurd hV c6
  · refine r_aload_n hJ dX3_keep_9 rfl jg0 ?_
    refine r_V0ux hJ (x' := (rotK K, y)) rfl kX3_22 (rcv3 E) (c3_dropOldest l E S K y V hK) dX3_keep_10 ⟨by decide, by decide⟩ (Nat.le_of_ble_eq_true rfl) ?_
    refine r_aload_n hJ dX3_keep_13 rfl jg0 ?_
    refine r_g3_0 hJ m114 dX3_keep_14 ?_
    refine r_aload_n hJ dX3_keep_17 rfl jg0 ?_
    refine r_g3_1O hJ m115 dX3_keep_18 ?_
    refine r_aald hJ (n := 5) (by omega) hV1 dX3_keep_21 ?_
    refine r_astore_n hJ dX3_keep_22 rfl (jp2 rfl rfl) ?_
    refine r_aload_n hJ dX3_keep_23 rfl jg2 ?_
    refine r_ifnull hJ dX3_keep_24 ?_
    refine r_aload_n hJ dX3_keep_27 rfl jg2 ?_
    refine r_aload_n hJ dX3_keep_28 rfl jg1 ?_
    refine r_V1u hJ kX3_25 (rcv2 E hKm.2) (c2_copyG l E _ _ (o := rotK K 5) (o1 := 0) (hKm.2) (by decide) (by omega)) dX3_keep_29 ⟨by decide, by decide⟩ (Nat.le_of_ble_eq_true rfl) ?_
    rw [setO_ne (show (0 : Nat) ≠ 9 by decide), setO_comm (show (9 : Nat) ≠ rotK K 5 by omega)]
    refine r_aload_n hJ dX3_keep_32 rfl jg0 ?_
    refine r_dup hJ dX3_keep_33 rfl ?_
    refine r_g3_1O hJ m115 dX3_keep_34 ?_
    refine r_iconst hJ (v := nI 1) dX3_keep_37 (by decide) ?_
    refine r_iadd hJ dX3_keep_38 ?_
    refine r_p3_1 hJ m115 dX3_keep_39 ?_
    exact ret_v hF dX3_keep_42 rfl rfl

set_option maxRecDepth 100000 in
set_option maxHeartbeats 1000000 in
theorem c3_restore (l : Launch) (E : jE) (S : jS) (K : Nat → Nat) (y : Int64 × Nat) (V : jO) (hK : KI K) {m : Nat} (hV : V 0 0 = nI m) (hm : 0 < m) (hm6 : m ≤ 6) : Ct l E yX3_restore cX3_restore 3 none 4 [.ref (ad E 9 0), .ref (ad E 0 0)] (setO S 9 V, (K, y)) none (setO (setO S 9 (put V 0 0 (V 0 0 - nI 1))) 0 (S (K (m - 1))), (K, y)) := by
  refine Ct.of (by decide +kernel) (Nat.le_refl _) (Nat.le_of_ble_eq_true rfl) rfl (fun J hJ hF => ?_)
  have hKm := hK.1 (m - 1) (by omega)
  have hV1 : put V 0 0 (V 0 0 - nI 1) 0 0 = nI (m - 1) := by rw [put_app, if_pos (by decide), hV]; exact pk_sub (by omega)
  refine r_aload_n hJ dX3_restore_0 rfl jg0 ?_
  refine r_g3_1O hJ m115 dX3_restore_1 ?_
  refine r_if_ne hJ (tgt := 8) dX3_restore_4 (by decide) (fun c4 => ?_) (fun c4 => ?_)
  · refine r_aload_n hJ dX3_restore_8 rfl jg0 ?_
    refine r_dup hJ dX3_restore_9 rfl ?_
    refine r_g3_1O hJ m115 dX3_restore_10 ?_
    refine r_iconst hJ (v := nI 1) dX3_restore_13 (by decide) ?_
    refine r_isub hJ dX3_restore_14 ?_
    refine r_p3_1 hJ m115 dX3_restore_15 ?_
    refine r_aload_n hJ dX3_restore_18 rfl jg0 ?_
    refine r_g3_0 hJ m114 dX3_restore_19 ?_
    refine r_aload_n hJ dX3_restore_22 rfl jg0 ?_
    refine r_g3_1O hJ m115 dX3_restore_23 ?_
    refine r_aald hJ (n := m - 1) (by omega) hV1 dX3_restore_26 ?_
    refine r_astore_n hJ dX3_restore_27 rfl (jp2 rfl rfl) ?_
    refine r_aload_n hJ dX3_restore_28 rfl jg2 ?_
    refine r_ifnull hJ dX3_restore_29 ?_
    refine r_aload_n hJ dX3_restore_32 rfl jg1 ?_
    refine r_aload_n hJ dX3_restore_33 rfl jg2 ?_
    refine r_V1u hJ kX3_25 (rcv2 E (by decide)) (c2_copyG l E _ _ (o := 0) (o1 := K (m - 1)) (by decide) (hKm.2) (by omega)) dX3_restore_34 ⟨by decide, by decide⟩ (Nat.le_of_ble_eq_true rfl) ?_
    rw [setO_ne (show K (m - 1) ≠ 9 by omega)]
    exact ret_v hF dX3_restore_37 rfl rfl
  · exact absurd c4 (by rw [hV]; exact nI_ne0 hm (by omega))
end
section
/-! EXCEPTIONS: contracts of calls that throw (launches without stack traces) -/
abbrev nms : List String := ["java/lang/RuntimeException", "java/lang/Exception"]
def jXC (E : jE) (cls : String) (G : jG) : String → State → State → Prop := fun X st t => X = cls ∧ va_P E.2.1 vwCl (wld E G) t.heap ∧ va_F (jA E) st t
/-- y, called with av in the state G, throws cls and leaves G' (one exception more) -/
def CtT (l : Launch) (E : jE) (y : MethodName) (cc : ByteArray) (nL : Nat) (ret : Option FieldType) (d : Nat) (av : List Value) (G : jG) (cls : String) (G' : jG) : Prop :=
  G'.2.2.2 = G.2.2.2 + 1 ∧ vx_Met l y (.code y cc nL ret :: gw) (rmd d 1) (jPc E av G) (fun _ _ _ _ => False) (jXC E cls G') 1 6 (jA E)
def wT (own : String) (ik ic : Nat) (cls : String) : Prop :=
  Cond.classLink own ik cls ∈ gw ∧ Cond.initialized cls ∈ gw ∧ (∀ w ∈ (vx_at0 own ic cls nms).filter goodWord, w ∈ gw) ∧ (∀ w ∈ (vx_at0 own ic cls nms).filter (fun w => !goodWord w), w ∈ xw) ∧ (∀ w ∈ Cond.classLink own ik cls :: Cond.initialized cls :: vx_at0 own ic cls nms, vx_ot w = true) ∧ Bundle.fit cls = true
/-- the state with n exceptions made -/
def nxt (G : jG) : jG := (G.1, G.2.1, G.2.2.1, G.2.2.2 + 1)
theorem wld_nxt (E : jE) (G : jG) : wld E (nxt G) = wld E G := rfl
def jFT (l : Launch) (E : jE) (own : String) (cc : ByteArray) (d : Nat) (J : jT) (cls : String) (G' : jG) : Prop :=
  (∀ (G1 : jG) (pc : Nat) (L : List (Option Value)) (rest : List Value) (ik ic : Nat), nxt G1 = G' → wT own ik ic cls → decode cc pc = .ok (.new ik, 3) → decode cc (pc + 3) = .ok (.dup, 1) → decode cc (pc + 4) = .ok (.invokespecial ic, 3) → decode cc (pc + 7) = .ok (.athrow, 1) → 6 ≤ d → (rest.map fun v => v.category).sum ≤ 8 → J G1 pc L rest) ∧
  (∀ (G1 : jG) (pc : Nat) (L : List (Option Value)) (rest : List Value) (ix nL' n d' a : Nat) (C : String) (y' : MethodName) (cc' : ByteArray) (ret' : Option FieldType) (As : List Value), wV own ix C y' cc' nL' ret' n → rcv E a C → CtT l E y' cc' nL' ret' d' (.ref a :: As) G1 cls G' →
    decode cc pc = .ok (.invokevirtual ix, 3) → d' < d ∧ nL' ≤ 13 → As.length = n → (rest.map fun v => v.category).sum ≤ 8 → J G1 pc L (As.reverse ++ .ref a :: rest)) ∧
  (∀ (G1 : jG) (pc : Nat) (L : List (Option Value)) (rest : List Value) (ix nL' n d' : Nat) (y' : MethodName) (cc' : ByteArray) (ret' : Option FieldType) (As : List Value), wS own ix y' cc' nL' ret' n → CtT l E y' cc' nL' ret' d' As G1 cls G' →
    decode cc pc = .ok (.invokestatic ix, 3) → d' < d ∧ nL' ≤ 13 → As.length = n → (rest.map fun v => v.category).sum ≤ 8 → J G1 pc L (As.reverse ++ rest))
section THR
variable {l : Launch} {p : Program} {e : Env} {R : Room} {s : State} {m : MethodId} {args : Array Value} {below : List Frame} {meth : Method} {c : Code} {H : Heap} {locs : List Loc} {E : jE}
theorem thr_out {cls : String} {G' : jG} {ls : Array Slot} {rest st0 : List Value} {pc : Nat} (hlocks : meth.locks = false) (hout : ∀ x ∈ c.exceptionTable.toList, False) (hS : va_S (jA E) s.heap H locs)
    (hr : vx_Run p l e R s m args below meth c H locs 0 0 1 6 (F0 m pc ls st0) rest (fun _ _ _ => False) (jXC E cls G') (jA E)) :
    W p l e R s m args below meth c H locs 0 0 (vx_MQ below (fun _ _ _ _ => False) (jXC E cls G') args s 1 6 (jA E)) (F0 m pc ls st0) := by
  intro T hT X
  rcases hr T hT X with ⟨v, st₀, t, T', L, h0, X', hL, e1, e2, hF, st⟩ | ⟨q, st₀, t, T', L, E', ce, h0, X', hL, e1, e2, ⟨hE, hw, hz, hkk⟩, hce, hcv, hcl, st⟩
  · exact hF.elim
  · rw [h0] at hz hkk
    have hS2 : va_S (jA E) s.heap T'.heap (locs ++ L) := ⟨Nat.le_trans hS.1 (by rw [e1]; exact hz), fun q g1 g2 => by rw [e1, hkk q (Nat.lt_of_lt_of_le g1 hS.1) g2]; exact hS.2.1 q g1 g2, fun q hq => by
      rcases List.mem_append.mp hq with h | h
      · exact hS.2.2 q h
      · exact hL q h⟩
    have ho := vx_out (p := p) (l := l) (e := e) (R := R) (s := s) (m := m) (args := args) (below := below) (meth := meth) (c := c) (H := T'.heap) (locs := locs ++ L) (cells := 0 + 1) (slots := 0 + 6) (free := jA E) (ls := ls) (rest := rest) (Qc := fun _ _ _ _ => False) (XC := jXC E cls G') (pc := pc) (E := E') (ce := ce) (q := q) (mc := 1) (ms := 6)
      (fun x hx => (hout x hx).elim) hlocks (by rw [e1]; exact hce) hcv hcl (fun u hu _ => ⟨hE, by rw [hu, e1]; exact hw, hS2.F hu⟩) hS2.2.2 (Nat.le_refl _) (Nat.le_refl _)
    obtain ⟨t2, a1, b1⟩ := ho T' rfl X'
    exact ⟨t2, st.trans a1, b1⟩
end THR
set_option maxHeartbeats 1000000 in
theorem CtT.ofG {l : Launch} {E : jE} {y : MethodName} {cc : ByteArray} {nL d : Nat} {ret : Option FieldType} {av : List Value} {G Gm : jG} {cls : String} {L0 : List (Option Value)} (hm : Gm.2.2.2 = G.2.2.2) (hst : l.stackTraces = false) (hy : plainName y.cls = true) (hlen : (lg_sl av).length ≤ nL) (hL0 : lin nL av = L0)
    (body : ∀ J : jT, jR l E y.cls cc nL d G.2.2.2 1 J → jFT l E y.cls cc d J cls (nxt Gm) → J G 0 L0 []) : CtT l E y cc nL ret d av G cls (nxt Gm) := by
  refine ⟨by show Gm.2.2.2 + 1 = G.2.2.2 + 1; rw [hm], vx_ofW (cc := cc) (maxL := nL) (ret := ret) hy rfl ?_⟩
  intro p e s m args below meth c s₁ B hml hout hv
  obtain ⟨rfl, hP, hB⟩ := hv
  have hx := B.exec
  have hb := B.bytes
  have hts0 := atoms_spec (ws := Cond.code y cc nL ret :: gw) B.pre
  have hts : ∀ w ∈ gw, w.before av.toArray s = true := fun w hw => hts0 w (List.mem_cons_of_mem _ hw)
  have hown : s.vm.findClass y.cls = some m.cls := findClass_of_methodNamed B.named
  have hlocks := B.notSynchronized
  have hfix : CallFix p m c cc nL s av.toArray gw y.cls := ⟨hx, hb, hml, hown, hts⟩
  rw [lg_entry_eq]
  have K := body (jW p l e (rmd d 1) s m av.toArray below meth c (vx_MQ below (fun _ _ _ _ => False) (jXC E cls (nxt Gm)) av.toArray s 1 6 (jA E)) E nL G.2.2.2 1 0 0)
    ⟨p, e, rmd d 1, s, m, av.toArray, below, meth, c, _, 0, 0, rfl, hfix, Nat.le_refl _, Nat.le_refl _, by show 0 + 1 ≤ 1; omega, by show 0 + 6 * 1 ≤ 6 * 1; omega, hB⟩
    (by
      refine ⟨fun G1 pc L rest ik ic hG hw d0 d3 d4 d7 hd hsum h1 h2 H locs ls hP hS hl => ?_, fun G1 pc L rest ix nL' n d' a C y' cc' ret' As w hrc ct hdg hdd hn hsum h1 h2 H locs ls hP hS hl => ?_, fun G1 pc L rest ix nL' n d' y' cc' ret' As w ct hdg hdd hn hsum h1 h2 H locs ls hP hS hl => ?_⟩
      · have hn0 : G1.2.2.2 + 1 = Gm.2.2.2 + 1 := congrArg (fun z : jG => z.2.2.2) hG
        have e0 : G1.2.2.2 - G.2.2.2 = 0 := by omega
        rw [e0, Nat.mul_zero]
        obtain ⟨w1, w2, w3, w4, w5, w6⟩ := hw
        refine vx_throw0 (A := jA E) (names := nms) hx hb hst hown w6 (by decide +kernel) (hts _ w1) (hts _ w2) (vx_hat (B := xw) (fun w hw => hts _ (w3 w hw)) w4 (fun w hw => ?_)) w5 hB.2.1 hB.2.2.1 hS (by rw [hl.1, hml]) d0 d3 d4 d7 (fun x hx => (hout x hx).elim) (by show 2 + 3 < d; omega) (by show _ + (13 * 3 + 42) ≤ 32 * d; omega) (by show 0 + 0 + 1 ≤ 1; omega) (by show 0 + 0 + 6 ≤ 6; omega) hlocks (fun t hvm hz hk => ⟨rfl, ?_, Nat.le_trans hS.1 hz, fun q g1 g2 => ?_⟩) hS.2.2 (by omega) (by omega)
        · have h9 := hB.2.2.2.2.2.2.2.2.2.1 w hw
          exact va_Nw.use ((by decide +kernel : ∀ w ∈ xw, w.onTables = true) w hw) h9
        · have hP2 : va_P E.2.1 vwCl (wld E (nxt Gm)) H := by rw [← hG, wld_nxt]; exact hP
          exact hP2.kept (fun k q hq => hk q.1 (hP2 k q hq).lt)
        · rw [hk q (Nat.lt_of_lt_of_le g1 hS.1)]
          exact hS.2.1 q g1 g2
      · obtain ⟨hn1, hM⟩ := ct
        have hn0 : Gm.2.2.2 + 1 = G1.2.2.2 + 1 := hn1
        have e0 : G1.2.2.2 - G.2.2.2 = 0 := by omega
        rw [e0, Nat.mul_zero]
        obtain ⟨o, ci, N, T, rfl, ho, hwd, hcl, hsc⟩ := hrc
        obtain ⟨fs, hfs⟩ := hsc G1.2 (G1.1 o)
        exact thr_out hlocks hout hS (vx_runV (e := e) (R := rmd d 1) (below := below) (meth := meth) (rest := rest) (g := F0 m pc ls (As.reverse ++ .ref (ad E o 0) :: rest)) (cells := 0) (slots := 0) (locs := locs) (As := As) (H := H) hfix hM
          (cwV (C := C) n hts (gI_V w) rfl rfl rfl w.2.2.2.2.2 ⟨by show d' + 1 ≤ d; omega, by show 8 + (nL' + 11) + 32 * d' ≤ 32 * d; omega⟩)
          ⟨jPc_blind E _ G1, va_recv (q := (C, T, N)) (q0 := bas o + 0) (fs := fs) hB.1 hP hcl (by obtain ⟨S, x⟩ := G1; rw [wld_get E S x ho hwd, cel_0]; exact congrArg (fun z => some (ad E o 0, z)) hfs), fun U hU hW => ⟨rfl, by rw [hU]; exact hP, hB.go hS hW hU⟩⟩ rfl hn hl.1 rfl (lv_room hsum) hdg ⟨by show 0 + 1 ≤ 1; omega, by show 0 + 6 ≤ 6; omega⟩)
      · obtain ⟨hn1, hM⟩ := ct
        have hn0 : Gm.2.2.2 + 1 = G1.2.2.2 + 1 := hn1
        have e0 : G1.2.2.2 - G.2.2.2 = 0 := by omega
        rw [e0, Nat.mul_zero]
        exact thr_out hlocks hout hS (vx_runS (e := e) (R := rmd d 1) (below := below) (meth := meth) (rest := rest) (g := F0 m pc ls (As.reverse ++ rest)) (cells := 0) (slots := 0) (locs := locs) (As := As) (H := H) hfix hM
          (cwS n hts (gI_S w) rfl rfl rfl w.2.2.2.2 ⟨by show d' + 1 ≤ d; omega, by show 8 + (nL' + 11) + 32 * d' ≤ 32 * d; omega⟩)
          ⟨jPc_blind E _ G1, fun U hU hW => ⟨rfl, by rw [hU]; exact hP, hB.go hS hW hU⟩⟩ rfl hn hl.1 rfl (lv_room hsum) hdg ⟨by show 0 + 1 ≤ 1; omega, by show 0 + 6 ≤ 6; omega⟩))
    (Nat.le_refl _) (by omega) s.heap [] _ hP va_S.rf (by rw [← hL0]; exact lh_in hlen)
  rw [Nat.sub_self, Nat.mul_zero] at K
  exact K
theorem CtT.of {l : Launch} {E : jE} {y : MethodName} {cc : ByteArray} {nL d : Nat} {ret : Option FieldType} {av : List Value} {G : jG} {cls : String} {L0 : List (Option Value)} (hst : l.stackTraces = false) (hy : plainName y.cls = true) (hlen : (lg_sl av).length ≤ nL) (hL0 : lin nL av = L0)
    (body : ∀ J : jT, jR l E y.cls cc nL d G.2.2.2 1 J → jFT l E y.cls cc d J cls (nxt G) → J G 0 L0 []) : CtT l E y cc nL ret d av G cls (nxt G) := CtT.ofG rfl hst hy hlen hL0 body
theorem thr_ooo : wT RX4 194 196 "java/lang/IndexOutOfBoundsException" := ⟨by decide +kernel, by decide +kernel, by decide +kernel, by decide +kernel, by decide +kernel, by decide +kernel⟩
theorem thr_arg : wT RX4 121 123 "java/lang/IllegalArgumentException" := ⟨by decide +kernel, by decide +kernel, by decide +kernel, by decide +kernel, by decide +kernel, by decide +kernel⟩
theorem thr_sta : wT RX4 200 202 "java/lang/IllegalStateException" := ⟨by decide +kernel, by decide +kernel, by decide +kernel, by decide +kernel, by decide +kernel, by decide +kernel⟩
end
section
theorem g2_hasNumber (l : Launch) (E : jE) (S : jS) (x : jX) {o : Nat} (ho : o < 8) (n : Int32) : Ct l E yX2_hasNumber cX2_hasNumber 2 (some .boolean) 1 [.ref (ad E o 0), .int n] (S, x) (some (.int (bI (!decide (n < 0) && !decide ((S o) 1 3 ≤ n))))) (S, x) := by
  have h := c2_hasNumber l E S x (S o) ho n
  rwa [setO_self] at h
theorem g2_mayLease (l : Launch) (E : jE) (S : jS) (x : jX) {o : Nat} (ho : o < 8) {z : Nat} (hz : (S o) 1 3 = nI z) (hz4 : z ≤ 64) (h m : Int32) : Ct l E yX2_mayLease cX2_mayLease 3 (some .boolean) 3 [.ref (ad E o 0), .int h, .int m] (S, x) (some (.int (bI (hasR (S o) h m && (lowR (S o) z m).isSome)))) (S, x) := by
  have h := c2_mayLease l E S x (S o) ho hz hz4 h m
  rwa [setO_self] at h
theorem g2_mayWish (l : Launch) (E : jE) (S : jS) (x : jX) {o : Nat} (ho : o < 8) (h : Int32) {n : Nat} (hn : n < 64) {w : Nat} (hw3 : w ≤ 3) (hw : (S o) 7 n = nI w) : Ct l E yX2_mayWish cX2_mayWish 3 (some .boolean) 3 [.ref (ad E o 0), .int h, .int (nI n)] (S, x) (some (.int (bI (mayW (S o) h n)))) (S, x) := by
  have h := c2_mayWish l E S x (S o) ho h hn hw3 hw
  rwa [setO_self] at h
theorem g2_mayRenew (l : Launch) (E : jE) (S : jS) (x : jX) {o : Nat} (ho : o < 8) (h : Int32) {n : Nat} (hn : n < 64) : Ct l E yX2_mayRenew cX2_mayRenew 3 (some .boolean) 1 [.ref (ad E o 0), .int h, .int (nI n)] (S, x) (some (.int (bI (decide ((S o) 2 n = h) && (decide ((S o) 1 2 = 0) || decide ((S o) 7 n = 0)))))) (S, x) := by
  have h := c2_mayRenew l E S x (S o) ho h hn
  rwa [setO_self] at h
theorem g2_hasTimeFor (l : Launch) (E : jE) (S : jS) (x : jX) {o : Nat} (ho : o < 8) (b : Int32) : Ct l E yX2_hasTimeFor cX2_hasTimeFor 2 (some .boolean) 1 [.ref (ad E o 0), .int b] (S, x) (some (.int (bI (!decide (nI 9999 < (S o) 0 0 + b))))) (S, x) := by
  have h := c2_hasTimeFor l E S x (S o) ho b
  rwa [setO_self] at h
theorem g2_fitsIn (l : Launch) (E : jE) (S : jS) (x : jX) {o : Nat} (ho : o < 8) {m : Nat} (hm : m ≤ 64) : Ct l E yX2_fitsIn cX2_fitsIn 3 (some .boolean) 1 [.ref (ad E o 0), .int (nI m)] (S, x) (some (.int (bI (fnd (fun n => !frP (S o) n) (64 - m) m).isNone))) (S, x) := by
  have h := c2_fitsIn l E S x (S o) ho hm
  rwa [setO_self] at h
theorem g2_leaseRow (l : Launch) (E : jE) (S : jS) (x : jX) {o : Nat} (ho : o < 8) {z : Nat} (hz : (S o) 1 3 = nI z) (hz4 : z ≤ 64) {h m : Nat} (hh : h < 8) (hm : m < 2 ^ 31) (t : Int32) : Ct l E yX2_leaseRow cX2_leaseRow 6 (some .int) 3 [.ref (ad E o 0), .int (nI h), .int (nI m), .int t] (S, x) (some (.int (oI (lowR (S o) z (nI m))))) (setO S o (leaseRowP (S o) z h m t), x) := by
  have h := c2_leaseRow l E S x (S o) ho hz hz4 hh hm t
  rwa [setO_self] at h
theorem g2_prolong (l : Launch) (E : jE) (S : jS) (x : jX) {o : Nat} (ho : o < 8) {n : Nat} (hn : n < 64) (t : Int32) : Ct l E yX2_prolong cX2_prolong 4 (some .int) 2 [.ref (ad E o 0), .int (nI n), .int t] (S, x) (some (.int ((S o) 4 n))) (setO S o (prolP (S o) n t), x) := by
  have h := c2_prolong l E S x (S o) ho hn t
  rwa [setO_self] at h
theorem g2_freeSpan (l : Launch) (E : jE) (S : jS) (x : jX) {o : Nat} (ho : o < 8) (hP : PI (S o)) (h : Int32) {a b : Nat} (hab : a ≤ b) (hb : b < 64) : Ct l E yX2_freeSpan cX2_freeSpan 6 (some .int) 3 [.ref (ad E o 0), .int h, .int (nI a), .int (nI b)] (S, x) (some (.int (nI (spanN h (b + 1 - a) a ((S o), 0)).2))) (setO S o (spanN h (b + 1 - a) a ((S o), 0)).1, x) := by
  have h := c2_freeSpan l E S x (S o) ho hP h hab hb
  rwa [setO_self] at h
theorem g2_addWish (l : Launch) (E : jE) (S : jS) (x : jX) {o : Nat} (ho : o < 8) {h n : Nat} (hh : h < 8) (hn : n < 64) (t : Int32) {w : Nat} (hw3 : w ≤ 3) (hw : (S o) 7 n = nI w) : Ct l E yX2_addWish cX2_addWish 5 (some .int) 2 [.ref (ad E o 0), .int (nI h), .int (nI n), .int t] (S, x) (some (.int (if (S o) 2 n = -1 then nI 0 else addW (S o) h n t 7 n))) (setO S o (addW (S o) h n t), x) := by
  have h := c2_addWish l E S x (S o) ho hh hn t hw3 hw
  rwa [setO_self] at h
theorem g2_placeOfWish (l : Launch) (E : jE) (S : jS) (x : jX) {o : Nat} (ho : o < 8) (h : Int32) {n : Nat} (hn : n < 64) {w : Nat} (hw3 : w ≤ 3) (hw : (S o) 7 n = nI w) : Ct l E yX2_placeOfWish cX2_placeOfWish 4 (some .int) 1 [.ref (ad E o 0), .int h, .int (nI n)] (S, x) (some (.int (oI (placeW (S o) h n)))) (S, x) := by
  have h := c2_placeOfWish l E S x (S o) ho h hn hw3 hw
  rwa [setO_self] at h
theorem g2_dropWish (l : Launch) (E : jE) (S : jS) (x : jX) {o : Nat} (ho : o < 8) {n : Nat} (hn : n < 64) {w : Nat} (hw3 : w ≤ 3) (hw : (S o) 7 n = nI w) {q : Nat} (hq : q < w) : Ct l E yX2_dropWish cX2_dropWish 5 none 1 [.ref (ad E o 0), .int (nI n), .int (nI q)] (S, x) none (setO S o (dropP (S o) n q), x) := by
  have h := c2_dropWish l E S x (S o) ho hn hw3 hw hq
  rwa [setO_self] at h
theorem g2_passUnits (l : Launch) (E : jE) (S : jS) (x : jX) {o : Nat} (ho : o < 8) (hP : PI (S o)) {b : Nat} (hb : b < 2 ^ 30) : Ct l E yX2_passUnits cX2_passUnits 4 (some .int) 4 [.ref (ad E o 0), .int (nI b)] (S, x) (some (.int (passN b (S o) 0 3 - (S o) 0 3))) (setO S o (passN b (S o)), x) := by
  have h := c2_passUnits l E S x (S o) ho hP hb
  rwa [setO_self] at h
theorem g2_leap (l : Launch) (E : jE) (S : jS) (x : jX) {o : Nat} (ho : o < 8) (hP : PI (S o)) (u : Int32) : Ct l E yX2_leap cX2_leap 4 (some .boolean) 4 [.ref (ad E o 0), .int u] (S, x) (some (.int (bI (!decide (u < leapV (S o) u))))) (setO S o (leapP (S o) u), x) := by
  have h := c2_leap l E S x (S o) ho hP u
  rwa [setO_self] at h
theorem g2_ofNumber (l : Launch) (E : jE) (S : jS) (x : jX) {o : Nat} (ho : o < 8) {n : Nat} (hn : n < 64) {q : Nat} (hq : q ≤ 8) : Ct l E yX2_ofNumber cX2_ofNumber 5 (some .int) 2 [.ref (ad E o 0), .int (nI n), .int (nI q)] (S, x) (some (.int (ofN (S o) n q))) (S, x) := by
  have h := c2_ofNumber l E S x (S o) ho hn hq
  rwa [setO_self] at h
theorem g2_ofHolder (l : Launch) (E : jE) (S : jS) (x : jX) {o : Nat} (ho : o < 8) (hP : PI (S o)) {h : Nat} (hh : h < 8) {q : Nat} (hq : q ≤ 7) : Ct l E yX2_ofHolder cX2_ofHolder 3 (some .int) 3 [.ref (ad E o 0), .int (nI h), .int (nI q)] (S, x) (some (.int (ofH (S o) h q))) (S, x) := by
  have h := c2_ofHolder l E S x (S o) ho hP hh hq
  rwa [setO_self] at h
theorem g2_ofSpan (l : Launch) (E : jE) (S : jS) (x : jX) {o : Nat} (ho : o < 8) {z : Nat} (hz : (S o) 1 3 = nI z) (hz4 : z ≤ 64) (q w : Int32) : Ct l E yX2_ofSpan cX2_ofSpan 4 (some .int) 3 [.ref (ad E o 0), .int q, .int w] (S, x) (some (.int (ofSp (S o) z q w))) (S, x) := by
  have h := c2_ofSpan l E S x (S o) ho hz hz4 q w
  rwa [setO_self] at h
theorem g2_ofAll (l : Launch) (E : jE) (S : jS) (x : jX) {o : Nat} (ho : o < 8) {z : Nat} (hz : (S o) 1 3 = nI z) (hz4 : z ≤ 64) {q : Nat} (hq : q ≤ 11) : Ct l E yX2_ofAll cX2_ofAll 2 (some .int) 4 [.ref (ad E o 0), .int (nI q)] (S, x) (some (.int (ofA (S o) z q))) (S, x) := by
  have h := c2_ofAll l E S x (S o) ho hz hz4 hq
  rwa [setO_self] at h
theorem g2_freeNumbers (l : Launch) (E : jE) (S : jS) (x : jX) {o : Nat} (ho : o < 8) {z : Nat} (hz : (S o) 1 3 = nI z) (hz4 : z ≤ 64) : Ct l E yX2_freeNumbers cX2_freeNumbers 1 (some .int) 3 [.ref (ad E o 0)] (S, x) (some (.int (nI (cnt (fun n => decide (stg (S o) n = nI 0)) z)))) (S, x) := by
  have h := c2_freeNumbers l E S x (S o) ho hz hz4
  rwa [setO_self] at h
theorem g2_longestRow (l : Launch) (E : jE) (S : jS) (x : jX) {o : Nat} (ho : o < 8) {z : Nat} (hz : (S o) 1 3 = nI z) (hz4 : z ≤ 64) : Ct l E yX2_longestRow cX2_longestRow 3 (some .int) 2 [.ref (ad E o 0)] (S, x) (some (.int (nI (longN (S o) z z 0 0)))) (S, x) := by
  have h := c2_longestRow l E S x (S o) ho hz hz4
  rwa [setO_self] at h
theorem g2_spans (l : Launch) (E : jE) (S : jS) (x : jX) {o : Nat} (ho : o < 8) {z : Nat} (hz : (S o) 1 3 = nI z) (hz4 : z ≤ 64) : Ct l E yX2_spans cX2_spans 3 (some .int) 2 [.ref (ad E o 0)] (S, x) (some (.int (nI (cnt (stS (S o)) z)))) (S, x) := by
  have h := c2_spans l E S x (S o) ho hz hz4
  rwa [setO_self] at h
theorem thrV0 {l : Launch} {E : jE} {own : String} {cc : ByteArray} {d ix nL' d' pc : Nat} {J : jT} {cls : String} {G1 G' : jG} {L : List (Option Value)} {rest : List Value} {y : MethodName} {cc' : ByteArray} {ret : Option FieldType} (hF : jFT l E own cc d J cls G') {a : Nat} {C : String} (w : wV own ix C y cc' nL' ret 0) (hrc : rcv E a C) (ct : CtT l E y cc' nL' ret d' [.ref a] G1 cls G') (hd : decode cc pc = .ok (.invokevirtual ix, 3)) (hdd : d' < d ∧ nL' ≤ 13) (hs : (rest.map fun v => v.category).sum ≤ 8) : J G1 pc L (.ref a :: rest) :=
  hF.2.1 G1 pc L rest ix nL' 0 d' a C y cc' ret [] w hrc ct hd hdd rfl hs
theorem thrS0 {l : Launch} {E : jE} {own : String} {cc : ByteArray} {d ix nL' d' pc : Nat} {J : jT} {cls : String} {G1 G' : jG} {L : List (Option Value)} {rest : List Value} {y : MethodName} {cc' : ByteArray} {ret : Option FieldType} (hF : jFT l E own cc d J cls G') (w : wS own ix y cc' nL' ret 0) (ct : CtT l E y cc' nL' ret d' [] G1 cls G') (hd : decode cc pc = .ok (.invokestatic ix, 3)) (hdd : d' < d ∧ nL' ≤ 13) (hs : (rest.map fun v => v.category).sum ≤ 8) : J G1 pc L (rest) :=
  hF.2.2 G1 pc L rest ix nL' 0 d' y cc' ret [] w ct hd hdd rfl hs
theorem thrV1 {l : Launch} {E : jE} {own : String} {cc : ByteArray} {d ix nL' d' pc : Nat} {J : jT} {cls : String} {G1 G' : jG} {L : List (Option Value)} {rest : List Value} {y : MethodName} {cc' : ByteArray} {ret : Option FieldType} {x1 : Value} (hF : jFT l E own cc d J cls G') {a : Nat} {C : String} (w : wV own ix C y cc' nL' ret 1) (hrc : rcv E a C) (ct : CtT l E y cc' nL' ret d' [.ref a, x1] G1 cls G') (hd : decode cc pc = .ok (.invokevirtual ix, 3)) (hdd : d' < d ∧ nL' ≤ 13) (hs : (rest.map fun v => v.category).sum ≤ 8) : J G1 pc L (x1 :: .ref a :: rest) :=
  hF.2.1 G1 pc L rest ix nL' 1 d' a C y cc' ret [x1] w hrc ct hd hdd rfl hs
theorem thrS1 {l : Launch} {E : jE} {own : String} {cc : ByteArray} {d ix nL' d' pc : Nat} {J : jT} {cls : String} {G1 G' : jG} {L : List (Option Value)} {rest : List Value} {y : MethodName} {cc' : ByteArray} {ret : Option FieldType} {x1 : Value} (hF : jFT l E own cc d J cls G') (w : wS own ix y cc' nL' ret 1) (ct : CtT l E y cc' nL' ret d' [x1] G1 cls G') (hd : decode cc pc = .ok (.invokestatic ix, 3)) (hdd : d' < d ∧ nL' ≤ 13) (hs : (rest.map fun v => v.category).sum ≤ 8) : J G1 pc L (x1 :: rest) :=
  hF.2.2 G1 pc L rest ix nL' 1 d' y cc' ret [x1] w ct hd hdd rfl hs
theorem thrV2 {l : Launch} {E : jE} {own : String} {cc : ByteArray} {d ix nL' d' pc : Nat} {J : jT} {cls : String} {G1 G' : jG} {L : List (Option Value)} {rest : List Value} {y : MethodName} {cc' : ByteArray} {ret : Option FieldType} {x1 x2 : Value} (hF : jFT l E own cc d J cls G') {a : Nat} {C : String} (w : wV own ix C y cc' nL' ret 2) (hrc : rcv E a C) (ct : CtT l E y cc' nL' ret d' [.ref a, x1, x2] G1 cls G') (hd : decode cc pc = .ok (.invokevirtual ix, 3)) (hdd : d' < d ∧ nL' ≤ 13) (hs : (rest.map fun v => v.category).sum ≤ 8) : J G1 pc L (x2 :: x1 :: .ref a :: rest) :=
  hF.2.1 G1 pc L rest ix nL' 2 d' a C y cc' ret [x1, x2] w hrc ct hd hdd rfl hs
theorem thrS2 {l : Launch} {E : jE} {own : String} {cc : ByteArray} {d ix nL' d' pc : Nat} {J : jT} {cls : String} {G1 G' : jG} {L : List (Option Value)} {rest : List Value} {y : MethodName} {cc' : ByteArray} {ret : Option FieldType} {x1 x2 : Value} (hF : jFT l E own cc d J cls G') (w : wS own ix y cc' nL' ret 2) (ct : CtT l E y cc' nL' ret d' [x1, x2] G1 cls G') (hd : decode cc pc = .ok (.invokestatic ix, 3)) (hdd : d' < d ∧ nL' ≤ 13) (hs : (rest.map fun v => v.category).sum ≤ 8) : J G1 pc L (x2 :: x1 :: rest) :=
  hF.2.2 G1 pc L rest ix nL' 2 d' y cc' ret [x1, x2] w ct hd hdd rfl hs
theorem thrV3 {l : Launch} {E : jE} {own : String} {cc : ByteArray} {d ix nL' d' pc : Nat} {J : jT} {cls : String} {G1 G' : jG} {L : List (Option Value)} {rest : List Value} {y : MethodName} {cc' : ByteArray} {ret : Option FieldType} {x1 x2 x3 : Value} (hF : jFT l E own cc d J cls G') {a : Nat} {C : String} (w : wV own ix C y cc' nL' ret 3) (hrc : rcv E a C) (ct : CtT l E y cc' nL' ret d' [.ref a, x1, x2, x3] G1 cls G') (hd : decode cc pc = .ok (.invokevirtual ix, 3)) (hdd : d' < d ∧ nL' ≤ 13) (hs : (rest.map fun v => v.category).sum ≤ 8) : J G1 pc L (x3 :: x2 :: x1 :: .ref a :: rest) :=
  hF.2.1 G1 pc L rest ix nL' 3 d' a C y cc' ret [x1, x2, x3] w hrc ct hd hdd rfl hs
theorem thrS3 {l : Launch} {E : jE} {own : String} {cc : ByteArray} {d ix nL' d' pc : Nat} {J : jT} {cls : String} {G1 G' : jG} {L : List (Option Value)} {rest : List Value} {y : MethodName} {cc' : ByteArray} {ret : Option FieldType} {x1 x2 x3 : Value} (hF : jFT l E own cc d J cls G') (w : wS own ix y cc' nL' ret 3) (ct : CtT l E y cc' nL' ret d' [x1, x2, x3] G1 cls G') (hd : decode cc pc = .ok (.invokestatic ix, 3)) (hdd : d' < d ∧ nL' ≤ 13) (hs : (rest.map fun v => v.category).sum ≤ 8) : J G1 pc L (x3 :: x2 :: x1 :: rest) :=
  hF.2.2 G1 pc L rest ix nL' 3 d' y cc' ret [x1, x2, x3] w ct hd hdd rfl hs
theorem thrV4 {l : Launch} {E : jE} {own : String} {cc : ByteArray} {d ix nL' d' pc : Nat} {J : jT} {cls : String} {G1 G' : jG} {L : List (Option Value)} {rest : List Value} {y : MethodName} {cc' : ByteArray} {ret : Option FieldType} {x1 x2 x3 x4 : Value} (hF : jFT l E own cc d J cls G') {a : Nat} {C : String} (w : wV own ix C y cc' nL' ret 4) (hrc : rcv E a C) (ct : CtT l E y cc' nL' ret d' [.ref a, x1, x2, x3, x4] G1 cls G') (hd : decode cc pc = .ok (.invokevirtual ix, 3)) (hdd : d' < d ∧ nL' ≤ 13) (hs : (rest.map fun v => v.category).sum ≤ 8) : J G1 pc L (x4 :: x3 :: x2 :: x1 :: .ref a :: rest) :=
  hF.2.1 G1 pc L rest ix nL' 4 d' a C y cc' ret [x1, x2, x3, x4] w hrc ct hd hdd rfl hs
theorem thrS4 {l : Launch} {E : jE} {own : String} {cc : ByteArray} {d ix nL' d' pc : Nat} {J : jT} {cls : String} {G1 G' : jG} {L : List (Option Value)} {rest : List Value} {y : MethodName} {cc' : ByteArray} {ret : Option FieldType} {x1 x2 x3 x4 : Value} (hF : jFT l E own cc d J cls G') (w : wS own ix y cc' nL' ret 4) (ct : CtT l E y cc' nL' ret d' [x1, x2, x3, x4] G1 cls G') (hd : decode cc pc = .ok (.invokestatic ix, 3)) (hdd : d' < d ∧ nL' ≤ 13) (hs : (rest.map fun v => v.category).sum ≤ 8) : J G1 pc L (x4 :: x3 :: x2 :: x1 :: rest) :=
  hF.2.2 G1 pc L rest ix nL' 4 d' y cc' ret [x1, x2, x3, x4] w ct hd hdd rfl hs
theorem r_V0vx {l : Launch} {E : jE} {own : String} {cc : ByteArray} {nL d n0 cap : Nat} {J : jT} {pc : Nat} {L : List (Option Value)} {rest : List Value} (hJ : jR l E own cc nL d n0 cap J) {ix nL' d' a : Nat} {C : String} {y : MethodName} {cc' : ByteArray} {ret : Option FieldType} {S S' : jS} {x x' : jX} {v : Value} (hx : x'.2.2 = x.2.2) (w : wV own ix C y cc' nL' ret 0) (hrc : rcv E a C) (ct : Ct l E y cc' nL' ret d' [.ref a] (S, x) (some v) (S', x')) (hd : decode cc pc = .ok (.invokevirtual ix, 3)) (hdd : d' < d ∧ nL' ≤ 13) (hst : (rest.map fun v => v.category).sum ≤ 8) (k : J (S', x') (pc + 3) L (v :: rest)) : J (S, x) pc L (.ref a :: rest) :=
  r_callV hJ (As := []) w hrc ct hd hdd rfl hst (fun h => by rw [hx]; exact h) k
theorem r_V1vx {l : Launch} {E : jE} {own : String} {cc : ByteArray} {nL d n0 cap : Nat} {J : jT} {pc : Nat} {L : List (Option Value)} {rest : List Value} (hJ : jR l E own cc nL d n0 cap J) {ix nL' d' a : Nat} {C : String} {y : MethodName} {cc' : ByteArray} {ret : Option FieldType} {S S' : jS} {x x' : jX} {x1 : Value} {v : Value} (hx : x'.2.2 = x.2.2) (w : wV own ix C y cc' nL' ret 1) (hrc : rcv E a C) (ct : Ct l E y cc' nL' ret d' [.ref a, x1] (S, x) (some v) (S', x')) (hd : decode cc pc = .ok (.invokevirtual ix, 3)) (hdd : d' < d ∧ nL' ≤ 13) (hst : (rest.map fun v => v.category).sum ≤ 8) (k : J (S', x') (pc + 3) L (v :: rest)) : J (S, x) pc L (x1 :: .ref a :: rest) :=
  r_callV hJ (As := [x1]) w hrc ct hd hdd rfl hst (fun h => by rw [hx]; exact h) k
theorem r_V2vx {l : Launch} {E : jE} {own : String} {cc : ByteArray} {nL d n0 cap : Nat} {J : jT} {pc : Nat} {L : List (Option Value)} {rest : List Value} (hJ : jR l E own cc nL d n0 cap J) {ix nL' d' a : Nat} {C : String} {y : MethodName} {cc' : ByteArray} {ret : Option FieldType} {S S' : jS} {x x' : jX} {x1 x2 : Value} {v : Value} (hx : x'.2.2 = x.2.2) (w : wV own ix C y cc' nL' ret 2) (hrc : rcv E a C) (ct : Ct l E y cc' nL' ret d' [.ref a, x1, x2] (S, x) (some v) (S', x')) (hd : decode cc pc = .ok (.invokevirtual ix, 3)) (hdd : d' < d ∧ nL' ≤ 13) (hst : (rest.map fun v => v.category).sum ≤ 8) (k : J (S', x') (pc + 3) L (v :: rest)) : J (S, x) pc L (x2 :: x1 :: .ref a :: rest) :=
  r_callV hJ (As := [x1, x2]) w hrc ct hd hdd rfl hst (fun h => by rw [hx]; exact h) k
theorem r_V2ux {l : Launch} {E : jE} {own : String} {cc : ByteArray} {nL d n0 cap : Nat} {J : jT} {pc : Nat} {L : List (Option Value)} {rest : List Value} (hJ : jR l E own cc nL d n0 cap J) {ix nL' d' a : Nat} {C : String} {y : MethodName} {cc' : ByteArray} {ret : Option FieldType} {S S' : jS} {x x' : jX} {x1 x2 : Value} (hx : x'.2.2 = x.2.2) (w : wV own ix C y cc' nL' ret 2) (hrc : rcv E a C) (ct : Ct l E y cc' nL' ret d' [.ref a, x1, x2] (S, x) none (S', x')) (hd : decode cc pc = .ok (.invokevirtual ix, 3)) (hdd : d' < d ∧ nL' ≤ 13) (hst : (rest.map fun v => v.category).sum ≤ 8) (k : J (S', x') (pc + 3) L rest) : J (S, x) pc L (x2 :: x1 :: .ref a :: rest) :=
  r_callV hJ (As := [x1, x2]) w hrc ct hd hdd rfl hst (fun h => by rw [hx]; exact h) k
theorem r_V3vx {l : Launch} {E : jE} {own : String} {cc : ByteArray} {nL d n0 cap : Nat} {J : jT} {pc : Nat} {L : List (Option Value)} {rest : List Value} (hJ : jR l E own cc nL d n0 cap J) {ix nL' d' a : Nat} {C : String} {y : MethodName} {cc' : ByteArray} {ret : Option FieldType} {S S' : jS} {x x' : jX} {x1 x2 x3 : Value} {v : Value} (hx : x'.2.2 = x.2.2) (w : wV own ix C y cc' nL' ret 3) (hrc : rcv E a C) (ct : Ct l E y cc' nL' ret d' [.ref a, x1, x2, x3] (S, x) (some v) (S', x')) (hd : decode cc pc = .ok (.invokevirtual ix, 3)) (hdd : d' < d ∧ nL' ≤ 13) (hst : (rest.map fun v => v.category).sum ≤ 8) (k : J (S', x') (pc + 3) L (v :: rest)) : J (S, x) pc L (x3 :: x2 :: x1 :: .ref a :: rest) :=
  r_callV hJ (As := [x1, x2, x3]) w hrc ct hd hdd rfl hst (fun h => by rw [hx]; exact h) k
theorem r_V3ux {l : Launch} {E : jE} {own : String} {cc : ByteArray} {nL d n0 cap : Nat} {J : jT} {pc : Nat} {L : List (Option Value)} {rest : List Value} (hJ : jR l E own cc nL d n0 cap J) {ix nL' d' a : Nat} {C : String} {y : MethodName} {cc' : ByteArray} {ret : Option FieldType} {S S' : jS} {x x' : jX} {x1 x2 x3 : Value} (hx : x'.2.2 = x.2.2) (w : wV own ix C y cc' nL' ret 3) (hrc : rcv E a C) (ct : Ct l E y cc' nL' ret d' [.ref a, x1, x2, x3] (S, x) none (S', x')) (hd : decode cc pc = .ok (.invokevirtual ix, 3)) (hdd : d' < d ∧ nL' ≤ 13) (hst : (rest.map fun v => v.category).sum ≤ 8) (k : J (S', x') (pc + 3) L rest) : J (S, x) pc L (x3 :: x2 :: x1 :: .ref a :: rest) :=
  r_callV hJ (As := [x1, x2, x3]) w hrc ct hd hdd rfl hst (fun h => by rw [hx]; exact h) k
/-! keep, as a function -/
def kpS (S : jS) (K : Nat → Nat) : jS :=
  if S 9 0 0 = nI 6 then setO (setO S (rotK K 5) (S 0)) 9 (put (put (S 9) 0 0 (S 9 0 0 - nI 1)) 0 0 (put (S 9) 0 0 (S 9 0 0 - nI 1) 0 0 + nI 1))
  else setO (setO S (K (toN (S 9 0 0))) (S 0)) 9 (put (S 9) 0 0 (S 9 0 0 + nI 1))
def kpK (S : jS) (K : Nat → Nat) : Nat → Nat := if S 9 0 0 = nI 6 then rotK K else K
def SI (S : jS) (K : Nat → Nat) : Prop := KI K ∧ ∃ m : Nat, m ≤ 6 ∧ S 9 0 0 = nI m
theorem g3_keep (l : Launch) (E : jE) (S : jS) (K : Nat → Nat) (y : Int64 × Nat) (h : SI S K) : Ct l E yX3_keep cX3_keep 3 none 4 [.ref (ad E 9 0), .ref (ad E 0 0)] (S, (K, y)) none (kpS S K, (kpK S K, y)) := by
  obtain ⟨hK, m, hm, hV⟩ := h
  by_cases h6 : m = 6
  · subst h6
    have h := c3_keep_b l E S K y (S 9) hK hV
    rw [setO_self] at h
    unfold kpS kpK
    rw [if_pos hV, if_pos hV]
    exact h
  · have h := c3_keep_a l E S K y (S 9) hK hV (by omega)
    rw [setO_self] at h
    have hn : ¬ S 9 0 0 = nI 6 := by rw [hV, nI_eq (by omega) (by decide)]; exact h6
    unfold kpS kpK
    rw [if_neg hn, if_neg hn, hV, toN_nI (by omega), ← hV]
    exact h
theorem kpS_ne {S : jS} {K : Nat → Nat} (h : SI S K) {o : Nat} (ho : o < 2 ∨ (8 ≤ o ∧ o ≠ 9)) : kpS S K o = S o := by
  obtain ⟨hK, m, hm, hV⟩ := h
  unfold kpS
  split
  · have := (KI_rot hK).1 5 (by decide)
    rw [setO_ne (by omega), setO_ne (by omega)]
  · rename_i hn
    have h6 : m < 6 := by
      rcases Nat.lt_or_ge m 6 with q | q
      · exact q
      · exact absurd (by rw [hV, show m = 6 by omega]) hn
    have := hK.1 m h6
    rw [setO_ne (by omega), setO_ne (by rw [hV, toN_nI (by omega)]; omega)]
set_option maxRecDepth 100000 in
set_option maxHeartbeats 1000000 in
theorem c4_needHolder (l : Launch) (E : jE) (S : jS) (x : jX) (h : Int32) (h0 : ¬ h < 0) (h8 : h < nI 8) : Ct l E yX4_needHolder cX4_needHolder 1 none 6 [.int h] (S, x) none (S, x) := by
  refine Ct.of (by decide +kernel) (Nat.le_refl _) (Nat.le_of_ble_eq_true rfl) rfl (fun J hJ hF => ?_)
  refine r_iload_n hJ dX4_needHolder_0 rfl jg0 ?_
  refine r_if_lt hJ (tgt := 10) dX4_needHolder_1 (by decide) (fun c1 => ?_) (fun c1 => ?_)
  · exact absurd c1 h0
  · refine r_iload_n hJ dX4_needHolder_4 rfl jg0 ?_
    refine r_bipush hJ (v := nI 8) dX4_needHolder_5 (by decide) ?_
    refine r_icmp_lt hJ (tgt := 18) dX4_needHolder_7 (by decide) (fun c7 => ?_) (fun c7 => ?_)
    · exact ret_v hF dX4_needHolder_18 rfl rfl
    · exact absurd h8 c7

set_option maxRecDepth 100000 in
set_option maxHeartbeats 1000000 in
theorem t4_needHolder (l : Launch) (hst : l.stackTraces = false) (E : jE) (S : jS) (x : jX) (h : Int32) (h0 : h < 0 ∨ ¬ h < nI 8) : CtT l E yX4_needHolder cX4_needHolder 1 none 6 [.int h] (S, x) "java/lang/IndexOutOfBoundsException" (nxt (S, x)) := by
  refine CtT.of hst (by decide +kernel) (Nat.le_of_ble_eq_true rfl) rfl (fun J hJ hF => ?_)
  refine r_iload_n hJ dX4_needHolder_0 rfl jg0 ?_
  refine r_if_lt hJ (tgt := 10) dX4_needHolder_1 (by decide) (fun c1 => ?_) (fun c1 => ?_)
  · exact hF.1 _ _ _ _ _ _ rfl thr_ooo dX4_needHolder_10 dX4_needHolder_13 dX4_needHolder_14 dX4_needHolder_17 (by decide) (Nat.le_of_ble_eq_true rfl)
  · refine r_iload_n hJ dX4_needHolder_4 rfl jg0 ?_
    refine r_bipush hJ (v := nI 8) dX4_needHolder_5 (by decide) ?_
    refine r_icmp_lt hJ (tgt := 18) dX4_needHolder_7 (by decide) (fun c7 => ?_) (fun c7 => ?_)
    · exact absurd c7 (h0.resolve_left c1)
    · exact hF.1 _ _ _ _ _ _ rfl thr_ooo dX4_needHolder_10 dX4_needHolder_13 dX4_needHolder_14 dX4_needHolder_17 (by decide) (Nat.le_of_ble_eq_true rfl)

set_option maxRecDepth 100000 in
set_option maxHeartbeats 1000000 in
theorem c4_needSetting (l : Launch) (E : jE) (S : jS) (x : jX) (h : Int32) (h0 : ¬ h < 0) (h8 : h < nI 4) : Ct l E yX4_needSetting cX4_needSetting 1 none 6 [.int h] (S, x) none (S, x) := by
  refine Ct.of (by decide +kernel) (Nat.le_refl _) (Nat.le_of_ble_eq_true rfl) rfl (fun J hJ hF => ?_)
  refine r_iload_n hJ dX4_needSetting_0 rfl jg0 ?_
  refine r_if_lt hJ (tgt := 9) dX4_needSetting_1 (by decide) (fun c1 => ?_) (fun c1 => ?_)
  · exact absurd c1 h0
  · refine r_iload_n hJ dX4_needSetting_4 rfl jg0 ?_
    refine r_iconst hJ (v := nI 4) dX4_needSetting_5 (by decide) ?_
    refine r_icmp_lt hJ (tgt := 17) dX4_needSetting_6 (by decide) (fun c6 => ?_) (fun c6 => ?_)
    · exact ret_v hF dX4_needSetting_17 rfl rfl
    · exact absurd h8 c6

set_option maxRecDepth 100000 in
set_option maxHeartbeats 1000000 in
theorem t4_needSetting (l : Launch) (hst : l.stackTraces = false) (E : jE) (S : jS) (x : jX) (h : Int32) (h0 : h < 0 ∨ ¬ h < nI 4) : CtT l E yX4_needSetting cX4_needSetting 1 none 6 [.int h] (S, x) "java/lang/IndexOutOfBoundsException" (nxt (S, x)) := by
  refine CtT.of hst (by decide +kernel) (Nat.le_of_ble_eq_true rfl) rfl (fun J hJ hF => ?_)
  refine r_iload_n hJ dX4_needSetting_0 rfl jg0 ?_
  refine r_if_lt hJ (tgt := 9) dX4_needSetting_1 (by decide) (fun c1 => ?_) (fun c1 => ?_)
  · exact hF.1 _ _ _ _ _ _ rfl thr_ooo dX4_needSetting_9 dX4_needSetting_12 dX4_needSetting_13 dX4_needSetting_16 (by decide) (Nat.le_of_ble_eq_true rfl)
  · refine r_iload_n hJ dX4_needSetting_4 rfl jg0 ?_
    refine r_iconst hJ (v := nI 4) dX4_needSetting_5 (by decide) ?_
    refine r_icmp_lt hJ (tgt := 17) dX4_needSetting_6 (by decide) (fun c6 => ?_) (fun c6 => ?_)
    · exact absurd c6 (h0.resolve_left c1)
    · exact hF.1 _ _ _ _ _ _ rfl thr_ooo dX4_needSetting_9 dX4_needSetting_12 dX4_needSetting_13 dX4_needSetting_16 (by decide) (Nat.le_of_ble_eq_true rfl)

set_option maxRecDepth 100000 in
set_option maxHeartbeats 1000000 in
theorem c4_needRange (l : Launch) (E : jE) (S : jS) (x : jX) (v lo hi : Int32) (h0 : ¬ v < lo) (h8 : v ≤ hi) : Ct l E yX4_needRange cX4_needRange 3 none 6 [.int v, .int lo, .int hi] (S, x) none (S, x) := by
  refine Ct.of (by decide +kernel) (Nat.le_refl _) (Nat.le_of_ble_eq_true rfl) rfl (fun J hJ hF => ?_)
  refine r_iload_n hJ dX4_needRange_0 rfl jg0 ?_
  refine r_iload_n hJ dX4_needRange_1 rfl jg1 ?_
  refine r_icmp_lt hJ (tgt := 10) dX4_needRange_2 (by decide) (fun c2 => ?_) (fun c2 => ?_)
  · exact absurd c2 h0
  · refine r_iload_n hJ dX4_needRange_5 rfl jg0 ?_
    refine r_iload_n hJ dX4_needRange_6 rfl jg2 ?_
    refine r_icmp_le hJ (tgt := 18) dX4_needRange_7 (by decide) (fun c7 => ?_) (fun c7 => ?_)
    · exact ret_v hF dX4_needRange_18 rfl rfl
    · exact absurd h8 c7

set_option maxRecDepth 100000 in
set_option maxHeartbeats 1000000 in
theorem t4_needRange (l : Launch) (hst : l.stackTraces = false) (E : jE) (S : jS) (x : jX) (v lo hi : Int32) (h0 : v < lo ∨ ¬ v ≤ hi) : CtT l E yX4_needRange cX4_needRange 3 none 6 [.int v, .int lo, .int hi] (S, x) "java/lang/IllegalArgumentException" (nxt (S, x)) := by
  refine CtT.of hst (by decide +kernel) (Nat.le_of_ble_eq_true rfl) rfl (fun J hJ hF => ?_)
  refine r_iload_n hJ dX4_needRange_0 rfl jg0 ?_
  refine r_iload_n hJ dX4_needRange_1 rfl jg1 ?_
  refine r_icmp_lt hJ (tgt := 10) dX4_needRange_2 (by decide) (fun c2 => ?_) (fun c2 => ?_)
  · exact hF.1 _ _ _ _ _ _ rfl thr_arg dX4_needRange_10 dX4_needRange_13 dX4_needRange_14 dX4_needRange_17 (by decide) (Nat.le_of_ble_eq_true rfl)
  · refine r_iload_n hJ dX4_needRange_5 rfl jg0 ?_
    refine r_iload_n hJ dX4_needRange_6 rfl jg2 ?_
    refine r_icmp_le hJ (tgt := 18) dX4_needRange_7 (by decide) (fun c7 => ?_) (fun c7 => ?_)
    · exact absurd c7 (h0.resolve_left c2)
    · exact hF.1 _ _ _ _ _ _ rfl thr_arg dX4_needRange_10 dX4_needRange_13 dX4_needRange_14 dX4_needRange_17 (by decide) (Nat.le_of_ble_eq_true rfl)

set_option maxRecDepth 100000 in
set_option maxHeartbeats 1000000 in
theorem c4_needState (l : Launch) (E : jE) (S : jS) (x : jX) : Ct l E yX4_needState cX4_needState 1 none 6 [.int (bI true)] (S, x) none (S, x) := by
  refine Ct.of (by decide +kernel) (Nat.le_refl _) (Nat.le_of_ble_eq_true rfl) rfl (fun J hJ hF => ?_)
  refine r_iload_n hJ dX4_needState_0 rfl jg0 ?_
  refine r_if_ne hJ (tgt := 12) dX4_needState_1 (by decide) (fun c1 => ?_) (fun c1 => ?_)
  · exact ret_v hF dX4_needState_12 rfl rfl
  · exact absurd c1 (by decide)

set_option maxRecDepth 100000 in
set_option maxHeartbeats 1000000 in
theorem t4_needState (l : Launch) (hst : l.stackTraces = false) (E : jE) (S : jS) (x : jX) : CtT l E yX4_needState cX4_needState 1 none 6 [.int (bI false)] (S, x) "java/lang/IllegalStateException" (nxt (S, x)) := by
  refine CtT.of hst (by decide +kernel) (Nat.le_of_ble_eq_true rfl) rfl (fun J hJ hF => ?_)
  refine r_iload_n hJ dX4_needState_0 rfl jg0 ?_
  refine r_if_ne hJ (tgt := 12) dX4_needState_1 (by decide) (fun c1 => ?_) (fun c1 => ?_)
  · exact absurd rfl c1
  · exact hF.1 _ _ _ _ _ _ rfl thr_sta dX4_needState_4 dX4_needState_7 dX4_needState_8 dX4_needState_11 (by decide) (Nat.le_of_ble_eq_true rfl)

def okN (S : jS) (n : Int32) : Bool := !decide (n < 0) && !decide (S 0 1 3 ≤ n)
set_option maxRecDepth 100000 in
set_option maxHeartbeats 1000000 in
theorem c4_needNumber (l : Launch) (E : jE) (S : jS) (x : jX) (n : Int32) (h0 : okN S n = true) : Ct l E yX4_needNumber cX4_needNumber 2 none 6 [.ref (ad E 11 0), .int n] (S, x) none (S, x) := by
  refine Ct.of (by decide +kernel) (Nat.le_refl _) (Nat.le_of_ble_eq_true rfl) rfl (fun J hJ hF => ?_)
  refine r_aload_n hJ dX4_needNumber_0 rfl jg0 ?_
  refine r_g4_0 hJ m146 dX4_needNumber_1 ?_
  refine r_iload_n hJ dX4_needNumber_4 rfl jg1 ?_
  refine r_V1v hJ kX4_197 (rcv2 E (by decide)) (g2_hasNumber l E S x (o := 0) (by decide) n) dX4_needNumber_5 ⟨by decide, by decide⟩ (Nat.le_of_ble_eq_true rfl) ?_
  refine r_if_ne hJ (tgt := 19) dX4_needNumber_8 (by decide) (fun c8 => ?_) (fun c8 => ?_)
  · exact ret_v hF dX4_needNumber_19 rfl rfl
  · rw [bI_0] at c8
    exact absurd (c8.symm.trans h0) (by decide)

set_option maxRecDepth 100000 in
set_option maxHeartbeats 1000000 in
theorem t4_needNumber (l : Launch) (hst : l.stackTraces = false) (E : jE) (S : jS) (x : jX) (n : Int32) (h0 : okN S n = false) : CtT l E yX4_needNumber cX4_needNumber 2 none 6 [.ref (ad E 11 0), .int n] (S, x) "java/lang/IndexOutOfBoundsException" (nxt (S, x)) := by
  refine CtT.of hst (by decide +kernel) (Nat.le_of_ble_eq_true rfl) rfl (fun J hJ hF => ?_)
  refine r_aload_n hJ dX4_needNumber_0 rfl jg0 ?_
  refine r_g4_0 hJ m146 dX4_needNumber_1 ?_
  refine r_iload_n hJ dX4_needNumber_4 rfl jg1 ?_
  refine r_V1v hJ kX4_197 (rcv2 E (by decide)) (g2_hasNumber l E S x (o := 0) (by decide) n) dX4_needNumber_5 ⟨by decide, by decide⟩ (Nat.le_of_ble_eq_true rfl) ?_
  refine r_if_ne hJ (tgt := 19) dX4_needNumber_8 (by decide) (fun c8 => ?_) (fun c8 => ?_)
  · rw [bI_0] at c8
    exact absurd h0 c8
  · exact hF.1 _ _ _ _ _ _ rfl thr_ooo dX4_needNumber_11 dX4_needNumber_14 dX4_needNumber_15 dX4_needNumber_18 (by decide) (Nat.le_of_ble_eq_true rfl)
end
section
set_option maxRecDepth 100000 in
set_option maxHeartbeats 1000000 in
theorem c4_leaseLowest (l : Launch) (E : jE) (S : jS) (K : Nat → Nat) (y : Int64 × Nat) {h : Nat} (hh : h < 8) {m : Nat} (hm1 : 1 ≤ m) (hm64 : m ≤ 64) {t : Int32} (ht1 : ¬ t < nI 1) (ht2 : t ≤ nI 999) {z : Nat} (hz : S 0 1 3 = nI z) (hz4 : z ≤ 64) (hSI : SI S K) (hml : (hasR (S 0) (nI h) (nI m) && (lowR (S 0) z (nI m)).isSome) = true) : Ct l E yX4_leaseLowest cX4_leaseLowest 4 (some .int) 7 [.ref (ad E 11 0), .int (nI h), .int (nI m), .int t] (S, (K, y)) (some (.int (oI (lowR (S 0) z (nI m))))) (setO (kpS S K) 0 (leaseRowP (S 0) z h m t), (kpK S K, y)) := by
  have e0 : kpS S K 0 = S 0 := kpS_ne hSI (by omega)
  refine Ct.of (by decide +kernel) (Nat.le_refl _) (Nat.le_of_ble_eq_true rfl) rfl (fun J hJ hF => ?_)
  refine r_iload_n hJ dX4_leaseLowest_0 rfl jg1 ?_
  refine r_S1u hJ kX4_37 (c4_needHolder l E S (K, y) (nI h) (nI_pos (by omega)) (nI_lt (by omega) (by decide))) dX4_leaseLowest_1 ⟨by decide, by decide⟩ (Nat.le_of_ble_eq_true rfl) ?_
  refine r_iload_n hJ dX4_leaseLowest_4 rfl jg2 ?_
  refine r_iconst hJ (v := nI 1) dX4_leaseLowest_5 (by decide) ?_
  refine r_bipush hJ (v := nI 64) dX4_leaseLowest_6 (by decide) ?_
  refine r_S3u hJ kX4_44 (c4_needRange l E S (K, y) (nI m) (nI 1) (nI 64) (nI_nlt (by omega) (by omega)) (nI_le (by omega) (by omega))) dX4_leaseLowest_8 ⟨by decide, by decide⟩ (Nat.le_of_ble_eq_true rfl) ?_
  refine r_iload_n hJ dX4_leaseLowest_11 rfl jg3 ?_
  refine r_iconst hJ (v := nI 1) dX4_leaseLowest_12 (by decide) ?_
  refine r_sipush hJ (v := nI 999) dX4_leaseLowest_13 (by decide) ?_
  refine r_S3u hJ kX4_44 (c4_needRange l E S (K, y) (t) (nI 1) (nI 999) ht1 ht2) dX4_leaseLowest_16 ⟨by decide, by decide⟩ (Nat.le_of_ble_eq_true rfl) ?_
  refine r_aload_n hJ dX4_leaseLowest_19 rfl jg0 ?_
  refine r_g4_0 hJ m146 dX4_leaseLowest_20 ?_
  refine r_iload_n hJ dX4_leaseLowest_23 rfl jg1 ?_
  refine r_iload_n hJ dX4_leaseLowest_24 rfl jg2 ?_
  refine r_V2v hJ kX4_203 (rcv2 E (by decide)) (g2_mayLease l E S (K, y) (o := 0) (by decide) hz hz4 (nI h) (nI m)) dX4_leaseLowest_25 ⟨by decide, by decide⟩ (Nat.le_of_ble_eq_true rfl) ?_
  rw [hml]
  refine r_S1u hJ kX4_52 (c4_needState l E S (K, y)) dX4_leaseLowest_28 ⟨by decide, by decide⟩ (Nat.le_of_ble_eq_true rfl) ?_
  refine r_aload_n hJ dX4_leaseLowest_31 rfl jg0 ?_
  refine r_g4_2 hJ m148 dX4_leaseLowest_32 ?_
  refine r_aload_n hJ dX4_leaseLowest_35 rfl jg0 ?_
  refine r_g4_0 hJ m146 dX4_leaseLowest_36 ?_
  refine r_V1ux hJ (x' := (kpK S K, y)) rfl kX4_56 (rcv3 E) (g3_keep l E S K y hSI) dX4_leaseLowest_39 ⟨by decide, by decide⟩ (Nat.le_of_ble_eq_true rfl) ?_
  refine r_aload_n hJ dX4_leaseLowest_42 rfl jg0 ?_
  refine r_g4_0 hJ m146 dX4_leaseLowest_43 ?_
  refine r_iload_n hJ dX4_leaseLowest_46 rfl jg1 ?_
  refine r_iload_n hJ dX4_leaseLowest_47 rfl jg2 ?_
  refine r_iload_n hJ dX4_leaseLowest_48 rfl jg3 ?_
  have hl := g2_leaseRow l E (kpS S K) (kpK S K, y) (o := 0) (by decide) (by rw [e0]; exact hz) hz4 hh (m := m) (by omega) t
  rw [e0] at hl
  refine r_V3v hJ kX4_206 (rcv2 E (by decide)) (hl) dX4_leaseLowest_49 ⟨by decide, by decide⟩ (Nat.le_of_ble_eq_true rfl) ?_
  exact ret_i hF dX4_leaseLowest_52 rfl rfl

set_option maxRecDepth 100000 in
set_option maxHeartbeats 1000000 in
theorem t4_leaseLowest_h (l : Launch) (hst : l.stackTraces = false) (E : jE) (S : jS) (K : Nat → Nat) (y : Int64 × Nat) {h m t : Int32} (h0 : h < 0 ∨ ¬ h < nI 8) : CtT l E yX4_leaseLowest cX4_leaseLowest 4 (some .int) 7 [.ref (ad E 11 0), .int h, .int m, .int t] (S, (K, y)) "java/lang/IndexOutOfBoundsException" (nxt (S, (K, y))) := by
  refine CtT.of hst (by decide +kernel) (Nat.le_of_ble_eq_true rfl) rfl (fun J hJ hF => ?_)
  refine r_iload_n hJ dX4_leaseLowest_0 rfl jg1 ?_
  exact thrS1 hF kX4_37 (t4_needHolder l hst E S (K, y) h h0) dX4_leaseLowest_1 ⟨by decide, by decide⟩ (Nat.le_of_ble_eq_true rfl)

set_option maxRecDepth 100000 in
set_option maxHeartbeats 1000000 in
theorem t4_leaseLowest_m (l : Launch) (hst : l.stackTraces = false) (E : jE) (S : jS) (K : Nat → Nat) (y : Int64 × Nat) {h : Nat} (hh : h < 8) {m t : Int32} (h0 : m < nI 1 ∨ ¬ m ≤ nI 64) : CtT l E yX4_leaseLowest cX4_leaseLowest 4 (some .int) 7 [.ref (ad E 11 0), .int (nI h), .int m, .int t] (S, (K, y)) "java/lang/IllegalArgumentException" (nxt (S, (K, y))) := by
  refine CtT.of hst (by decide +kernel) (Nat.le_of_ble_eq_true rfl) rfl (fun J hJ hF => ?_)
  refine r_iload_n hJ dX4_leaseLowest_0 rfl jg1 ?_
  refine r_S1u hJ kX4_37 (c4_needHolder l E S (K, y) (nI h) (nI_pos (by omega)) (nI_lt (by omega) (by decide))) dX4_leaseLowest_1 ⟨by decide, by decide⟩ (Nat.le_of_ble_eq_true rfl) ?_
  refine r_iload_n hJ dX4_leaseLowest_4 rfl jg2 ?_
  refine r_iconst hJ (v := nI 1) dX4_leaseLowest_5 (by decide) ?_
  refine r_bipush hJ (v := nI 64) dX4_leaseLowest_6 (by decide) ?_
  exact thrS3 hF kX4_44 (t4_needRange l hst E S (K, y) m (nI 1) (nI 64) h0) dX4_leaseLowest_8 ⟨by decide, by decide⟩ (Nat.le_of_ble_eq_true rfl)

set_option maxRecDepth 100000 in
set_option maxHeartbeats 1000000 in
theorem t4_leaseLowest_t (l : Launch) (hst : l.stackTraces = false) (E : jE) (S : jS) (K : Nat → Nat) (y : Int64 × Nat) {h : Nat} (hh : h < 8) {m : Nat} (hm1 : 1 ≤ m) (hm64 : m ≤ 64) {t : Int32} (h0 : t < nI 1 ∨ ¬ t ≤ nI 999) : CtT l E yX4_leaseLowest cX4_leaseLowest 4 (some .int) 7 [.ref (ad E 11 0), .int (nI h), .int (nI m), .int t] (S, (K, y)) "java/lang/IllegalArgumentException" (nxt (S, (K, y))) := by
  refine CtT.of hst (by decide +kernel) (Nat.le_of_ble_eq_true rfl) rfl (fun J hJ hF => ?_)
  refine r_iload_n hJ dX4_leaseLowest_0 rfl jg1 ?_
  refine r_S1u hJ kX4_37 (c4_needHolder l E S (K, y) (nI h) (nI_pos (by omega)) (nI_lt (by omega) (by decide))) dX4_leaseLowest_1 ⟨by decide, by decide⟩ (Nat.le_of_ble_eq_true rfl) ?_
  refine r_iload_n hJ dX4_leaseLowest_4 rfl jg2 ?_
  refine r_iconst hJ (v := nI 1) dX4_leaseLowest_5 (by decide) ?_
  refine r_bipush hJ (v := nI 64) dX4_leaseLowest_6 (by decide) ?_
  refine r_S3u hJ kX4_44 (c4_needRange l E S (K, y) (nI m) (nI 1) (nI 64) (nI_nlt (by omega) (by omega)) (nI_le (by omega) (by omega))) dX4_leaseLowest_8 ⟨by decide, by decide⟩ (Nat.le_of_ble_eq_true rfl) ?_
  refine r_iload_n hJ dX4_leaseLowest_11 rfl jg3 ?_
  refine r_iconst hJ (v := nI 1) dX4_leaseLowest_12 (by decide) ?_
  refine r_sipush hJ (v := nI 999) dX4_leaseLowest_13 (by decide) ?_
  exact thrS3 hF kX4_44 (t4_needRange l hst E S (K, y) t (nI 1) (nI 999) h0) dX4_leaseLowest_16 ⟨by decide, by decide⟩ (Nat.le_of_ble_eq_true rfl)

set_option maxRecDepth 100000 in
set_option maxHeartbeats 1000000 in
theorem t4_leaseLowest_s (l : Launch) (hst : l.stackTraces = false) (E : jE) (S : jS) (K : Nat → Nat) (y : Int64 × Nat) {h : Nat} (hh : h < 8) {m : Nat} (hm1 : 1 ≤ m) (hm64 : m ≤ 64) {t : Int32} (ht1 : ¬ t < nI 1) (ht2 : t ≤ nI 999) {z : Nat} (hz : S 0 1 3 = nI z) (hz4 : z ≤ 64) (hml : (hasR (S 0) (nI h) (nI m) && (lowR (S 0) z (nI m)).isSome) = false) : CtT l E yX4_leaseLowest cX4_leaseLowest 4 (some .int) 7 [.ref (ad E 11 0), .int (nI h), .int (nI m), .int t] (S, (K, y)) "java/lang/IllegalStateException" (nxt (S, (K, y))) := by
  refine CtT.of hst (by decide +kernel) (Nat.le_of_ble_eq_true rfl) rfl (fun J hJ hF => ?_)
  refine r_iload_n hJ dX4_leaseLowest_0 rfl jg1 ?_
  refine r_S1u hJ kX4_37 (c4_needHolder l E S (K, y) (nI h) (nI_pos (by omega)) (nI_lt (by omega) (by decide))) dX4_leaseLowest_1 ⟨by decide, by decide⟩ (Nat.le_of_ble_eq_true rfl) ?_
  refine r_iload_n hJ dX4_leaseLowest_4 rfl jg2 ?_
  refine r_iconst hJ (v := nI 1) dX4_leaseLowest_5 (by decide) ?_
  refine r_bipush hJ (v := nI 64) dX4_leaseLowest_6 (by decide) ?_
  refine r_S3u hJ kX4_44 (c4_needRange l E S (K, y) (nI m) (nI 1) (nI 64) (nI_nlt (by omega) (by omega)) (nI_le (by omega) (by omega))) dX4_leaseLowest_8 ⟨by decide, by decide⟩ (Nat.le_of_ble_eq_true rfl) ?_
  refine r_iload_n hJ dX4_leaseLowest_11 rfl jg3 ?_
  refine r_iconst hJ (v := nI 1) dX4_leaseLowest_12 (by decide) ?_
  refine r_sipush hJ (v := nI 999) dX4_leaseLowest_13 (by decide) ?_
  refine r_S3u hJ kX4_44 (c4_needRange l E S (K, y) (t) (nI 1) (nI 999) ht1 ht2) dX4_leaseLowest_16 ⟨by decide, by decide⟩ (Nat.le_of_ble_eq_true rfl) ?_
  refine r_aload_n hJ dX4_leaseLowest_19 rfl jg0 ?_
  refine r_g4_0 hJ m146 dX4_leaseLowest_20 ?_
  refine r_iload_n hJ dX4_leaseLowest_23 rfl jg1 ?_
  refine r_iload_n hJ dX4_leaseLowest_24 rfl jg2 ?_
  refine r_V2v hJ kX4_203 (rcv2 E (by decide)) (g2_mayLease l E S (K, y) (o := 0) (by decide) hz hz4 (nI h) (nI m)) dX4_leaseLowest_25 ⟨by decide, by decide⟩ (Nat.le_of_ble_eq_true rfl) ?_
  rw [hml]
  exact thrS1 hF kX4_52 (t4_needState l hst E S (K, y)) dX4_leaseLowest_28 ⟨by decide, by decide⟩ (Nat.le_of_ble_eq_true rfl)

set_option maxRecDepth 100000 in
set_option maxHeartbeats 1000000 in
theorem c4_take (l : Launch) (E : jE) (S : jS) (K : Nat → Nat) (y : Int64 × Nat) {h : Nat} (hh : h < 8) {t : Int32} (ht1 : ¬ t < nI 1) (ht2 : t ≤ nI 999) {z : Nat} (hz : S 0 1 3 = nI z) (hz4 : z ≤ 64) (hSI : SI S K) (hml : (hasR (S 0) (nI h) (nI 1) && (lowR (S 0) z (nI 1)).isSome) = true) : Ct l E yX4_take cX4_take 3 (some .int) 8 [.ref (ad E 11 0), .int (nI h), .int t] (S, (K, y)) (some (.int (oI (lowR (S 0) z (nI 1))))) (setO (kpS S K) 0 (leaseRowP (S 0) z h 1 t), (kpK S K, y)) := by
  refine Ct.of (by decide +kernel) (Nat.le_refl _) (Nat.le_of_ble_eq_true rfl) rfl (fun J hJ hF => ?_)
  refine r_aload_n hJ dX4_take_0 rfl jg0 ?_
  refine r_iload_n hJ dX4_take_1 rfl jg1 ?_
  refine r_iconst hJ (v := nI 1) dX4_take_2 (by decide) ?_
  refine r_iload_n hJ dX4_take_3 rfl jg2 ?_
  refine r_V3vx hJ (x' := (kpK S K, y)) rfl kX4_33 (rcv4 E) (c4_leaseLowest l E S K y hh (m := 1) (by decide) (by decide) ht1 ht2 hz hz4 hSI hml) dX4_take_4 ⟨by decide, by decide⟩ (Nat.le_of_ble_eq_true rfl) ?_
  exact ret_i hF dX4_take_7 rfl rfl

set_option maxRecDepth 100000 in
set_option maxHeartbeats 1000000 in
theorem t4_take_h (l : Launch) (hst : l.stackTraces = false) (E : jE) (S : jS) (K : Nat → Nat) (y : Int64 × Nat) {h  t : Int32} (h0 : h < 0 ∨ ¬ h < nI 8) : CtT l E yX4_take cX4_take 3 (some .int) 8 [.ref (ad E 11 0), .int h, .int t] (S, (K, y)) "java/lang/IndexOutOfBoundsException" (nxt (S, (K, y))) := by
  refine CtT.of hst (by decide +kernel) (Nat.le_of_ble_eq_true rfl) rfl (fun J hJ hF => ?_)
  refine r_aload_n hJ dX4_take_0 rfl jg0 ?_
  refine r_iload_n hJ dX4_take_1 rfl jg1 ?_
  refine r_iconst hJ (v := nI 1) dX4_take_2 (by decide) ?_
  refine r_iload_n hJ dX4_take_3 rfl jg2 ?_
  exact thrV3 hF kX4_33 (rcv4 E) (t4_leaseLowest_h l hst E S K y h0) dX4_take_4 ⟨by decide, by decide⟩ (Nat.le_of_ble_eq_true rfl)

set_option maxRecDepth 100000 in
set_option maxHeartbeats 1000000 in
theorem t4_take_t (l : Launch) (hst : l.stackTraces = false) (E : jE) (S : jS) (K : Nat → Nat) (y : Int64 × Nat) {h : Nat} (hh : h < 8) {t : Int32} (h0 : t < nI 1 ∨ ¬ t ≤ nI 999) : CtT l E yX4_take cX4_take 3 (some .int) 8 [.ref (ad E 11 0), .int (nI h), .int t] (S, (K, y)) "java/lang/IllegalArgumentException" (nxt (S, (K, y))) := by
  refine CtT.of hst (by decide +kernel) (Nat.le_of_ble_eq_true rfl) rfl (fun J hJ hF => ?_)
  refine r_aload_n hJ dX4_take_0 rfl jg0 ?_
  refine r_iload_n hJ dX4_take_1 rfl jg1 ?_
  refine r_iconst hJ (v := nI 1) dX4_take_2 (by decide) ?_
  refine r_iload_n hJ dX4_take_3 rfl jg2 ?_
  exact thrV3 hF kX4_33 (rcv4 E) (t4_leaseLowest_t l hst E S K y hh (m := 1) (by decide) (by decide) h0) dX4_take_4 ⟨by decide, by decide⟩ (Nat.le_of_ble_eq_true rfl)

set_option maxRecDepth 100000 in
set_option maxHeartbeats 1000000 in
theorem t4_take_s (l : Launch) (hst : l.stackTraces = false) (E : jE) (S : jS) (K : Nat → Nat) (y : Int64 × Nat) {h : Nat} (hh : h < 8) {t : Int32} (ht1 : ¬ t < nI 1) (ht2 : t ≤ nI 999) {z : Nat} (hz : S 0 1 3 = nI z) (hz4 : z ≤ 64) (hml : (hasR (S 0) (nI h) (nI 1) && (lowR (S 0) z (nI 1)).isSome) = false) : CtT l E yX4_take cX4_take 3 (some .int) 8 [.ref (ad E 11 0), .int (nI h), .int t] (S, (K, y)) "java/lang/IllegalStateException" (nxt (S, (K, y))) := by
  refine CtT.of hst (by decide +kernel) (Nat.le_of_ble_eq_true rfl) rfl (fun J hJ hF => ?_)
  refine r_aload_n hJ dX4_take_0 rfl jg0 ?_
  refine r_iload_n hJ dX4_take_1 rfl jg1 ?_
  refine r_iconst hJ (v := nI 1) dX4_take_2 (by decide) ?_
  refine r_iload_n hJ dX4_take_3 rfl jg2 ?_
  exact thrV3 hF kX4_33 (rcv4 E) (t4_leaseLowest_s l hst E S K y hh (m := 1) (by decide) (by decide) ht1 ht2 hz hz4 hml) dX4_take_4 ⟨by decide, by decide⟩ (Nat.le_of_ble_eq_true rfl)

set_option maxRecDepth 100000 in
set_option maxHeartbeats 1000000 in
theorem c4_takeSpan (l : Launch) (E : jE) (S : jS) (K : Nat → Nat) (y : Int64 × Nat) {h : Nat} (hh : h < 8) {m : Nat} (hm1 : 1 ≤ m) (hm64 : m ≤ 64) {t : Int32} (ht1 : ¬ t < nI 1) (ht2 : t ≤ nI 999) {z : Nat} (hz : S 0 1 3 = nI z) (hz4 : z ≤ 64) (hSI : SI S K) (hml : (hasR (S 0) (nI h) (nI m) && (lowR (S 0) z (nI m)).isSome) = true) : Ct l E yX4_takeSpan cX4_takeSpan 4 (some .int) 8 [.ref (ad E 11 0), .int (nI h), .int (nI m), .int t] (S, (K, y)) (some (.int (oI (lowR (S 0) z (nI m))))) (setO (kpS S K) 0 (leaseRowP (S 0) z h m t), (kpK S K, y)) := by
  refine Ct.of (by decide +kernel) (Nat.le_refl _) (Nat.le_of_ble_eq_true rfl) rfl (fun J hJ hF => ?_)
  refine r_aload_n hJ dX4_takeSpan_0 rfl jg0 ?_
  refine r_iload_n hJ dX4_takeSpan_1 rfl jg1 ?_
  refine r_iload_n hJ dX4_takeSpan_2 rfl jg2 ?_
  refine r_iload_n hJ dX4_takeSpan_3 rfl jg3 ?_
  refine r_V3vx hJ (x' := (kpK S K, y)) rfl kX4_33 (rcv4 E) (c4_leaseLowest l E S K y hh (m := m) hm1 hm64 ht1 ht2 hz hz4 hSI hml) dX4_takeSpan_4 ⟨by decide, by decide⟩ (Nat.le_of_ble_eq_true rfl) ?_
  exact ret_i hF dX4_takeSpan_7 rfl rfl

set_option maxRecDepth 100000 in
set_option maxHeartbeats 1000000 in
theorem t4_takeSpan_h (l : Launch) (hst : l.stackTraces = false) (E : jE) (S : jS) (K : Nat → Nat) (y : Int64 × Nat) {h m t : Int32} (h0 : h < 0 ∨ ¬ h < nI 8) : CtT l E yX4_takeSpan cX4_takeSpan 4 (some .int) 8 [.ref (ad E 11 0), .int h, .int m, .int t] (S, (K, y)) "java/lang/IndexOutOfBoundsException" (nxt (S, (K, y))) := by
  refine CtT.of hst (by decide +kernel) (Nat.le_of_ble_eq_true rfl) rfl (fun J hJ hF => ?_)
  refine r_aload_n hJ dX4_takeSpan_0 rfl jg0 ?_
  refine r_iload_n hJ dX4_takeSpan_1 rfl jg1 ?_
  refine r_iload_n hJ dX4_takeSpan_2 rfl jg2 ?_
  refine r_iload_n hJ dX4_takeSpan_3 rfl jg3 ?_
  exact thrV3 hF kX4_33 (rcv4 E) (t4_leaseLowest_h l hst E S K y h0) dX4_takeSpan_4 ⟨by decide, by decide⟩ (Nat.le_of_ble_eq_true rfl)

set_option maxRecDepth 100000 in
set_option maxHeartbeats 1000000 in
theorem t4_takeSpan_t (l : Launch) (hst : l.stackTraces = false) (E : jE) (S : jS) (K : Nat → Nat) (y : Int64 × Nat) {h : Nat} (hh : h < 8) {m : Nat} (hm1 : 1 ≤ m) (hm64 : m ≤ 64) {t : Int32} (h0 : t < nI 1 ∨ ¬ t ≤ nI 999) : CtT l E yX4_takeSpan cX4_takeSpan 4 (some .int) 8 [.ref (ad E 11 0), .int (nI h), .int (nI m), .int t] (S, (K, y)) "java/lang/IllegalArgumentException" (nxt (S, (K, y))) := by
  refine CtT.of hst (by decide +kernel) (Nat.le_of_ble_eq_true rfl) rfl (fun J hJ hF => ?_)
  refine r_aload_n hJ dX4_takeSpan_0 rfl jg0 ?_
  refine r_iload_n hJ dX4_takeSpan_1 rfl jg1 ?_
  refine r_iload_n hJ dX4_takeSpan_2 rfl jg2 ?_
  refine r_iload_n hJ dX4_takeSpan_3 rfl jg3 ?_
  exact thrV3 hF kX4_33 (rcv4 E) (t4_leaseLowest_t l hst E S K y hh (m := m) hm1 hm64 h0) dX4_takeSpan_4 ⟨by decide, by decide⟩ (Nat.le_of_ble_eq_true rfl)

set_option maxRecDepth 100000 in
set_option maxHeartbeats 1000000 in
theorem t4_takeSpan_s (l : Launch) (hst : l.stackTraces = false) (E : jE) (S : jS) (K : Nat → Nat) (y : Int64 × Nat) {h : Nat} (hh : h < 8) {m : Nat} (hm1 : 1 ≤ m) (hm64 : m ≤ 64) {t : Int32} (ht1 : ¬ t < nI 1) (ht2 : t ≤ nI 999) {z : Nat} (hz : S 0 1 3 = nI z) (hz4 : z ≤ 64) (hml : (hasR (S 0) (nI h) (nI m) && (lowR (S 0) z (nI m)).isSome) = false) : CtT l E yX4_takeSpan cX4_takeSpan 4 (some .int) 8 [.ref (ad E 11 0), .int (nI h), .int (nI m), .int t] (S, (K, y)) "java/lang/IllegalStateException" (nxt (S, (K, y))) := by
  refine CtT.of hst (by decide +kernel) (Nat.le_of_ble_eq_true rfl) rfl (fun J hJ hF => ?_)
  refine r_aload_n hJ dX4_takeSpan_0 rfl jg0 ?_
  refine r_iload_n hJ dX4_takeSpan_1 rfl jg1 ?_
  refine r_iload_n hJ dX4_takeSpan_2 rfl jg2 ?_
  refine r_iload_n hJ dX4_takeSpan_3 rfl jg3 ?_
  exact thrV3 hF kX4_33 (rcv4 E) (t4_leaseLowest_s l hst E S K y hh (m := m) hm1 hm64 ht1 ht2 hz hz4 hml) dX4_takeSpan_4 ⟨by decide, by decide⟩ (Nat.le_of_ble_eq_true rfl)

set_option maxRecDepth 100000 in
set_option maxHeartbeats 1000000 in
theorem t4_takeSpan_m (l : Launch) (hst : l.stackTraces = false) (E : jE) (S : jS) (K : Nat → Nat) (y : Int64 × Nat) {h : Nat} (hh : h < 8) {m t : Int32} (h0 : m < nI 1 ∨ ¬ m ≤ nI 64) : CtT l E yX4_takeSpan cX4_takeSpan 4 (some .int) 8 [.ref (ad E 11 0), .int (nI h), .int m, .int t] (S, (K, y)) "java/lang/IllegalArgumentException" (nxt (S, (K, y))) := by
  refine CtT.of hst (by decide +kernel) (Nat.le_of_ble_eq_true rfl) rfl (fun J hJ hF => ?_)
  refine r_aload_n hJ dX4_takeSpan_0 rfl jg0 ?_
  refine r_iload_n hJ dX4_takeSpan_1 rfl jg1 ?_
  refine r_iload_n hJ dX4_takeSpan_2 rfl jg2 ?_
  refine r_iload_n hJ dX4_takeSpan_3 rfl jg3 ?_
  exact thrV3 hF kX4_33 (rcv4 E) (t4_leaseLowest_m l hst E S K y hh h0) dX4_takeSpan_4 ⟨by decide, by decide⟩ (Nat.le_of_ble_eq_true rfl)

set_option maxRecDepth 100000 in
set_option maxHeartbeats 1000000 in
theorem c4_wish (l : Launch) (E : jE) (S : jS) (K : Nat → Nat) (y : Int64 × Nat) {h : Nat} (hh : h < 8) {n : Nat} (hn : n < 64) (hok : okN S (nI n) = true) {t : Int32} (ht1 : ¬ t < nI 1) (ht2 : t ≤ nI 999) {w : Nat} (hw3 : w ≤ 3) (hw : S 0 7 n = nI w) (hSI : SI S K) (hml : mayW (S 0) (nI h) n = true) : Ct l E yX4_wish cX4_wish 4 (some .int) 7 [.ref (ad E 11 0), .int (nI h), .int (nI n), .int t] (S, (K, y)) (some (.int (if S 0 2 n = -1 then nI 0 else addW (S 0) h n t 7 n))) (setO (kpS S K) 0 (addW (S 0) h n t), (kpK S K, y)) := by
  have e0 : kpS S K 0 = S 0 := kpS_ne hSI (by omega)
  refine Ct.of (by decide +kernel) (Nat.le_refl _) (Nat.le_of_ble_eq_true rfl) rfl (fun J hJ hF => ?_)
  refine r_iload_n hJ dX4_wish_0 rfl jg1 ?_
  refine r_S1u hJ kX4_37 (c4_needHolder l E S (K, y) (nI h) (nI_pos (by omega)) (nI_lt (by omega) (by decide))) dX4_wish_1 ⟨by decide, by decide⟩ (Nat.le_of_ble_eq_true rfl) ?_
  refine r_aload_n hJ dX4_wish_4 rfl jg0 ?_
  refine r_iload_n hJ dX4_wish_5 rfl jg2 ?_
  refine r_V1u hJ kX4_41 (rcv4 E) (c4_needNumber l E S (K, y) (nI n) hok) dX4_wish_6 ⟨by decide, by decide⟩ (Nat.le_of_ble_eq_true rfl) ?_
  refine r_iload_n hJ dX4_wish_9 rfl jg3 ?_
  refine r_iconst hJ (v := nI 1) dX4_wish_10 (by decide) ?_
  refine r_sipush hJ (v := nI 999) dX4_wish_11 (by decide) ?_
  refine r_S3u hJ kX4_44 (c4_needRange l E S (K, y) (t) (nI 1) (nI 999) ht1 ht2) dX4_wish_14 ⟨by decide, by decide⟩ (Nat.le_of_ble_eq_true rfl) ?_
  refine r_aload_n hJ dX4_wish_17 rfl jg0 ?_
  refine r_g4_0 hJ m146 dX4_wish_18 ?_
  refine r_iload_n hJ dX4_wish_21 rfl jg1 ?_
  refine r_iload_n hJ dX4_wish_22 rfl jg2 ?_
  refine r_V2v hJ kX4_48 (rcv2 E (by decide)) (g2_mayWish l E S (K, y) (o := 0) (by decide) (nI h) hn hw3 hw) dX4_wish_23 ⟨by decide, by decide⟩ (Nat.le_of_ble_eq_true rfl) ?_
  rw [hml]
  refine r_S1u hJ kX4_52 (c4_needState l E S (K, y)) dX4_wish_26 ⟨by decide, by decide⟩ (Nat.le_of_ble_eq_true rfl) ?_
  refine r_aload_n hJ dX4_wish_29 rfl jg0 ?_
  refine r_g4_2 hJ m148 dX4_wish_30 ?_
  refine r_aload_n hJ dX4_wish_33 rfl jg0 ?_
  refine r_g4_0 hJ m146 dX4_wish_34 ?_
  refine r_V1ux hJ (x' := (kpK S K, y)) rfl kX4_56 (rcv3 E) (g3_keep l E S K y hSI) dX4_wish_37 ⟨by decide, by decide⟩ (Nat.le_of_ble_eq_true rfl) ?_
  refine r_aload_n hJ dX4_wish_40 rfl jg0 ?_
  refine r_g4_0 hJ m146 dX4_wish_41 ?_
  refine r_iload_n hJ dX4_wish_44 rfl jg1 ?_
  refine r_iload_n hJ dX4_wish_45 rfl jg2 ?_
  refine r_iload_n hJ dX4_wish_46 rfl jg3 ?_
  have hl := g2_addWish l E (kpS S K) (kpK S K, y) (o := 0) (by decide) hh hn t hw3 (by rw [e0]; exact hw)
  rw [e0] at hl
  refine r_V3v hJ kX4_60 (rcv2 E (by decide)) (hl) dX4_wish_47 ⟨by decide, by decide⟩ (Nat.le_of_ble_eq_true rfl) ?_
  exact ret_i hF dX4_wish_50 rfl rfl

set_option maxRecDepth 100000 in
set_option maxHeartbeats 1000000 in
theorem t4_wish_h (l : Launch) (hst : l.stackTraces = false) (E : jE) (S : jS) (K : Nat → Nat) (y : Int64 × Nat) {h n t : Int32} (h0 : h < 0 ∨ ¬ h < nI 8) : CtT l E yX4_wish cX4_wish 4 (some .int) 7 [.ref (ad E 11 0), .int h, .int n, .int t] (S, (K, y)) "java/lang/IndexOutOfBoundsException" (nxt (S, (K, y))) := by
  refine CtT.of hst (by decide +kernel) (Nat.le_of_ble_eq_true rfl) rfl (fun J hJ hF => ?_)
  refine r_iload_n hJ dX4_wish_0 rfl jg1 ?_
  exact thrS1 hF kX4_37 (t4_needHolder l hst E S (K, y) h h0) dX4_wish_1 ⟨by decide, by decide⟩ (Nat.le_of_ble_eq_true rfl)

set_option maxRecDepth 100000 in
set_option maxHeartbeats 1000000 in
theorem t4_wish_n (l : Launch) (hst : l.stackTraces = false) (E : jE) (S : jS) (K : Nat → Nat) (y : Int64 × Nat) {h : Nat} (hh : h < 8) {n t : Int32} (h0 : okN S n = false) : CtT l E yX4_wish cX4_wish 4 (some .int) 7 [.ref (ad E 11 0), .int (nI h), .int n, .int t] (S, (K, y)) "java/lang/IndexOutOfBoundsException" (nxt (S, (K, y))) := by
  refine CtT.of hst (by decide +kernel) (Nat.le_of_ble_eq_true rfl) rfl (fun J hJ hF => ?_)
  refine r_iload_n hJ dX4_wish_0 rfl jg1 ?_
  refine r_S1u hJ kX4_37 (c4_needHolder l E S (K, y) (nI h) (nI_pos (by omega)) (nI_lt (by omega) (by decide))) dX4_wish_1 ⟨by decide, by decide⟩ (Nat.le_of_ble_eq_true rfl) ?_
  refine r_aload_n hJ dX4_wish_4 rfl jg0 ?_
  refine r_iload_n hJ dX4_wish_5 rfl jg2 ?_
  exact thrV1 hF kX4_41 (rcv4 E) (t4_needNumber l hst E S (K, y) n h0) dX4_wish_6 ⟨by decide, by decide⟩ (Nat.le_of_ble_eq_true rfl)

set_option maxRecDepth 100000 in
set_option maxHeartbeats 1000000 in
theorem t4_wish_t (l : Launch) (hst : l.stackTraces = false) (E : jE) (S : jS) (K : Nat → Nat) (y : Int64 × Nat) {h : Nat} (hh : h < 8) {n : Nat} (hn : n < 64) (hok : okN S (nI n) = true) {t : Int32} (h0 : t < nI 1 ∨ ¬ t ≤ nI 999) : CtT l E yX4_wish cX4_wish 4 (some .int) 7 [.ref (ad E 11 0), .int (nI h), .int (nI n), .int t] (S, (K, y)) "java/lang/IllegalArgumentException" (nxt (S, (K, y))) := by
  refine CtT.of hst (by decide +kernel) (Nat.le_of_ble_eq_true rfl) rfl (fun J hJ hF => ?_)
  refine r_iload_n hJ dX4_wish_0 rfl jg1 ?_
  refine r_S1u hJ kX4_37 (c4_needHolder l E S (K, y) (nI h) (nI_pos (by omega)) (nI_lt (by omega) (by decide))) dX4_wish_1 ⟨by decide, by decide⟩ (Nat.le_of_ble_eq_true rfl) ?_
  refine r_aload_n hJ dX4_wish_4 rfl jg0 ?_
  refine r_iload_n hJ dX4_wish_5 rfl jg2 ?_
  refine r_V1u hJ kX4_41 (rcv4 E) (c4_needNumber l E S (K, y) (nI n) hok) dX4_wish_6 ⟨by decide, by decide⟩ (Nat.le_of_ble_eq_true rfl) ?_
  refine r_iload_n hJ dX4_wish_9 rfl jg3 ?_
  refine r_iconst hJ (v := nI 1) dX4_wish_10 (by decide) ?_
  refine r_sipush hJ (v := nI 999) dX4_wish_11 (by decide) ?_
  exact thrS3 hF kX4_44 (t4_needRange l hst E S (K, y) t (nI 1) (nI 999) h0) dX4_wish_14 ⟨by decide, by decide⟩ (Nat.le_of_ble_eq_true rfl)

set_option maxRecDepth 100000 in
set_option maxHeartbeats 1000000 in
theorem t4_wish_s (l : Launch) (hst : l.stackTraces = false) (E : jE) (S : jS) (K : Nat → Nat) (y : Int64 × Nat) {h : Nat} (hh : h < 8) {n : Nat} (hn : n < 64) (hok : okN S (nI n) = true) {t : Int32} (ht1 : ¬ t < nI 1) (ht2 : t ≤ nI 999) {w : Nat} (hw3 : w ≤ 3) (hw : S 0 7 n = nI w) (hml : mayW (S 0) (nI h) n = false) : CtT l E yX4_wish cX4_wish 4 (some .int) 7 [.ref (ad E 11 0), .int (nI h), .int (nI n), .int t] (S, (K, y)) "java/lang/IllegalStateException" (nxt (S, (K, y))) := by
  refine CtT.of hst (by decide +kernel) (Nat.le_of_ble_eq_true rfl) rfl (fun J hJ hF => ?_)
  refine r_iload_n hJ dX4_wish_0 rfl jg1 ?_
  refine r_S1u hJ kX4_37 (c4_needHolder l E S (K, y) (nI h) (nI_pos (by omega)) (nI_lt (by omega) (by decide))) dX4_wish_1 ⟨by decide, by decide⟩ (Nat.le_of_ble_eq_true rfl) ?_
  refine r_aload_n hJ dX4_wish_4 rfl jg0 ?_
  refine r_iload_n hJ dX4_wish_5 rfl jg2 ?_
  refine r_V1u hJ kX4_41 (rcv4 E) (c4_needNumber l E S (K, y) (nI n) hok) dX4_wish_6 ⟨by decide, by decide⟩ (Nat.le_of_ble_eq_true rfl) ?_
  refine r_iload_n hJ dX4_wish_9 rfl jg3 ?_
  refine r_iconst hJ (v := nI 1) dX4_wish_10 (by decide) ?_
  refine r_sipush hJ (v := nI 999) dX4_wish_11 (by decide) ?_
  refine r_S3u hJ kX4_44 (c4_needRange l E S (K, y) (t) (nI 1) (nI 999) ht1 ht2) dX4_wish_14 ⟨by decide, by decide⟩ (Nat.le_of_ble_eq_true rfl) ?_
  refine r_aload_n hJ dX4_wish_17 rfl jg0 ?_
  refine r_g4_0 hJ m146 dX4_wish_18 ?_
  refine r_iload_n hJ dX4_wish_21 rfl jg1 ?_
  refine r_iload_n hJ dX4_wish_22 rfl jg2 ?_
  refine r_V2v hJ kX4_48 (rcv2 E (by decide)) (g2_mayWish l E S (K, y) (o := 0) (by decide) (nI h) hn hw3 hw) dX4_wish_23 ⟨by decide, by decide⟩ (Nat.le_of_ble_eq_true rfl) ?_
  rw [hml]
  exact thrS1 hF kX4_52 (t4_needState l hst E S (K, y)) dX4_wish_26 ⟨by decide, by decide⟩ (Nat.le_of_ble_eq_true rfl)

set_option maxRecDepth 100000 in
set_option maxHeartbeats 1000000 in
theorem c4_unwish (l : Launch) (E : jE) (S : jS) (K : Nat → Nat) (y : Int64 × Nat) {h : Nat} (hh : h < 8) {n : Nat} (hn : n < 64) (hok : okN S (nI n) = true) {w : Nat} (hw3 : w ≤ 3) (hw : S 0 7 n = nI w) (hSI : SI S K) {q : Nat} (hq : q < w) (hml : placeW (S 0) (nI h) n = some q) : Ct l E yX4_unwish cX4_unwish 4 (some .int) 7 [.ref (ad E 11 0), .int (nI h), .int (nI n)] (S, (K, y)) (some (.int (dropP (S 0) n q 7 n))) (setO (kpS S K) 0 (dropP (S 0) n q), (kpK S K, y)) := by
  have e0 : kpS S K 0 = S 0 := kpS_ne hSI (by omega)
  refine Ct.of (by decide +kernel) (Nat.le_refl _) (Nat.le_of_ble_eq_true rfl) rfl (fun J hJ hF => ?_)
  refine r_iload_n hJ dX4_unwish_0 rfl jg1 ?_
  refine r_S1u hJ kX4_37 (c4_needHolder l E S (K, y) (nI h) (nI_pos (by omega)) (nI_lt (by omega) (by decide))) dX4_unwish_1 ⟨by decide, by decide⟩ (Nat.le_of_ble_eq_true rfl) ?_
  refine r_aload_n hJ dX4_unwish_4 rfl jg0 ?_
  refine r_iload_n hJ dX4_unwish_5 rfl jg2 ?_
  refine r_V1u hJ kX4_41 (rcv4 E) (c4_needNumber l E S (K, y) (nI n) hok) dX4_unwish_6 ⟨by decide, by decide⟩ (Nat.le_of_ble_eq_true rfl) ?_
  refine r_aload_n hJ dX4_unwish_9 rfl jg0 ?_
  refine r_g4_0 hJ m146 dX4_unwish_10 ?_
  refine r_iload_n hJ dX4_unwish_13 rfl jg1 ?_
  refine r_iload_n hJ dX4_unwish_14 rfl jg2 ?_
  refine r_V2v hJ kX4_63 (rcv2 E (by decide)) (g2_placeOfWish l E S (K, y) (o := 0) (by decide) (nI h) hn hw3 hw) dX4_unwish_15 ⟨by decide, by decide⟩ (Nat.le_of_ble_eq_true rfl) ?_
  rw [hml]
  refine r_istore_n hJ dX4_unwish_18 rfl (jp3 rfl rfl) ?_
  refine r_iload_n hJ dX4_unwish_19 rfl jg3 ?_
  refine r_iconst hJ (v := (-1)) dX4_unwish_20 (by decide) ?_
  refine r_icmp_eq hJ (tgt := 28) dX4_unwish_21 (by decide) (fun c21 => ?_) (fun c21 => ?_)
  · exact absurd c21 (nI_m1 (by omega))
  · refine r_iconst hJ (v := bI true) dX4_unwish_24 (by decide) ?_
    refine r_goto hJ (tgt := 29) dX4_unwish_25 (by decide) ?_
    refine r_S1u hJ kX4_52 (c4_needState l E S (K, y)) dX4_unwish_29 ⟨by decide, by decide⟩ (Nat.le_of_ble_eq_true rfl) ?_
    refine r_aload_n hJ dX4_unwish_32 rfl jg0 ?_
    refine r_g4_2 hJ m148 dX4_unwish_33 ?_
    refine r_aload_n hJ dX4_unwish_36 rfl jg0 ?_
    refine r_g4_0 hJ m146 dX4_unwish_37 ?_
    refine r_V1ux hJ (x' := (kpK S K, y)) rfl kX4_56 (rcv3 E) (g3_keep l E S K y hSI) dX4_unwish_40 ⟨by decide, by decide⟩ (Nat.le_of_ble_eq_true rfl) ?_
    refine r_aload_n hJ dX4_unwish_43 rfl jg0 ?_
    refine r_g4_0 hJ m146 dX4_unwish_44 ?_
    refine r_iload_n hJ dX4_unwish_47 rfl jg2 ?_
    refine r_iload_n hJ dX4_unwish_48 rfl jg3 ?_
    have hl := g2_dropWish l E (kpS S K) (kpK S K, y) (o := 0) (by decide) hn hw3 (by rw [e0]; exact hw) hq
    rw [e0] at hl
    refine r_V2u hJ kX4_67 (rcv2 E (by decide)) (hl) dX4_unwish_49 ⟨by decide, by decide⟩ (Nat.le_of_ble_eq_true rfl) ?_
    refine r_aload_n hJ dX4_unwish_52 rfl jg0 ?_
    refine r_g4_0 hJ m146 dX4_unwish_53 ?_
    refine r_g2_10 hJ (by decide) m65 dX4_unwish_56 ?_
    refine r_iload_n hJ dX4_unwish_59 rfl jg2 ?_
    refine r_ialdO hJ (by omega) (alP7 (by decide) (by omega)) rfl dX4_unwish_60 ?_
    exact ret_i hF dX4_unwish_61 rfl rfl

set_option maxRecDepth 100000 in
set_option maxHeartbeats 1000000 in
theorem t4_unwish_h (l : Launch) (hst : l.stackTraces = false) (E : jE) (S : jS) (K : Nat → Nat) (y : Int64 × Nat) {h n : Int32} (h0 : h < 0 ∨ ¬ h < nI 8) : CtT l E yX4_unwish cX4_unwish 4 (some .int) 7 [.ref (ad E 11 0), .int h, .int n] (S, (K, y)) "java/lang/IndexOutOfBoundsException" (nxt (S, (K, y))) := by
  refine CtT.of hst (by decide +kernel) (Nat.le_of_ble_eq_true rfl) rfl (fun J hJ hF => ?_)
  refine r_iload_n hJ dX4_unwish_0 rfl jg1 ?_
  exact thrS1 hF kX4_37 (t4_needHolder l hst E S (K, y) h h0) dX4_unwish_1 ⟨by decide, by decide⟩ (Nat.le_of_ble_eq_true rfl)

set_option maxRecDepth 100000 in
set_option maxHeartbeats 1000000 in
theorem t4_unwish_n (l : Launch) (hst : l.stackTraces = false) (E : jE) (S : jS) (K : Nat → Nat) (y : Int64 × Nat) {h : Nat} (hh : h < 8) {n : Int32} (h0 : okN S n = false) : CtT l E yX4_unwish cX4_unwish 4 (some .int) 7 [.ref (ad E 11 0), .int (nI h), .int n] (S, (K, y)) "java/lang/IndexOutOfBoundsException" (nxt (S, (K, y))) := by
  refine CtT.of hst (by decide +kernel) (Nat.le_of_ble_eq_true rfl) rfl (fun J hJ hF => ?_)
  refine r_iload_n hJ dX4_unwish_0 rfl jg1 ?_
  refine r_S1u hJ kX4_37 (c4_needHolder l E S (K, y) (nI h) (nI_pos (by omega)) (nI_lt (by omega) (by decide))) dX4_unwish_1 ⟨by decide, by decide⟩ (Nat.le_of_ble_eq_true rfl) ?_
  refine r_aload_n hJ dX4_unwish_4 rfl jg0 ?_
  refine r_iload_n hJ dX4_unwish_5 rfl jg2 ?_
  exact thrV1 hF kX4_41 (rcv4 E) (t4_needNumber l hst E S (K, y) n h0) dX4_unwish_6 ⟨by decide, by decide⟩ (Nat.le_of_ble_eq_true rfl)

set_option maxRecDepth 100000 in
set_option maxHeartbeats 1000000 in
theorem t4_unwish_s (l : Launch) (hst : l.stackTraces = false) (E : jE) (S : jS) (K : Nat → Nat) (y : Int64 × Nat) {h : Nat} (hh : h < 8) {n : Nat} (hn : n < 64) (hok : okN S (nI n) = true) {w : Nat} (hw3 : w ≤ 3) (hw : S 0 7 n = nI w) (hml : placeW (S 0) (nI h) n = none) : CtT l E yX4_unwish cX4_unwish 4 (some .int) 7 [.ref (ad E 11 0), .int (nI h), .int (nI n)] (S, (K, y)) "java/lang/IllegalStateException" (nxt (S, (K, y))) := by
  refine CtT.of hst (by decide +kernel) (Nat.le_of_ble_eq_true rfl) rfl (fun J hJ hF => ?_)
  refine r_iload_n hJ dX4_unwish_0 rfl jg1 ?_
  refine r_S1u hJ kX4_37 (c4_needHolder l E S (K, y) (nI h) (nI_pos (by omega)) (nI_lt (by omega) (by decide))) dX4_unwish_1 ⟨by decide, by decide⟩ (Nat.le_of_ble_eq_true rfl) ?_
  refine r_aload_n hJ dX4_unwish_4 rfl jg0 ?_
  refine r_iload_n hJ dX4_unwish_5 rfl jg2 ?_
  refine r_V1u hJ kX4_41 (rcv4 E) (c4_needNumber l E S (K, y) (nI n) hok) dX4_unwish_6 ⟨by decide, by decide⟩ (Nat.le_of_ble_eq_true rfl) ?_
  refine r_aload_n hJ dX4_unwish_9 rfl jg0 ?_
  refine r_g4_0 hJ m146 dX4_unwish_10 ?_
  refine r_iload_n hJ dX4_unwish_13 rfl jg1 ?_
  refine r_iload_n hJ dX4_unwish_14 rfl jg2 ?_
  refine r_V2v hJ kX4_63 (rcv2 E (by decide)) (g2_placeOfWish l E S (K, y) (o := 0) (by decide) (nI h) hn hw3 hw) dX4_unwish_15 ⟨by decide, by decide⟩ (Nat.le_of_ble_eq_true rfl) ?_
  rw [hml]
  refine r_istore_n hJ dX4_unwish_18 rfl (jp3 rfl rfl) ?_
  refine r_iload_n hJ dX4_unwish_19 rfl jg3 ?_
  refine r_iconst hJ (v := (-1)) dX4_unwish_20 (by decide) ?_
  refine r_icmp_eq hJ (tgt := 28) dX4_unwish_21 (by decide) (fun c21 => ?_) (fun c21 => ?_)
  · refine r_iconst hJ (v := bI false) dX4_unwish_28 (by decide) ?_
    exact thrS1 hF kX4_52 (t4_needState l hst E S (K, y)) dX4_unwish_29 ⟨by decide, by decide⟩ (Nat.le_of_ble_eq_true rfl)
  · exact absurd rfl c21

set_option maxRecDepth 100000 in
set_option maxHeartbeats 1000000 in
theorem c4_renew (l : Launch) (E : jE) (S : jS) (K : Nat → Nat) (y : Int64 × Nat) {h : Nat} (hh : h < 8) {n : Nat} (hn : n < 64) (hok : okN S (nI n) = true) {t : Int32} (ht1 : ¬ t < nI 1) (ht2 : t ≤ nI 999) (hSI : SI S K) (hml : (decide (S 0 2 n = nI h) && (decide (S 0 1 2 = 0) || decide (S 0 7 n = 0))) = true) : Ct l E yX4_renew cX4_renew 4 (some .int) 7 [.ref (ad E 11 0), .int (nI h), .int (nI n), .int t] (S, (K, y)) (some (.int (S 0 4 n))) (setO (kpS S K) 0 (prolP (S 0) n t), (kpK S K, y)) := by
  have e0 : kpS S K 0 = S 0 := kpS_ne hSI (by omega)
  refine Ct.of (by decide +kernel) (Nat.le_refl _) (Nat.le_of_ble_eq_true rfl) rfl (fun J hJ hF => ?_)
  refine r_iload_n hJ dX4_renew_0 rfl jg1 ?_
  refine r_S1u hJ kX4_37 (c4_needHolder l E S (K, y) (nI h) (nI_pos (by omega)) (nI_lt (by omega) (by decide))) dX4_renew_1 ⟨by decide, by decide⟩ (Nat.le_of_ble_eq_true rfl) ?_
  refine r_aload_n hJ dX4_renew_4 rfl jg0 ?_
  refine r_iload_n hJ dX4_renew_5 rfl jg2 ?_
  refine r_V1u hJ kX4_41 (rcv4 E) (c4_needNumber l E S (K, y) (nI n) hok) dX4_renew_6 ⟨by decide, by decide⟩ (Nat.le_of_ble_eq_true rfl) ?_
  refine r_iload_n hJ dX4_renew_9 rfl jg3 ?_
  refine r_iconst hJ (v := nI 1) dX4_renew_10 (by decide) ?_
  refine r_sipush hJ (v := nI 999) dX4_renew_11 (by decide) ?_
  refine r_S3u hJ kX4_44 (c4_needRange l E S (K, y) (t) (nI 1) (nI 999) ht1 ht2) dX4_renew_14 ⟨by decide, by decide⟩ (Nat.le_of_ble_eq_true rfl) ?_
  refine r_aload_n hJ dX4_renew_17 rfl jg0 ?_
  refine r_g4_0 hJ m146 dX4_renew_18 ?_
  refine r_iload_n hJ dX4_renew_21 rfl jg1 ?_
  refine r_iload_n hJ dX4_renew_22 rfl jg2 ?_
  refine r_V2v hJ kX4_75 (rcv2 E (by decide)) (g2_mayRenew l E S (K, y) (o := 0) (by decide) (nI h) hn) dX4_renew_23 ⟨by decide, by decide⟩ (Nat.le_of_ble_eq_true rfl) ?_
  rw [hml]
  refine r_S1u hJ kX4_52 (c4_needState l E S (K, y)) dX4_renew_26 ⟨by decide, by decide⟩ (Nat.le_of_ble_eq_true rfl) ?_
  refine r_aload_n hJ dX4_renew_29 rfl jg0 ?_
  refine r_g4_2 hJ m148 dX4_renew_30 ?_
  refine r_aload_n hJ dX4_renew_33 rfl jg0 ?_
  refine r_g4_0 hJ m146 dX4_renew_34 ?_
  refine r_V1ux hJ (x' := (kpK S K, y)) rfl kX4_56 (rcv3 E) (g3_keep l E S K y hSI) dX4_renew_37 ⟨by decide, by decide⟩ (Nat.le_of_ble_eq_true rfl) ?_
  refine r_aload_n hJ dX4_renew_40 rfl jg0 ?_
  refine r_g4_0 hJ m146 dX4_renew_41 ?_
  refine r_iload_n hJ dX4_renew_44 rfl jg2 ?_
  refine r_iload_n hJ dX4_renew_45 rfl jg3 ?_
  have hl := g2_prolong l E (kpS S K) (kpK S K, y) (o := 0) (by decide) hn t
  rw [e0] at hl
  refine r_V2v hJ kX4_78 (rcv2 E (by decide)) (hl) dX4_renew_46 ⟨by decide, by decide⟩ (Nat.le_of_ble_eq_true rfl) ?_
  exact ret_i hF dX4_renew_49 rfl rfl

set_option maxRecDepth 100000 in
set_option maxHeartbeats 1000000 in
theorem t4_renew_h (l : Launch) (hst : l.stackTraces = false) (E : jE) (S : jS) (K : Nat → Nat) (y : Int64 × Nat) {h n t : Int32} (h0 : h < 0 ∨ ¬ h < nI 8) : CtT l E yX4_renew cX4_renew 4 (some .int) 7 [.ref (ad E 11 0), .int h, .int n, .int t] (S, (K, y)) "java/lang/IndexOutOfBoundsException" (nxt (S, (K, y))) := by
  refine CtT.of hst (by decide +kernel) (Nat.le_of_ble_eq_true rfl) rfl (fun J hJ hF => ?_)
  refine r_iload_n hJ dX4_renew_0 rfl jg1 ?_
  exact thrS1 hF kX4_37 (t4_needHolder l hst E S (K, y) h h0) dX4_renew_1 ⟨by decide, by decide⟩ (Nat.le_of_ble_eq_true rfl)

set_option maxRecDepth 100000 in
set_option maxHeartbeats 1000000 in
theorem t4_renew_n (l : Launch) (hst : l.stackTraces = false) (E : jE) (S : jS) (K : Nat → Nat) (y : Int64 × Nat) {h : Nat} (hh : h < 8) {n t : Int32} (h0 : okN S n = false) : CtT l E yX4_renew cX4_renew 4 (some .int) 7 [.ref (ad E 11 0), .int (nI h), .int n, .int t] (S, (K, y)) "java/lang/IndexOutOfBoundsException" (nxt (S, (K, y))) := by
  refine CtT.of hst (by decide +kernel) (Nat.le_of_ble_eq_true rfl) rfl (fun J hJ hF => ?_)
  refine r_iload_n hJ dX4_renew_0 rfl jg1 ?_
  refine r_S1u hJ kX4_37 (c4_needHolder l E S (K, y) (nI h) (nI_pos (by omega)) (nI_lt (by omega) (by decide))) dX4_renew_1 ⟨by decide, by decide⟩ (Nat.le_of_ble_eq_true rfl) ?_
  refine r_aload_n hJ dX4_renew_4 rfl jg0 ?_
  refine r_iload_n hJ dX4_renew_5 rfl jg2 ?_
  exact thrV1 hF kX4_41 (rcv4 E) (t4_needNumber l hst E S (K, y) n h0) dX4_renew_6 ⟨by decide, by decide⟩ (Nat.le_of_ble_eq_true rfl)

set_option maxRecDepth 100000 in
set_option maxHeartbeats 1000000 in
theorem t4_renew_t (l : Launch) (hst : l.stackTraces = false) (E : jE) (S : jS) (K : Nat → Nat) (y : Int64 × Nat) {h : Nat} (hh : h < 8) {n : Nat} (hn : n < 64) (hok : okN S (nI n) = true) {t : Int32} (h0 : t < nI 1 ∨ ¬ t ≤ nI 999) : CtT l E yX4_renew cX4_renew 4 (some .int) 7 [.ref (ad E 11 0), .int (nI h), .int (nI n), .int t] (S, (K, y)) "java/lang/IllegalArgumentException" (nxt (S, (K, y))) := by
  refine CtT.of hst (by decide +kernel) (Nat.le_of_ble_eq_true rfl) rfl (fun J hJ hF => ?_)
  refine r_iload_n hJ dX4_renew_0 rfl jg1 ?_
  refine r_S1u hJ kX4_37 (c4_needHolder l E S (K, y) (nI h) (nI_pos (by omega)) (nI_lt (by omega) (by decide))) dX4_renew_1 ⟨by decide, by decide⟩ (Nat.le_of_ble_eq_true rfl) ?_
  refine r_aload_n hJ dX4_renew_4 rfl jg0 ?_
  refine r_iload_n hJ dX4_renew_5 rfl jg2 ?_
  refine r_V1u hJ kX4_41 (rcv4 E) (c4_needNumber l E S (K, y) (nI n) hok) dX4_renew_6 ⟨by decide, by decide⟩ (Nat.le_of_ble_eq_true rfl) ?_
  refine r_iload_n hJ dX4_renew_9 rfl jg3 ?_
  refine r_iconst hJ (v := nI 1) dX4_renew_10 (by decide) ?_
  refine r_sipush hJ (v := nI 999) dX4_renew_11 (by decide) ?_
  exact thrS3 hF kX4_44 (t4_needRange l hst E S (K, y) t (nI 1) (nI 999) h0) dX4_renew_14 ⟨by decide, by decide⟩ (Nat.le_of_ble_eq_true rfl)

set_option maxRecDepth 100000 in
set_option maxHeartbeats 1000000 in
theorem t4_renew_s (l : Launch) (hst : l.stackTraces = false) (E : jE) (S : jS) (K : Nat → Nat) (y : Int64 × Nat) {h : Nat} (hh : h < 8) {n : Nat} (hn : n < 64) (hok : okN S (nI n) = true) {t : Int32} (ht1 : ¬ t < nI 1) (ht2 : t ≤ nI 999) (hml : (decide (S 0 2 n = nI h) && (decide (S 0 1 2 = 0) || decide (S 0 7 n = 0))) = false) : CtT l E yX4_renew cX4_renew 4 (some .int) 7 [.ref (ad E 11 0), .int (nI h), .int (nI n), .int t] (S, (K, y)) "java/lang/IllegalStateException" (nxt (S, (K, y))) := by
  refine CtT.of hst (by decide +kernel) (Nat.le_of_ble_eq_true rfl) rfl (fun J hJ hF => ?_)
  refine r_iload_n hJ dX4_renew_0 rfl jg1 ?_
  refine r_S1u hJ kX4_37 (c4_needHolder l E S (K, y) (nI h) (nI_pos (by omega)) (nI_lt (by omega) (by decide))) dX4_renew_1 ⟨by decide, by decide⟩ (Nat.le_of_ble_eq_true rfl) ?_
  refine r_aload_n hJ dX4_renew_4 rfl jg0 ?_
  refine r_iload_n hJ dX4_renew_5 rfl jg2 ?_
  refine r_V1u hJ kX4_41 (rcv4 E) (c4_needNumber l E S (K, y) (nI n) hok) dX4_renew_6 ⟨by decide, by decide⟩ (Nat.le_of_ble_eq_true rfl) ?_
  refine r_iload_n hJ dX4_renew_9 rfl jg3 ?_
  refine r_iconst hJ (v := nI 1) dX4_renew_10 (by decide) ?_
  refine r_sipush hJ (v := nI 999) dX4_renew_11 (by decide) ?_
  refine r_S3u hJ kX4_44 (c4_needRange l E S (K, y) (t) (nI 1) (nI 999) ht1 ht2) dX4_renew_14 ⟨by decide, by decide⟩ (Nat.le_of_ble_eq_true rfl) ?_
  refine r_aload_n hJ dX4_renew_17 rfl jg0 ?_
  refine r_g4_0 hJ m146 dX4_renew_18 ?_
  refine r_iload_n hJ dX4_renew_21 rfl jg1 ?_
  refine r_iload_n hJ dX4_renew_22 rfl jg2 ?_
  refine r_V2v hJ kX4_75 (rcv2 E (by decide)) (g2_mayRenew l E S (K, y) (o := 0) (by decide) (nI h) hn) dX4_renew_23 ⟨by decide, by decide⟩ (Nat.le_of_ble_eq_true rfl) ?_
  rw [hml]
  exact thrS1 hF kX4_52 (t4_needState l hst E S (K, y)) dX4_renew_26 ⟨by decide, by decide⟩ (Nat.le_of_ble_eq_true rfl)

set_option maxRecDepth 100000 in
set_option maxHeartbeats 1000000 in
theorem c4_giveBack (l : Launch) (E : jE) (S : jS) (K : Nat → Nat) (y : Int64 × Nat) {h : Nat} (hh : h < 8) {a b : Nat} (hb : b < 64) (hoka : okN S (nI a) = true) (hokb : okN S (nI b) = true) (ha : a < 64) (hP : PI (S 0)) (hSI : SI S K) (hab : a ≤ b) : Ct l E yX4_giveBack cX4_giveBack 4 (some .int) 7 [.ref (ad E 11 0), .int (nI h), .int (nI a), .int (nI b)] (S, (K, y)) (some (.int (nI (spanN (nI h) (b + 1 - a) a (S 0, 0)).2))) (setO (kpS S K) 0 ((spanN (nI h) (b + 1 - a) a (S 0, 0)).1), (kpK S K, y)) := by
  have e0 : kpS S K 0 = S 0 := kpS_ne hSI (by omega)
  refine Ct.of (by decide +kernel) (Nat.le_refl _) (Nat.le_of_ble_eq_true rfl) rfl (fun J hJ hF => ?_)
  refine r_iload_n hJ dX4_giveBack_0 rfl jg1 ?_
  refine r_S1u hJ kX4_37 (c4_needHolder l E S (K, y) (nI h) (nI_pos (by omega)) (nI_lt (by omega) (by decide))) dX4_giveBack_1 ⟨by decide, by decide⟩ (Nat.le_of_ble_eq_true rfl) ?_
  refine r_aload_n hJ dX4_giveBack_4 rfl jg0 ?_
  refine r_iload_n hJ dX4_giveBack_5 rfl jg2 ?_
  refine r_V1u hJ kX4_41 (rcv4 E) (c4_needNumber l E S (K, y) (nI a) hoka) dX4_giveBack_6 ⟨by decide, by decide⟩ (Nat.le_of_ble_eq_true rfl) ?_
  refine r_aload_n hJ dX4_giveBack_9 rfl jg0 ?_
  refine r_iload_n hJ dX4_giveBack_10 rfl jg3 ?_
  refine r_V1u hJ kX4_41 (rcv4 E) (c4_needNumber l E S (K, y) (nI b) hokb) dX4_giveBack_11 ⟨by decide, by decide⟩ (Nat.le_of_ble_eq_true rfl) ?_
  refine r_iload_n hJ dX4_giveBack_14 rfl jg3 ?_
  refine r_iload_n hJ dX4_giveBack_15 rfl jg2 ?_
  refine r_bipush hJ (v := nI 64) dX4_giveBack_16 (by decide) ?_
  refine r_S3u hJ kX4_44 (c4_needRange l E S (K, y) (nI b) (nI a) (nI 64) (nI_nlt (by omega) (by omega)) (nI_le (by omega) (by omega))) dX4_giveBack_18 ⟨by decide, by decide⟩ (Nat.le_of_ble_eq_true rfl) ?_
  refine r_aload_n hJ dX4_giveBack_21 rfl jg0 ?_
  refine r_g4_2 hJ m148 dX4_giveBack_22 ?_
  refine r_aload_n hJ dX4_giveBack_25 rfl jg0 ?_
  refine r_g4_0 hJ m146 dX4_giveBack_26 ?_
  refine r_V1ux hJ (x' := (kpK S K, y)) rfl kX4_56 (rcv3 E) (g3_keep l E S K y hSI) dX4_giveBack_29 ⟨by decide, by decide⟩ (Nat.le_of_ble_eq_true rfl) ?_
  refine r_aload_n hJ dX4_giveBack_32 rfl jg0 ?_
  refine r_g4_0 hJ m146 dX4_giveBack_33 ?_
  refine r_iload_n hJ dX4_giveBack_36 rfl jg1 ?_
  refine r_iload_n hJ dX4_giveBack_37 rfl jg2 ?_
  refine r_iload_n hJ dX4_giveBack_38 rfl jg3 ?_
  have hl := g2_freeSpan l E (kpS S K) (kpK S K, y) (o := 0) (by decide) (by rw [e0]; exact hP) (nI h) hab hb
  rw [e0] at hl
  refine r_V3v hJ kX4_81 (rcv2 E (by decide)) (hl) dX4_giveBack_39 ⟨by decide, by decide⟩ (Nat.le_of_ble_eq_true rfl) ?_
  exact ret_i hF dX4_giveBack_42 rfl rfl

set_option maxRecDepth 100000 in
set_option maxHeartbeats 1000000 in
theorem t4_giveBack_h (l : Launch) (hst : l.stackTraces = false) (E : jE) (S : jS) (K : Nat → Nat) (y : Int64 × Nat) {h a b : Int32} (h0 : h < 0 ∨ ¬ h < nI 8) : CtT l E yX4_giveBack cX4_giveBack 4 (some .int) 7 [.ref (ad E 11 0), .int h, .int a, .int b] (S, (K, y)) "java/lang/IndexOutOfBoundsException" (nxt (S, (K, y))) := by
  refine CtT.of hst (by decide +kernel) (Nat.le_of_ble_eq_true rfl) rfl (fun J hJ hF => ?_)
  refine r_iload_n hJ dX4_giveBack_0 rfl jg1 ?_
  exact thrS1 hF kX4_37 (t4_needHolder l hst E S (K, y) h h0) dX4_giveBack_1 ⟨by decide, by decide⟩ (Nat.le_of_ble_eq_true rfl)

set_option maxRecDepth 100000 in
set_option maxHeartbeats 1000000 in
theorem t4_giveBack_a (l : Launch) (hst : l.stackTraces = false) (E : jE) (S : jS) (K : Nat → Nat) (y : Int64 × Nat) {h : Nat} (hh : h < 8) {a b : Int32} (h0 : okN S a = false) : CtT l E yX4_giveBack cX4_giveBack 4 (some .int) 7 [.ref (ad E 11 0), .int (nI h), .int a, .int b] (S, (K, y)) "java/lang/IndexOutOfBoundsException" (nxt (S, (K, y))) := by
  refine CtT.of hst (by decide +kernel) (Nat.le_of_ble_eq_true rfl) rfl (fun J hJ hF => ?_)
  refine r_iload_n hJ dX4_giveBack_0 rfl jg1 ?_
  refine r_S1u hJ kX4_37 (c4_needHolder l E S (K, y) (nI h) (nI_pos (by omega)) (nI_lt (by omega) (by decide))) dX4_giveBack_1 ⟨by decide, by decide⟩ (Nat.le_of_ble_eq_true rfl) ?_
  refine r_aload_n hJ dX4_giveBack_4 rfl jg0 ?_
  refine r_iload_n hJ dX4_giveBack_5 rfl jg2 ?_
  exact thrV1 hF kX4_41 (rcv4 E) (t4_needNumber l hst E S (K, y) a h0) dX4_giveBack_6 ⟨by decide, by decide⟩ (Nat.le_of_ble_eq_true rfl)

set_option maxRecDepth 100000 in
set_option maxHeartbeats 1000000 in
theorem t4_giveBack_b (l : Launch) (hst : l.stackTraces = false) (E : jE) (S : jS) (K : Nat → Nat) (y : Int64 × Nat) {h : Nat} (hh : h < 8) {a : Nat} (hoka : okN S (nI a) = true) {b : Int32} (h0 : okN S b = false) : CtT l E yX4_giveBack cX4_giveBack 4 (some .int) 7 [.ref (ad E 11 0), .int (nI h), .int (nI a), .int b] (S, (K, y)) "java/lang/IndexOutOfBoundsException" (nxt (S, (K, y))) := by
  refine CtT.of hst (by decide +kernel) (Nat.le_of_ble_eq_true rfl) rfl (fun J hJ hF => ?_)
  refine r_iload_n hJ dX4_giveBack_0 rfl jg1 ?_
  refine r_S1u hJ kX4_37 (c4_needHolder l E S (K, y) (nI h) (nI_pos (by omega)) (nI_lt (by omega) (by decide))) dX4_giveBack_1 ⟨by decide, by decide⟩ (Nat.le_of_ble_eq_true rfl) ?_
  refine r_aload_n hJ dX4_giveBack_4 rfl jg0 ?_
  refine r_iload_n hJ dX4_giveBack_5 rfl jg2 ?_
  refine r_V1u hJ kX4_41 (rcv4 E) (c4_needNumber l E S (K, y) (nI a) hoka) dX4_giveBack_6 ⟨by decide, by decide⟩ (Nat.le_of_ble_eq_true rfl) ?_
  refine r_aload_n hJ dX4_giveBack_9 rfl jg0 ?_
  refine r_iload_n hJ dX4_giveBack_10 rfl jg3 ?_
  exact thrV1 hF kX4_41 (rcv4 E) (t4_needNumber l hst E S (K, y) b h0) dX4_giveBack_11 ⟨by decide, by decide⟩ (Nat.le_of_ble_eq_true rfl)

set_option maxRecDepth 100000 in
set_option maxHeartbeats 1000000 in
theorem t4_giveBack_r (l : Launch) (hst : l.stackTraces = false) (E : jE) (S : jS) (K : Nat → Nat) (y : Int64 × Nat) {h : Nat} (hh : h < 8) {a b : Nat} (hb : b < 64) (hoka : okN S (nI a) = true) (hokb : okN S (nI b) = true) (ha : a < 64) (hab : b < a) : CtT l E yX4_giveBack cX4_giveBack 4 (some .int) 7 [.ref (ad E 11 0), .int (nI h), .int (nI a), .int (nI b)] (S, (K, y)) "java/lang/IllegalArgumentException" (nxt (S, (K, y))) := by
  refine CtT.of hst (by decide +kernel) (Nat.le_of_ble_eq_true rfl) rfl (fun J hJ hF => ?_)
  refine r_iload_n hJ dX4_giveBack_0 rfl jg1 ?_
  refine r_S1u hJ kX4_37 (c4_needHolder l E S (K, y) (nI h) (nI_pos (by omega)) (nI_lt (by omega) (by decide))) dX4_giveBack_1 ⟨by decide, by decide⟩ (Nat.le_of_ble_eq_true rfl) ?_
  refine r_aload_n hJ dX4_giveBack_4 rfl jg0 ?_
  refine r_iload_n hJ dX4_giveBack_5 rfl jg2 ?_
  refine r_V1u hJ kX4_41 (rcv4 E) (c4_needNumber l E S (K, y) (nI a) hoka) dX4_giveBack_6 ⟨by decide, by decide⟩ (Nat.le_of_ble_eq_true rfl) ?_
  refine r_aload_n hJ dX4_giveBack_9 rfl jg0 ?_
  refine r_iload_n hJ dX4_giveBack_10 rfl jg3 ?_
  refine r_V1u hJ kX4_41 (rcv4 E) (c4_needNumber l E S (K, y) (nI b) hokb) dX4_giveBack_11 ⟨by decide, by decide⟩ (Nat.le_of_ble_eq_true rfl) ?_
  refine r_iload_n hJ dX4_giveBack_14 rfl jg3 ?_
  refine r_iload_n hJ dX4_giveBack_15 rfl jg2 ?_
  refine r_bipush hJ (v := nI 64) dX4_giveBack_16 (by decide) ?_
  exact thrS3 hF kX4_44 (t4_needRange l hst E S (K, y) (nI b) (nI a) (nI 64) (Or.inl (nI_lt hab (by omega)))) dX4_giveBack_18 ⟨by decide, by decide⟩ (Nat.le_of_ble_eq_true rfl)

set_option maxRecDepth 100000 in
set_option maxHeartbeats 1000000 in
theorem c4_pass (l : Launch) (E : jE) (S : jS) (K : Nat → Nat) (y : Int64 × Nat) {b : Nat} (hb1 : 1 ≤ b) (hb99 : b ≤ 99) (hP : PI (S 0)) (hSI : SI S K) (hml : (!decide (nI 9999 < S 0 0 0 + nI b)) = true) : Ct l E yX4_pass cX4_pass 2 (some .int) 7 [.ref (ad E 11 0), .int (nI b)] (S, (K, y)) (some (.int (passN b (S 0) 0 3 - S 0 0 3))) (setO (kpS S K) 0 (passN b (S 0)), (kpK S K, y)) := by
  have e0 : kpS S K 0 = S 0 := kpS_ne hSI (by omega)
  refine Ct.of (by decide +kernel) (Nat.le_refl _) (Nat.le_of_ble_eq_true rfl) rfl (fun J hJ hF => ?_)
  refine r_iload_n hJ dX4_pass_0 rfl jg1 ?_
  refine r_iconst hJ (v := nI 1) dX4_pass_1 (by decide) ?_
  refine r_bipush hJ (v := nI 99) dX4_pass_2 (by decide) ?_
  refine r_S3u hJ kX4_44 (c4_needRange l E S (K, y) (nI b) (nI 1) (nI 99) (nI_nlt (by omega) (by omega)) (nI_le (by omega) (by omega))) dX4_pass_4 ⟨by decide, by decide⟩ (Nat.le_of_ble_eq_true rfl) ?_
  refine r_aload_n hJ dX4_pass_7 rfl jg0 ?_
  refine r_g4_0 hJ m146 dX4_pass_8 ?_
  refine r_iload_n hJ dX4_pass_11 rfl jg1 ?_
  refine r_V1v hJ kX4_84 (rcv2 E (by decide)) (g2_hasTimeFor l E S (K, y) (o := 0) (by decide) (nI b)) dX4_pass_12 ⟨by decide, by decide⟩ (Nat.le_of_ble_eq_true rfl) ?_
  rw [hml]
  refine r_S1u hJ kX4_52 (c4_needState l E S (K, y)) dX4_pass_15 ⟨by decide, by decide⟩ (Nat.le_of_ble_eq_true rfl) ?_
  refine r_aload_n hJ dX4_pass_18 rfl jg0 ?_
  refine r_g4_2 hJ m148 dX4_pass_19 ?_
  refine r_aload_n hJ dX4_pass_22 rfl jg0 ?_
  refine r_g4_0 hJ m146 dX4_pass_23 ?_
  refine r_V1ux hJ (x' := (kpK S K, y)) rfl kX4_56 (rcv3 E) (g3_keep l E S K y hSI) dX4_pass_26 ⟨by decide, by decide⟩ (Nat.le_of_ble_eq_true rfl) ?_
  refine r_aload_n hJ dX4_pass_29 rfl jg0 ?_
  refine r_g4_0 hJ m146 dX4_pass_30 ?_
  refine r_iload_n hJ dX4_pass_33 rfl jg1 ?_
  have hl := g2_passUnits l E (kpS S K) (kpK S K, y) (o := 0) (by decide) (by rw [e0]; exact hP) (b := b) (by omega)
  rw [e0] at hl
  refine r_V1v hJ kX4_88 (rcv2 E (by decide)) (hl) dX4_pass_34 ⟨by decide, by decide⟩ (Nat.le_of_ble_eq_true rfl) ?_
  exact ret_i hF dX4_pass_37 rfl rfl

set_option maxRecDepth 100000 in
set_option maxHeartbeats 1000000 in
theorem t4_pass_b (l : Launch) (hst : l.stackTraces = false) (E : jE) (S : jS) (K : Nat → Nat) (y : Int64 × Nat) {b : Int32} (h0 : b < nI 1 ∨ ¬ b ≤ nI 99) : CtT l E yX4_pass cX4_pass 2 (some .int) 7 [.ref (ad E 11 0), .int b] (S, (K, y)) "java/lang/IllegalArgumentException" (nxt (S, (K, y))) := by
  refine CtT.of hst (by decide +kernel) (Nat.le_of_ble_eq_true rfl) rfl (fun J hJ hF => ?_)
  refine r_iload_n hJ dX4_pass_0 rfl jg1 ?_
  refine r_iconst hJ (v := nI 1) dX4_pass_1 (by decide) ?_
  refine r_bipush hJ (v := nI 99) dX4_pass_2 (by decide) ?_
  exact thrS3 hF kX4_44 (t4_needRange l hst E S (K, y) b (nI 1) (nI 99) h0) dX4_pass_4 ⟨by decide, by decide⟩ (Nat.le_of_ble_eq_true rfl)

set_option maxRecDepth 100000 in
set_option maxHeartbeats 1000000 in
theorem t4_pass_s (l : Launch) (hst : l.stackTraces = false) (E : jE) (S : jS) (K : Nat → Nat) (y : Int64 × Nat) {b : Nat} (hb1 : 1 ≤ b) (hb99 : b ≤ 99) (hml : (!decide (nI 9999 < S 0 0 0 + nI b)) = false) : CtT l E yX4_pass cX4_pass 2 (some .int) 7 [.ref (ad E 11 0), .int (nI b)] (S, (K, y)) "java/lang/IllegalStateException" (nxt (S, (K, y))) := by
  refine CtT.of hst (by decide +kernel) (Nat.le_of_ble_eq_true rfl) rfl (fun J hJ hF => ?_)
  refine r_iload_n hJ dX4_pass_0 rfl jg1 ?_
  refine r_iconst hJ (v := nI 1) dX4_pass_1 (by decide) ?_
  refine r_bipush hJ (v := nI 99) dX4_pass_2 (by decide) ?_
  refine r_S3u hJ kX4_44 (c4_needRange l E S (K, y) (nI b) (nI 1) (nI 99) (nI_nlt (by omega) (by omega)) (nI_le (by omega) (by omega))) dX4_pass_4 ⟨by decide, by decide⟩ (Nat.le_of_ble_eq_true rfl) ?_
  refine r_aload_n hJ dX4_pass_7 rfl jg0 ?_
  refine r_g4_0 hJ m146 dX4_pass_8 ?_
  refine r_iload_n hJ dX4_pass_11 rfl jg1 ?_
  refine r_V1v hJ kX4_84 (rcv2 E (by decide)) (g2_hasTimeFor l E S (K, y) (o := 0) (by decide) (nI b)) dX4_pass_12 ⟨by decide, by decide⟩ (Nat.le_of_ble_eq_true rfl) ?_
  rw [hml]
  exact thrS1 hF kX4_52 (t4_needState l hst E S (K, y)) dX4_pass_15 ⟨by decide, by decide⟩ (Nat.le_of_ble_eq_true rfl)
end
section
set_option maxRecDepth 100000 in
set_option maxHeartbeats 1000000 in
theorem c4_set (l : Launch) (E : jE) (S : jS) (K : Nat → Nat) (y : Int64 × Nat) {q : Nat} (hq : q < 4) {v : Int32} (hv1 : ¬ v < lsS q) (hv2 : v ≤ msS q) (hSI : SI S K) (hfit : (q = 3 → ∃ m : Nat, m ≤ 64 ∧ v = nI m ∧ (fnd (fun n => !frP (S 0) n) (64 - m) m).isNone = true)) : Ct l E yX4_set cX4_set 4 (some .int) 7 [.ref (ad E 11 0), .int (nI q), .int v] (S, (K, y)) (some (.int (S 0 1 q))) (setO (kpS S K) 0 (put (S 0) 1 q v), (kpK S K, y)) := by
  have e0 : kpS S K 0 = S 0 := kpS_ne hSI (by omega)
  refine Ct.of (by decide +kernel) (Nat.le_refl _) (Nat.le_of_ble_eq_true rfl) rfl (fun J hJ hF => ?_)
  have tail : J (S, (K, y)) 39 [some (.ref (ad E 11 0)), some (.int (nI q)), some (.int v), none] [.int (bI true)] := by
    refine r_S1u hJ kX4_52 (c4_needState l E S (K, y)) dX4_set_39 ⟨by decide, by decide⟩ (Nat.le_of_ble_eq_true rfl) ?_
    refine r_aload_n hJ dX4_set_42 rfl jg0 ?_
    refine r_g4_2 hJ m148 dX4_set_43 ?_
    refine r_aload_n hJ dX4_set_46 rfl jg0 ?_
    refine r_g4_0 hJ m146 dX4_set_47 ?_
    refine r_V1ux hJ (x' := (kpK S K, y)) rfl kX4_56 (rcv3 E) (g3_keep l E S K y hSI) dX4_set_50 ⟨by decide, by decide⟩ (Nat.le_of_ble_eq_true rfl) ?_
    rw [← setO_self (kpS S K) 0, e0]
    refine r_aload_n hJ dX4_set_53 rfl jg0 ?_
    refine r_g4_0 hJ m146 dX4_set_54 ?_
    refine r_g2_4 hJ (by decide) m57 dX4_set_57 ?_
    refine r_iload_n hJ dX4_set_60 rfl jg1 ?_
    refine r_ialdO hJ (by omega) (alP1 (by decide) hq) rfl dX4_set_61 ?_
    refine r_istore_n hJ dX4_set_62 rfl (jp3 rfl rfl) ?_
    refine r_aload_n hJ dX4_set_63 rfl jg0 ?_
    refine r_g4_0 hJ m146 dX4_set_64 ?_
    refine r_g2_4 hJ (by decide) m57 dX4_set_67 ?_
    refine r_iload_n hJ dX4_set_70 rfl jg1 ?_
    refine r_iload_n hJ dX4_set_71 rfl jg2 ?_
    refine r_iast hJ (by omega) (alP1 (by decide) hq) rfl dX4_set_72 ?_
    refine r_iload_n hJ dX4_set_73 rfl jg3 ?_
    exact ret_i hF dX4_set_74 rfl rfl
  refine r_iload_n hJ dX4_set_0 rfl jg1 ?_
  refine r_S1u hJ kX4_92 (c4_needSetting l E S (K, y) (nI q) (nI_pos (by omega)) (nI_lt (by omega) (by decide))) dX4_set_1 ⟨by decide, by decide⟩ (Nat.le_of_ble_eq_true rfl) ?_
  refine r_iload_n hJ dX4_set_4 rfl jg2 ?_
  refine r_getsL hJ m395 dX4_set_5 ?_
  refine r_iload_n hJ dX4_set_8 rfl jg1 ?_
  refine r_tabL hJ rfl hq dX4_set_9 ?_
  refine r_getsM hJ m397 dX4_set_10 ?_
  refine r_iload_n hJ dX4_set_13 rfl jg1 ?_
  refine r_tabM hJ rfl hq dX4_set_14 ?_
  refine r_S3u hJ kX4_44 (c4_needRange l E S (K, y) (v) (lsS q) (msS q) hv1 hv2) dX4_set_15 ⟨by decide, by decide⟩ (Nat.le_of_ble_eq_true rfl) ?_
  refine r_iload_n hJ dX4_set_18 rfl jg1 ?_
  refine r_iconst hJ (v := nI 3) dX4_set_19 (by decide) ?_
  refine r_icmp_ne hJ (tgt := 34) dX4_set_20 (by decide) (fun c20 => ?_) (fun c20 => ?_)
  · rw [nI_eq (by omega) (by decide)] at c20
    refine r_iconst hJ (v := nI 1) dX4_set_34 (by decide) ?_
    refine r_goto hJ (tgt := 39) dX4_set_35 (by decide) ?_
    exact tail
  · rw [nI_eq (by omega) (by decide)] at c20
    obtain ⟨m, hm, rfl, hf⟩ := hfit c20
    refine r_aload_n hJ dX4_set_23 rfl jg0 ?_
    refine r_g4_0 hJ m146 dX4_set_24 ?_
    refine r_iload_n hJ dX4_set_27 rfl jg2 ?_
    refine r_V1v hJ kX4_101 (rcv2 E (by decide)) (g2_fitsIn l E S (K, y) (o := 0) (by decide) hm) dX4_set_28 ⟨by decide, by decide⟩ (Nat.le_of_ble_eq_true rfl) ?_
    rw [hf]
    refine r_if_eq hJ (tgt := 38) dX4_set_31 (by decide) (fun c31 => ?_) (fun c31 => ?_)
    · exact absurd c31 (by decide)
    · refine r_iconst hJ (v := nI 1) dX4_set_34 (by decide) ?_
      refine r_goto hJ (tgt := 39) dX4_set_35 (by decide) ?_
      exact tail

set_option maxRecDepth 100000 in
set_option maxHeartbeats 1000000 in
theorem t4_set_s (l : Launch) (hst : l.stackTraces = false) (E : jE) (S : jS) (K : Nat → Nat) (y : Int64 × Nat) {v : Int32} (hv1 : ¬ v < lsS 3) (hv2 : v ≤ msS 3) {m : Nat} (hm : m ≤ 64) (hvm : v = nI m) (hf : (fnd (fun n => !frP (S 0) n) (64 - m) m).isNone = false) : CtT l E yX4_set cX4_set 4 (some .int) 7 [.ref (ad E 11 0), .int (nI 3), .int v] (S, (K, y)) "java/lang/IllegalStateException" (nxt (S, (K, y))) := by
  refine CtT.of hst (by decide +kernel) (Nat.le_of_ble_eq_true rfl) rfl (fun J hJ hF => ?_)
  subst hvm
  have hq : (3 : Nat) < 4 := by decide
  refine r_iload_n hJ dX4_set_0 rfl jg1 ?_
  refine r_S1u hJ kX4_92 (c4_needSetting l E S (K, y) (nI 3) (nI_pos (by omega)) (nI_lt (by omega) (by decide))) dX4_set_1 ⟨by decide, by decide⟩ (Nat.le_of_ble_eq_true rfl) ?_
  refine r_iload_n hJ dX4_set_4 rfl jg2 ?_
  refine r_getsL hJ m395 dX4_set_5 ?_
  refine r_iload_n hJ dX4_set_8 rfl jg1 ?_
  refine r_tabL hJ rfl hq dX4_set_9 ?_
  refine r_getsM hJ m397 dX4_set_10 ?_
  refine r_iload_n hJ dX4_set_13 rfl jg1 ?_
  refine r_tabM hJ rfl hq dX4_set_14 ?_
  refine r_S3u hJ kX4_44 (c4_needRange l E S (K, y) (nI m) (lsS 3) (msS 3) hv1 hv2) dX4_set_15 ⟨by decide, by decide⟩ (Nat.le_of_ble_eq_true rfl) ?_
  refine r_iload_n hJ dX4_set_18 rfl jg1 ?_
  refine r_iconst hJ (v := nI 3) dX4_set_19 (by decide) ?_
  refine r_icmp_ne hJ (tgt := 34) dX4_set_20 (by decide) (fun c20 => ?_) (fun c20 => ?_)
  · rw [nI_eq (by omega) (by decide)] at c20
    exact absurd rfl c20
  · refine r_aload_n hJ dX4_set_23 rfl jg0 ?_
    refine r_g4_0 hJ m146 dX4_set_24 ?_
    refine r_iload_n hJ dX4_set_27 rfl jg2 ?_
    refine r_V1v hJ kX4_101 (rcv2 E (by decide)) (g2_fitsIn l E S (K, y) (o := 0) (by decide) hm) dX4_set_28 ⟨by decide, by decide⟩ (Nat.le_of_ble_eq_true rfl) ?_
    rw [hf]
    refine r_if_eq hJ (tgt := 38) dX4_set_31 (by decide) (fun c31 => ?_) (fun c31 => ?_)
    · refine r_iconst hJ (v := bI false) dX4_set_38 (by decide) ?_
      exact thrS1 hF kX4_52 (t4_needState l hst E S (K, y)) dX4_set_39 ⟨by decide, by decide⟩ (Nat.le_of_ble_eq_true rfl)
    · exact absurd rfl c31

set_option maxRecDepth 100000 in
set_option maxHeartbeats 1000000 in
theorem t4_set_q (l : Launch) (hst : l.stackTraces = false) (E : jE) (S : jS) (K : Nat → Nat) (y : Int64 × Nat) {q v : Int32} (h0 : q < 0 ∨ ¬ q < nI 4) : CtT l E yX4_set cX4_set 4 (some .int) 7 [.ref (ad E 11 0), .int q, .int v] (S, (K, y)) "java/lang/IndexOutOfBoundsException" (nxt (S, (K, y))) := by
  refine CtT.of hst (by decide +kernel) (Nat.le_of_ble_eq_true rfl) rfl (fun J hJ hF => ?_)
  refine r_iload_n hJ dX4_set_0 rfl jg1 ?_
  exact thrS1 hF kX4_92 (t4_needSetting l hst E S (K, y) q h0) dX4_set_1 ⟨by decide, by decide⟩ (Nat.le_of_ble_eq_true rfl)

set_option maxRecDepth 100000 in
set_option maxHeartbeats 1000000 in
theorem t4_set_v (l : Launch) (hst : l.stackTraces = false) (E : jE) (S : jS) (K : Nat → Nat) (y : Int64 × Nat) {q : Nat} (hq : q < 4) {v : Int32} (h0 : v < lsS q ∨ ¬ v ≤ msS q) : CtT l E yX4_set cX4_set 4 (some .int) 7 [.ref (ad E 11 0), .int (nI q), .int v] (S, (K, y)) "java/lang/IllegalArgumentException" (nxt (S, (K, y))) := by
  refine CtT.of hst (by decide +kernel) (Nat.le_of_ble_eq_true rfl) rfl (fun J hJ hF => ?_)
  refine r_iload_n hJ dX4_set_0 rfl jg1 ?_
  refine r_S1u hJ kX4_92 (c4_needSetting l E S (K, y) (nI q) (nI_pos (by omega)) (nI_lt (by omega) (by decide))) dX4_set_1 ⟨by decide, by decide⟩ (Nat.le_of_ble_eq_true rfl) ?_
  refine r_iload_n hJ dX4_set_4 rfl jg2 ?_
  refine r_getsL hJ m395 dX4_set_5 ?_
  refine r_iload_n hJ dX4_set_8 rfl jg1 ?_
  refine r_tabL hJ rfl hq dX4_set_9 ?_
  refine r_getsM hJ m397 dX4_set_10 ?_
  refine r_iload_n hJ dX4_set_13 rfl jg1 ?_
  refine r_tabM hJ rfl hq dX4_set_14 ?_
  exact thrS3 hF kX4_44 (t4_needRange l hst E S (K, y) v (lsS q) (msS q) h0) dX4_set_15 ⟨by decide, by decide⟩ (Nat.le_of_ble_eq_true rfl)

set_option maxRecDepth 100000 in
set_option maxHeartbeats 1000000 in
theorem c4_undo (l : Launch) (E : jE) (S : jS) (K : Nat → Nat) (y : Int64 × Nat) (hK : KI K) {m : Nat} (hm6 : m ≤ 6) (hV : S 9 0 0 = nI m) (hm : 0 < m) : Ct l E yX4_undo cX4_undo 1 (some .int) 7 [.ref (ad E 11 0)] (S, (K, y)) (some (.int (nI (m - 1)))) (setO (setO S 9 (put (S 9) 0 0 (S 9 0 0 - nI 1))) 0 (S (K (m - 1))), (K, y)) := by
  refine Ct.of (by decide +kernel) (Nat.le_refl _) (Nat.le_of_ble_eq_true rfl) rfl (fun J hJ hF => ?_)
  have hrs := c3_restore l E S K y (S 9) hK hV hm hm6
  rw [setO_self] at hrs
  refine r_aload_n hJ dX4_undo_0 rfl jg0 ?_
  refine r_g4_2 hJ m148 dX4_undo_1 ?_
  refine r_g3_1 hJ m116 dX4_undo_4 ?_
  refine r_if_le hJ (tgt := 14) dX4_undo_7 (by decide) (fun c7 => ?_) (fun c7 => ?_)
  · rw [hV] at c7
    exact absurd c7 (nI_nle hm (by omega))
  · refine r_iconst hJ (v := bI true) dX4_undo_10 (by decide) ?_
    refine r_goto hJ (tgt := 15) dX4_undo_11 (by decide) ?_
    refine r_S1u hJ kX4_52 (c4_needState l E S (K, y)) dX4_undo_15 ⟨by decide, by decide⟩ (Nat.le_of_ble_eq_true rfl) ?_
    refine r_aload_n hJ dX4_undo_18 rfl jg0 ?_
    refine r_g4_2 hJ m148 dX4_undo_19 ?_
    refine r_aload_n hJ dX4_undo_22 rfl jg0 ?_
    refine r_g4_0 hJ m146 dX4_undo_23 ?_
    refine r_V1u hJ kX4_136 (rcv3 E) (hrs) dX4_undo_26 ⟨by decide, by decide⟩ (Nat.le_of_ble_eq_true rfl) ?_
    refine r_aload_n hJ dX4_undo_29 rfl jg0 ?_
    refine r_g4_2 hJ m148 dX4_undo_30 ?_
    refine r_g3_1 hJ m116 dX4_undo_33 ?_
    exact ret_i hF dX4_undo_36 (by rw [setO_ne (by decide), setO_at, put_app, if_pos (by decide), hV]; exact congrArg (fun q => some (Value.int q)) (pk_sub (by omega)).symm) rfl

set_option maxRecDepth 100000 in
set_option maxHeartbeats 1000000 in
theorem t4_undo (l : Launch) (hst : l.stackTraces = false) (E : jE) (S : jS) (K : Nat → Nat) (y : Int64 × Nat) (hV : S 9 0 0 = nI 0) : CtT l E yX4_undo cX4_undo 1 (some .int) 7 [.ref (ad E 11 0)] (S, (K, y)) "java/lang/IllegalStateException" (nxt (S, (K, y))) := by
  refine CtT.of hst (by decide +kernel) (Nat.le_of_ble_eq_true rfl) rfl (fun J hJ hF => ?_)
  refine r_aload_n hJ dX4_undo_0 rfl jg0 ?_
  refine r_g4_2 hJ m148 dX4_undo_1 ?_
  refine r_g3_1 hJ m116 dX4_undo_4 ?_
  refine r_if_le hJ (tgt := 14) dX4_undo_7 (by decide) (fun c7 => ?_) (fun c7 => ?_)
  · refine r_iconst hJ (v := bI false) dX4_undo_14 (by decide) ?_
    exact thrS1 hF kX4_52 (t4_needState l hst E S (K, y)) dX4_undo_15 ⟨by decide, by decide⟩ (Nat.le_of_ble_eq_true rfl)
  · rw [hV] at c7
    exact absurd (by decide) c7

set_option maxRecDepth 100000 in
set_option maxHeartbeats 1000000 in
theorem c4_number (l : Launch) (E : jE) (S : jS) (K : Nat → Nat) (y : Int64 × Nat) {n : Nat} (hn : n < 64) (hok : okN S (nI n) = true) {q : Nat} (hq : q ≤ 8) : Ct l E yX4_number cX4_number 3 (some .int) 7 [.ref (ad E 11 0), .int (nI n), .int (nI q)] (S, (K, y)) (some (.int (ofN (S 0) n q))) (S, (K, y)) := by
  refine Ct.of (by decide +kernel) (Nat.le_refl _) (Nat.le_of_ble_eq_true rfl) rfl (fun J hJ hF => ?_)
  refine r_aload_n hJ dX4_number_0 rfl jg0 ?_
  refine r_iload_n hJ dX4_number_1 rfl jg1 ?_
  refine r_V1u hJ kX4_41 (rcv4 E) (c4_needNumber l E S (K, y) (nI n) hok) dX4_number_2 ⟨by decide, by decide⟩ (Nat.le_of_ble_eq_true rfl) ?_
  refine r_iload_n hJ dX4_number_5 rfl jg2 ?_
  refine r_iconst hJ (v := nI 0) dX4_number_6 (by decide) ?_
  refine r_bipush hJ (v := nI 8) dX4_number_7 (by decide) ?_
  refine r_S3u hJ kX4_44 (c4_needRange l E S (K, y) (nI q) (nI 0) (nI 8) (nI_nlt (by omega) (by omega)) (nI_le (by omega) (by omega))) dX4_number_9 ⟨by decide, by decide⟩ (Nat.le_of_ble_eq_true rfl) ?_
  refine r_aload_n hJ dX4_number_12 rfl jg0 ?_
  refine r_g4_0 hJ m146 dX4_number_13 ?_
  refine r_iload_n hJ dX4_number_16 rfl jg1 ?_
  refine r_iload_n hJ dX4_number_17 rfl jg2 ?_
  refine r_V2v hJ kX4_139 (rcv2 E (by decide)) (g2_ofNumber l E S (K, y) (o := 0) (by decide) hn hq) dX4_number_18 ⟨by decide, by decide⟩ (Nat.le_of_ble_eq_true rfl) ?_
  exact ret_i hF dX4_number_21 rfl rfl

set_option maxRecDepth 100000 in
set_option maxHeartbeats 1000000 in
theorem t4_number_n (l : Launch) (hst : l.stackTraces = false) (E : jE) (S : jS) (K : Nat → Nat) (y : Int64 × Nat) {n q : Int32} (h0 : okN S n = false) : CtT l E yX4_number cX4_number 3 (some .int) 7 [.ref (ad E 11 0), .int n, .int q] (S, (K, y)) "java/lang/IndexOutOfBoundsException" (nxt (S, (K, y))) := by
  refine CtT.of hst (by decide +kernel) (Nat.le_of_ble_eq_true rfl) rfl (fun J hJ hF => ?_)
  refine r_aload_n hJ dX4_number_0 rfl jg0 ?_
  refine r_iload_n hJ dX4_number_1 rfl jg1 ?_
  exact thrV1 hF kX4_41 (rcv4 E) (t4_needNumber l hst E S (K, y) n h0) dX4_number_2 ⟨by decide, by decide⟩ (Nat.le_of_ble_eq_true rfl)

set_option maxRecDepth 100000 in
set_option maxHeartbeats 1000000 in
theorem t4_number_q (l : Launch) (hst : l.stackTraces = false) (E : jE) (S : jS) (K : Nat → Nat) (y : Int64 × Nat) {n : Nat} (hok : okN S (nI n) = true) {q : Int32} (h0 : q < nI 0 ∨ ¬ q ≤ nI 8) : CtT l E yX4_number cX4_number 3 (some .int) 7 [.ref (ad E 11 0), .int (nI n), .int q] (S, (K, y)) "java/lang/IllegalArgumentException" (nxt (S, (K, y))) := by
  refine CtT.of hst (by decide +kernel) (Nat.le_of_ble_eq_true rfl) rfl (fun J hJ hF => ?_)
  refine r_aload_n hJ dX4_number_0 rfl jg0 ?_
  refine r_iload_n hJ dX4_number_1 rfl jg1 ?_
  refine r_V1u hJ kX4_41 (rcv4 E) (c4_needNumber l E S (K, y) (nI n) hok) dX4_number_2 ⟨by decide, by decide⟩ (Nat.le_of_ble_eq_true rfl) ?_
  refine r_iload_n hJ dX4_number_5 rfl jg2 ?_
  refine r_iconst hJ (v := nI 0) dX4_number_6 (by decide) ?_
  refine r_bipush hJ (v := nI 8) dX4_number_7 (by decide) ?_
  exact thrS3 hF kX4_44 (t4_needRange l hst E S (K, y) q (nI 0) (nI 8) h0) dX4_number_9 ⟨by decide, by decide⟩ (Nat.le_of_ble_eq_true rfl)

set_option maxRecDepth 100000 in
set_option maxHeartbeats 1000000 in
theorem c4_holder (l : Launch) (E : jE) (S : jS) (K : Nat → Nat) (y : Int64 × Nat) {h : Nat} (hh : h < 8) (hP : PI (S 0)) {q : Nat} (hq : q ≤ 7) : Ct l E yX4_holder cX4_holder 3 (some .int) 7 [.ref (ad E 11 0), .int (nI h), .int (nI q)] (S, (K, y)) (some (.int (ofH (S 0) h q))) (S, (K, y)) := by
  refine Ct.of (by decide +kernel) (Nat.le_refl _) (Nat.le_of_ble_eq_true rfl) rfl (fun J hJ hF => ?_)
  refine r_iload_n hJ dX4_holder_0 rfl jg1 ?_
  refine r_S1u hJ kX4_37 (c4_needHolder l E S (K, y) (nI h) (nI_pos (by omega)) (nI_lt (by omega) (by decide))) dX4_holder_1 ⟨by decide, by decide⟩ (Nat.le_of_ble_eq_true rfl) ?_
  refine r_iload_n hJ dX4_holder_4 rfl jg2 ?_
  refine r_iconst hJ (v := nI 0) dX4_holder_5 (by decide) ?_
  refine r_bipush hJ (v := nI 7) dX4_holder_6 (by decide) ?_
  refine r_S3u hJ kX4_44 (c4_needRange l E S (K, y) (nI q) (nI 0) (nI 7) (nI_nlt (by omega) (by omega)) (nI_le (by omega) (by omega))) dX4_holder_8 ⟨by decide, by decide⟩ (Nat.le_of_ble_eq_true rfl) ?_
  refine r_aload_n hJ dX4_holder_11 rfl jg0 ?_
  refine r_g4_0 hJ m146 dX4_holder_12 ?_
  refine r_iload_n hJ dX4_holder_15 rfl jg1 ?_
  refine r_iload_n hJ dX4_holder_16 rfl jg2 ?_
  refine r_V2v hJ kX4_142 (rcv2 E (by decide)) (g2_ofHolder l E S (K, y) (o := 0) (by decide) hP hh hq) dX4_holder_17 ⟨by decide, by decide⟩ (Nat.le_of_ble_eq_true rfl) ?_
  exact ret_i hF dX4_holder_20 rfl rfl

set_option maxRecDepth 100000 in
set_option maxHeartbeats 1000000 in
theorem t4_holder_h (l : Launch) (hst : l.stackTraces = false) (E : jE) (S : jS) (K : Nat → Nat) (y : Int64 × Nat) {h q : Int32} (h0 : h < 0 ∨ ¬ h < nI 8) : CtT l E yX4_holder cX4_holder 3 (some .int) 7 [.ref (ad E 11 0), .int h, .int q] (S, (K, y)) "java/lang/IndexOutOfBoundsException" (nxt (S, (K, y))) := by
  refine CtT.of hst (by decide +kernel) (Nat.le_of_ble_eq_true rfl) rfl (fun J hJ hF => ?_)
  refine r_iload_n hJ dX4_holder_0 rfl jg1 ?_
  exact thrS1 hF kX4_37 (t4_needHolder l hst E S (K, y) h h0) dX4_holder_1 ⟨by decide, by decide⟩ (Nat.le_of_ble_eq_true rfl)

set_option maxRecDepth 100000 in
set_option maxHeartbeats 1000000 in
theorem t4_holder_q (l : Launch) (hst : l.stackTraces = false) (E : jE) (S : jS) (K : Nat → Nat) (y : Int64 × Nat) {h : Nat} (hh : h < 8) {q : Int32} (h0 : q < nI 0 ∨ ¬ q ≤ nI 7) : CtT l E yX4_holder cX4_holder 3 (some .int) 7 [.ref (ad E 11 0), .int (nI h), .int q] (S, (K, y)) "java/lang/IllegalArgumentException" (nxt (S, (K, y))) := by
  refine CtT.of hst (by decide +kernel) (Nat.le_of_ble_eq_true rfl) rfl (fun J hJ hF => ?_)
  refine r_iload_n hJ dX4_holder_0 rfl jg1 ?_
  refine r_S1u hJ kX4_37 (c4_needHolder l E S (K, y) (nI h) (nI_pos (by omega)) (nI_lt (by omega) (by decide))) dX4_holder_1 ⟨by decide, by decide⟩ (Nat.le_of_ble_eq_true rfl) ?_
  refine r_iload_n hJ dX4_holder_4 rfl jg2 ?_
  refine r_iconst hJ (v := nI 0) dX4_holder_5 (by decide) ?_
  refine r_bipush hJ (v := nI 7) dX4_holder_6 (by decide) ?_
  exact thrS3 hF kX4_44 (t4_needRange l hst E S (K, y) q (nI 0) (nI 7) h0) dX4_holder_8 ⟨by decide, by decide⟩ (Nat.le_of_ble_eq_true rfl)

set_option maxRecDepth 100000 in
set_option maxHeartbeats 1000000 in
theorem c4_span (l : Launch) (E : jE) (S : jS) (K : Nat → Nat) (y : Int64 × Nat) {z : Nat} (hz : S 0 1 3 = nI z) (hz4 : z ≤ 64) {s w : Int32} (hs : 0 ≤ s) (hw1 : ¬ w < nI 0) (hw2 : w ≤ nI 1) : Ct l E yX4_span cX4_span 3 (some .int) 7 [.ref (ad E 11 0), .int s, .int w] (S, (K, y)) (some (.int (ofSp (S 0) z s w))) (S, (K, y)) := by
  refine Ct.of (by decide +kernel) (Nat.le_refl _) (Nat.le_of_ble_eq_true rfl) rfl (fun J hJ hF => ?_)
  refine r_iload_n hJ dX4_span_0 rfl jg1 ?_
  refine r_if_ge hJ (tgt := 12) dX4_span_1 (by decide) (fun c1 => ?_) (fun c1 => ?_)
  · refine r_iload_n hJ dX4_span_12 rfl jg2 ?_
    refine r_iconst hJ (v := nI 0) dX4_span_13 (by decide) ?_
    refine r_iconst hJ (v := nI 1) dX4_span_14 (by decide) ?_
    refine r_S3u hJ kX4_44 (c4_needRange l E S (K, y) (w) (nI 0) (nI 1) hw1 hw2) dX4_span_15 ⟨by decide, by decide⟩ (Nat.le_of_ble_eq_true rfl) ?_
    refine r_aload_n hJ dX4_span_18 rfl jg0 ?_
    refine r_g4_0 hJ m146 dX4_span_19 ?_
    refine r_iload_n hJ dX4_span_22 rfl jg1 ?_
    refine r_iload_n hJ dX4_span_23 rfl jg2 ?_
    refine r_V2v hJ kX4_145 (rcv2 E (by decide)) (g2_ofSpan l E S (K, y) (o := 0) (by decide) hz hz4 s w) dX4_span_24 ⟨by decide, by decide⟩ (Nat.le_of_ble_eq_true rfl) ?_
    exact ret_i hF dX4_span_27 rfl rfl
  · exact absurd hs c1

set_option maxRecDepth 100000 in
set_option maxHeartbeats 1000000 in
theorem t4_span_s (l : Launch) (hst : l.stackTraces = false) (E : jE) (S : jS) (K : Nat → Nat) (y : Int64 × Nat) {s w : Int32} (hs : ¬ 0 ≤ s) : CtT l E yX4_span cX4_span 3 (some .int) 7 [.ref (ad E 11 0), .int s, .int w] (S, (K, y)) "java/lang/IllegalArgumentException" (nxt (S, (K, y))) := by
  refine CtT.of hst (by decide +kernel) (Nat.le_of_ble_eq_true rfl) rfl (fun J hJ hF => ?_)
  refine r_iload_n hJ dX4_span_0 rfl jg1 ?_
  refine r_if_ge hJ (tgt := 12) dX4_span_1 (by decide) (fun c1 => ?_) (fun c1 => ?_)
  · exact absurd c1 hs
  · exact hF.1 _ _ _ _ _ _ rfl thr_arg dX4_span_4 dX4_span_7 dX4_span_8 dX4_span_11 (by decide) (Nat.le_of_ble_eq_true rfl)

set_option maxRecDepth 100000 in
set_option maxHeartbeats 1000000 in
theorem t4_span_w (l : Launch) (hst : l.stackTraces = false) (E : jE) (S : jS) (K : Nat → Nat) (y : Int64 × Nat) {s w : Int32} (hs : 0 ≤ s) (h0 : w < nI 0 ∨ ¬ w ≤ nI 1) : CtT l E yX4_span cX4_span 3 (some .int) 7 [.ref (ad E 11 0), .int s, .int w] (S, (K, y)) "java/lang/IllegalArgumentException" (nxt (S, (K, y))) := by
  refine CtT.of hst (by decide +kernel) (Nat.le_of_ble_eq_true rfl) rfl (fun J hJ hF => ?_)
  refine r_iload_n hJ dX4_span_0 rfl jg1 ?_
  refine r_if_ge hJ (tgt := 12) dX4_span_1 (by decide) (fun c1 => ?_) (fun c1 => ?_)
  · refine r_iload_n hJ dX4_span_12 rfl jg2 ?_
    refine r_iconst hJ (v := nI 0) dX4_span_13 (by decide) ?_
    refine r_iconst hJ (v := nI 1) dX4_span_14 (by decide) ?_
    exact thrS3 hF kX4_44 (t4_needRange l hst E S (K, y) w (nI 0) (nI 1) h0) dX4_span_15 ⟨by decide, by decide⟩ (Nat.le_of_ble_eq_true rfl)
  · exact absurd hs c1

def cntA (S : jS) (z q : Nat) : Int32 := if q = 12 then S 9 0 0 else ofA (S 0) z q
set_option maxRecDepth 100000 in
set_option maxHeartbeats 1000000 in
theorem c4_countOf (l : Launch) (E : jE) (S : jS) (x : jX) {z : Nat} (hz : S 0 1 3 = nI z) (hz4 : z ≤ 64) {q : Nat} (hq : q ≤ 12) : Ct l E yX4_countOf cX4_countOf 2 (some .int) 6 [.ref (ad E 11 0), .int (nI q)] (S, x) (some (.int (cntA S z q))) (S, x) := by
  refine Ct.of (by decide +kernel) (Nat.le_refl _) (Nat.le_of_ble_eq_true rfl) rfl (fun J hJ hF => ?_)
  refine r_iload_n hJ dX4_countOf_0 rfl jg1 ?_
  refine r_bipush hJ (v := nI 12) dX4_countOf_1 (by decide) ?_
  refine r_icmp_ne hJ (tgt := 16) dX4_countOf_3 (by decide) (fun c3 => ?_) (fun c3 => ?_)
  · rw [nI_eq (by omega) (by decide)] at c3
    refine r_aload_n hJ dX4_countOf_16 rfl jg0 ?_
    refine r_g4_0 hJ m146 dX4_countOf_17 ?_
    refine r_iload_n hJ dX4_countOf_20 rfl jg1 ?_
    refine r_V1v hJ kX4_221 (rcv2 E (by decide)) (g2_ofAll l E S x (o := 0) (by decide) hz hz4 (q := q) (by omega)) dX4_countOf_21 ⟨by decide, by decide⟩ (Nat.le_of_ble_eq_true rfl) ?_
    exact ret_i hF dX4_countOf_24 (by unfold cntA; rw [if_neg c3]) rfl
  · rw [nI_eq (by omega) (by decide)] at c3
    refine r_aload_n hJ dX4_countOf_6 rfl jg0 ?_
    refine r_g4_2 hJ m148 dX4_countOf_7 ?_
    refine r_g3_1 hJ m116 dX4_countOf_10 ?_
    refine r_goto hJ (tgt := 24) dX4_countOf_13 (by decide) ?_
    exact ret_i hF dX4_countOf_24 (by unfold cntA; rw [if_pos c3]) rfl

set_option maxRecDepth 100000 in
set_option maxHeartbeats 1000000 in
theorem c4_count (l : Launch) (E : jE) (S : jS) (K : Nat → Nat) (y : Int64 × Nat) {z : Nat} (hz : S 0 1 3 = nI z) (hz4 : z ≤ 64) {q : Nat} (hq : q ≤ 12) : Ct l E yX4_count cX4_count 2 (some .int) 7 [.ref (ad E 11 0), .int (nI q)] (S, (K, y)) (some (.int (cntA S z q))) (S, (K, y)) := by
  refine Ct.of (by decide +kernel) (Nat.le_refl _) (Nat.le_of_ble_eq_true rfl) rfl (fun J hJ hF => ?_)
  refine r_iload_n hJ dX4_count_0 rfl jg1 ?_
  refine r_iconst hJ (v := nI 0) dX4_count_1 (by decide) ?_
  refine r_bipush hJ (v := nI 12) dX4_count_2 (by decide) ?_
  refine r_S3u hJ kX4_44 (c4_needRange l E S (K, y) (nI q) (nI 0) (nI 12) (nI_nlt (by omega) (by omega)) (nI_le (by omega) (by omega))) dX4_count_4 ⟨by decide, by decide⟩ (Nat.le_of_ble_eq_true rfl) ?_
  refine r_aload_n hJ dX4_count_7 rfl jg0 ?_
  refine r_iload_n hJ dX4_count_8 rfl jg1 ?_
  refine r_V1v hJ kX4_148 (rcv4 E) (c4_countOf l E S (K, y) hz hz4 hq) dX4_count_9 ⟨by decide, by decide⟩ (Nat.le_of_ble_eq_true rfl) ?_
  exact ret_i hF dX4_count_12 rfl rfl

set_option maxRecDepth 100000 in
set_option maxHeartbeats 1000000 in
theorem t4_count_q (l : Launch) (hst : l.stackTraces = false) (E : jE) (S : jS) (K : Nat → Nat) (y : Int64 × Nat) {q : Int32} (h0 : q < nI 0 ∨ ¬ q ≤ nI 12) : CtT l E yX4_count cX4_count 2 (some .int) 7 [.ref (ad E 11 0), .int q] (S, (K, y)) "java/lang/IllegalArgumentException" (nxt (S, (K, y))) := by
  refine CtT.of hst (by decide +kernel) (Nat.le_of_ble_eq_true rfl) rfl (fun J hJ hF => ?_)
  refine r_iload_n hJ dX4_count_0 rfl jg1 ?_
  refine r_iconst hJ (v := nI 0) dX4_count_1 (by decide) ?_
  refine r_bipush hJ (v := nI 12) dX4_count_2 (by decide) ?_
  exact thrS3 hF kX4_44 (t4_needRange l hst E S (K, y) q (nI 0) (nI 12) h0) dX4_count_4 ⟨by decide, by decide⟩ (Nat.le_of_ble_eq_true rfl)

set_option maxRecDepth 100000 in
set_option maxHeartbeats 1000000 in
theorem c4_setting (l : Launch) (E : jE) (S : jS) (K : Nat → Nat) (y : Int64 × Nat) {q : Nat} (hq : q < 4) : Ct l E yX4_setting cX4_setting 2 (some .int) 7 [.ref (ad E 11 0), .int (nI q)] (S, (K, y)) (some (.int (S 0 1 q))) (S, (K, y)) := by
  refine Ct.of (by decide +kernel) (Nat.le_refl _) (Nat.le_of_ble_eq_true rfl) rfl (fun J hJ hF => ?_)
  refine r_iload_n hJ dX4_setting_0 rfl jg1 ?_
  refine r_S1u hJ kX4_92 (c4_needSetting l E S (K, y) (nI q) (nI_pos (by omega)) (nI_lt (by omega) (by decide))) dX4_setting_1 ⟨by decide, by decide⟩ (Nat.le_of_ble_eq_true rfl) ?_
  refine r_aload_n hJ dX4_setting_4 rfl jg0 ?_
  refine r_g4_0 hJ m146 dX4_setting_5 ?_
  refine r_g2_4 hJ (by decide) m57 dX4_setting_8 ?_
  refine r_iload_n hJ dX4_setting_11 rfl jg1 ?_
  refine r_iald hJ (by omega) (alP1 (by decide) hq) rfl dX4_setting_12 ?_
  exact ret_i hF dX4_setting_13 rfl rfl

set_option maxRecDepth 100000 in
set_option maxHeartbeats 1000000 in
theorem t4_setting_q (l : Launch) (hst : l.stackTraces = false) (E : jE) (S : jS) (K : Nat → Nat) (y : Int64 × Nat) {q : Int32} (h0 : q < 0 ∨ ¬ q < nI 4) : CtT l E yX4_setting cX4_setting 2 (some .int) 7 [.ref (ad E 11 0), .int q] (S, (K, y)) "java/lang/IndexOutOfBoundsException" (nxt (S, (K, y))) := by
  refine CtT.of hst (by decide +kernel) (Nat.le_of_ble_eq_true rfl) rfl (fun J hJ hF => ?_)
  refine r_iload_n hJ dX4_setting_0 rfl jg1 ?_
  exact thrS1 hF kX4_92 (t4_needSetting l hst E S (K, y) q h0) dX4_setting_1 ⟨by decide, by decide⟩ (Nat.le_of_ble_eq_true rfl)
end
section
/-! the settings stay -/
theorem r1_drop (P : jO) (n k : Nat) : dropP P n k 1 = P 1 := by
  unfold dropP
  rw [put_ne (by decide), shiftP_ne _ _ _ _ _ (by decide) (by decide)]
theorem r1_serveS (P : jO) (n : Nat) : serveS P n 1 = P 1 := by
  unfold serveS
  show (if nI (hasP (dropP P n 0) (P 8 (n * 3))) < dropP P n 0 1 1 then leaseP (dropP P n 0) (toN (P 8 (n * 3))) n (P 9 (n * 3)) else put (dropP P n 0) 11 (toN (P 8 (n * 3))) ((dropP P n 0) 11 (toN (P 8 (n * 3))) + nI 1)) 1 = P 1
  split
  · rw [row_app, r1_drop]
  · rw [put_ne (by decide), r1_drop]
theorem r1_serve (n : Nat) : ∀ (k : Nat) (P : jO), serve n k P 1 = P 1
  | 0, _ => rfl
  | k + 1, P => by
    rw [serve]
    split
    · rw [r1_serve n k, r1_serveS]
    · rfl
theorem r1_free (P : jO) (n : Nat) : freeP P n 1 = P 1 := by
  unfold freeP
  rw [r1_serve, put_ne (by decide), put_ne (by decide)]
theorem r1_dueN : ∀ (k n : Nat) (P : jO), dueN k n P 1 = P 1
  | 0, _, _ => rfl
  | k + 1, n, P => by
    rw [dueN, r1_dueN k]
    split
    · rw [r1_free]
    · rfl
theorem r1_unitsN : ∀ (k n : Nat) (P : jO), unitsN k n P 1 = P 1
  | 0, _, _ => rfl
  | k + 1, n, P => by
    rw [unitsN, r1_unitsN k]
    split
    · rw [put_ne (by decide)]
    · rfl
theorem r1_tick (P : jO) : tickP P 1 = P 1 := by
  unfold tickP
  rw [r1_dueN, put_ne (by decide), r1_unitsN]
theorem r1_passN : ∀ (k : Nat) (P : jO), passN k P 1 = P 1
  | 0, _ => rfl
  | k + 1, P => by rw [passN, r1_passN k, r1_tick]
theorem r1_leap (P : jO) (u : Int32) : leapP P u 1 = P 1 := by
  unfold leapP
  split
  · rfl
  · rw [r1_dueN, put_ne (by decide)]
theorem r1_leaseN (h : Nat) (t : Int32) : ∀ (k n : Nat) (P : jO), leaseN h t k n P 1 = P 1
  | 0, _, _ => rfl
  | k + 1, n, P => by rw [leaseN, r1_leaseN h t k, row_app]
theorem r1_leaseRow (P : jO) (z h m : Nat) (t : Int32) : leaseRowP P z h m t 1 = P 1 := by
  unfold leaseRowP
  cases lowR P z (nI m) with
  | none => rfl
  | some f => exact r1_leaseN _ _ _ _ _
theorem r1_spanN (h : Int32) : ∀ (k n : Nat) (s : jO × Nat), (spanN h k n s).1 1 = s.1 1
  | 0, _, _ => rfl
  | k + 1, n, s => by
    rw [spanN, r1_spanN h k]
    split
    · exact r1_free _ _
    · rfl
theorem r1_addW (P : jO) (h n : Nat) (t : Int32) : addW P h n t 1 = P 1 := by
  unfold addW
  split
  · rw [row_app]
  · split
    · simp only
      rw [put_ne (by decide), put_ne (by decide), put_ne (by decide)]
    · rfl
theorem PI_leaseRow {P : jO} {z h m : Nat} {t : Int32} (hh : h < 8) (hP : PI P) : PI (leaseRowP P z h m t) := by
  unfold leaseRowP
  split
  · exact hP
  · exact PI_leaseN hh _ _ _ hP
/-! what would be -/
def freesP (P : jO) (z : Nat) : Nat := cnt (fun n => decide (stg P n = nI 0)) z
def leapN (u : Int32) : Nat → jO → jO
  | 0, P => P
  | k + 1, P => if u < leapV P u then P else leapN u k (leapP P u)
def freeL (z : Nat) (m u t0 : Int32) : Nat → jO → Int32 × jO
  | 0, P => (-1, P)
  | k + 1, P => if u < leapV P u then (-1, P) else if nI (freesP (leapP P u) z) < m then freeL z m u t0 k (leapP P u) else (leapP P u 0 0 - t0, leapP P u)
def wishL (h : Int32) (n : Nat) (u t0 : Int32) : Nat → jO → Int32 × jO
  | 0, P => (-1, P)
  | k + 1, P => if u < leapV P u then (-1, P) else if leapP P u 2 n = h then (leapP P u 0 0 - t0, leapP P u) else wishL h n u t0 k (leapP P u)
end
section
set_option maxRecDepth 100000 in
set_option maxHeartbeats 1000000 in
theorem c4_holderAfter (l : Launch) (E : jE) (S : jS) (x : jX) (hP : PI (S 0)) {n : Nat} (hn : n < 64) {b : Nat} (hb : b < 2 ^ 30) : Ct l E yX4_holderAfter cX4_holderAfter 6 (some .int) 6 [.ref (ad E 11 0), .int (nI n), .int (nI b)] (S, x) (some (.int (leapN (S 0 0 0 + nI b) b (S 0) 2 n))) (setO S 1 (leapN (S 0 0 0 + nI b) b (S 0)), x) := by
  refine Ct.of (by decide +kernel) (Nat.le_refl _) (Nat.le_of_ble_eq_true rfl) rfl (fun J hJ hF => ?_)
  obtain ⟨u, hu⟩ : ∃ u, S 0 0 0 + nI b = u := ⟨_, rfl⟩
  obtain ⟨F, hFF⟩ : ∃ F, leapN u b (S 0) = F := ⟨_, rfl⟩
  rw [hu, hFF] at hF
  have fin : ∀ v4 v5 : Option Value, J (setO S 1 F, x) 54 [some (.ref (ad E 11 0)), some (.int (nI n)), some (.int (nI b)), some (.int u), v4, v5] [] := by
    intro v4 v5
    refine r_aload_n hJ dX4_holderAfter_54 rfl jg0 ?_
    refine r_g4_1 hJ m147 dX4_holderAfter_55 ?_
    refine r_g2_5 hJ (by decide) m59 dX4_holderAfter_58 ?_
    refine r_iload_n hJ dX4_holderAfter_61 rfl jg1 ?_
    refine r_ialdO hJ (by omega) (alP2 (by decide) (by omega)) rfl dX4_holderAfter_62 ?_
    exact ret_i hF dX4_holderAfter_63 rfl rfl
  have loop : ∀ (k i : Nat) (P' : jO) (mo : Int32), i + k = b → PI P' → ((mo = nI 1 ∧ leapN u k P' = F) ∨ (mo = nI 0 ∧ P' = F)) → J (setO S 1 P', x) 27 [some (.ref (ad E 11 0)), some (.int (nI n)), some (.int (nI b)), some (.int u), some (.int mo), some (.int (nI i))] [] := by
    intro k
    induction k with
    | zero =>
      intro i P' mo hi hP' hmo
      obtain rfl : i = b := by omega
      refine r_iload hJ dX4_holderAfter_27 jg5 ?_
      refine r_iload_n hJ dX4_holderAfter_29 rfl jg2 ?_
      refine r_icmp_ge hJ (tgt := 54) dX4_holderAfter_30 (by decide) (fun c30 => ?_) (fun c30 => ?_)
      · have hF2 : P' = F := hmo.elim (fun q => q.2) (fun q => q.2)
        rw [hF2]
        exact fin _ _
      · exact absurd (nI_le (by omega) (by omega)) c30
    | succ k ih =>
      intro i P' mo hi hP' hmo
      refine r_iload hJ dX4_holderAfter_27 jg5 ?_
      refine r_iload_n hJ dX4_holderAfter_29 rfl jg2 ?_
      refine r_icmp_ge hJ (tgt := 54) dX4_holderAfter_30 (by decide) (fun c30 => ?_) (fun c30 => ?_)
      · exact absurd c30 (nI_ge (by omega) (by omega))
      · refine r_iload hJ dX4_holderAfter_33 jg4 ?_
        refine r_if_eq hJ (tgt := 54) dX4_holderAfter_35 (by decide) (fun c35 => ?_) (fun c35 => ?_)
        · have hF2 : P' = F := hmo.elim (fun q => absurd c35 (by rw [q.1]; decide)) (fun q => q.2)
          rw [hF2]
          exact fin _ _
        · have hmo1 := hmo.resolve_right (fun q => c35 q.1)
          have hmo2 : (bI (!decide (u < leapV P' u)) = nI 1 ∧ leapN u k (leapP P' u) = F) ∨ (bI (!decide (u < leapV P' u)) = nI 0 ∧ leapP P' u = F) := by
            have h2 := hmo1.2
            rw [leapN] at h2
            by_cases hq : u < leapV P' u
            · rw [if_pos hq] at h2
              exact Or.inr ⟨by simp [bI, hq, nI0], by unfold leapP; rw [if_pos hq]; exact h2⟩
            · rw [if_neg hq] at h2
              exact Or.inl ⟨by simp [bI, hq, nI1], h2⟩
          refine r_aload_n hJ dX4_holderAfter_38 rfl jg0 ?_
          refine r_g4_1 hJ m147 dX4_holderAfter_39 ?_
          refine r_iload_n hJ dX4_holderAfter_42 rfl jg3 ?_
          refine r_V1v hJ kX4_230 (rcv2 E (by decide)) (c2_leap l E S x P' (o := 1) (by decide) hP' u) dX4_holderAfter_43 ⟨by decide, by decide⟩ (Nat.le_of_ble_eq_true rfl) ?_
          refine r_istore hJ dX4_holderAfter_46 (jp4 rfl rfl) ?_
          refine r_iinc hJ dX4_holderAfter_48 jg5 (ii1 _) (jp5 rfl rfl) ?_
          refine r_goto hJ (tgt := 27) dX4_holderAfter_51 (by decide) ?_
          exact ih (i + 1) _ _ (by omega) (PI_leap hP') hmo2
  refine r_aload_n hJ dX4_holderAfter_0 rfl jg0 ?_
  refine r_g4_1 hJ m147 dX4_holderAfter_1 ?_
  refine r_aload_n hJ dX4_holderAfter_4 rfl jg0 ?_
  refine r_g4_0 hJ m146 dX4_holderAfter_5 ?_
  refine r_V1u hJ kX4_224 (rcv2 E (by decide)) (c2_copyG l E S x (o := 1) (o1 := 0) (by decide) (by decide) (by decide)) dX4_holderAfter_8 ⟨by decide, by decide⟩ (Nat.le_of_ble_eq_true rfl) ?_
  refine r_aload_n hJ dX4_holderAfter_11 rfl jg0 ?_
  refine r_g4_1 hJ m147 dX4_holderAfter_12 ?_
  refine r_g2_0O hJ (by decide) m52 dX4_holderAfter_15 ?_
  refine r_iload_n hJ dX4_holderAfter_18 rfl jg2 ?_
  refine r_iadd hJ dX4_holderAfter_19 ?_
  rw [hu]
  refine r_istore_n hJ dX4_holderAfter_20 rfl (jp3 rfl rfl) ?_
  refine r_iconst hJ (v := nI 1) dX4_holderAfter_21 (by decide) ?_
  refine r_istore hJ dX4_holderAfter_22 (jp4 rfl rfl) ?_
  refine r_iconst hJ (v := nI 0) dX4_holderAfter_24 (by decide) ?_
  refine r_istore hJ dX4_holderAfter_25 (jp5 rfl rfl) ?_
  exact loop b 0 _ _ (by omega) hP (Or.inl ⟨rfl, hFF⟩)

theorem bI_ne {b : Bool} (h : ¬ bI b = 0) : b = true := by
  cases b
  · exact absurd rfl h
  · rfl
/-- when there would be so many free numbers; what the look ahead leaves -/
def freeT (S : jS) (z : Nat) (m : Int32) : Int32 × jO := if nI (freesP (S 0) z) < m then freeL z m (S 0 0 0 + nI 500) (S 0 0 0) 500 (S 0) else (nI 0, S 1)
set_option maxRecDepth 100000 in
set_option maxHeartbeats 1000000 in
theorem c4_timeToFree (l : Launch) (E : jE) (S : jS) (x : jX) (hP : PI (S 0)) {z : Nat} (hz : S 0 1 3 = nI z) (hz4 : z ≤ 64) (m : Int32) : Ct l E yX4_timeToFree cX4_timeToFree 4 (some .int) 6 [.ref (ad E 11 0), .int m] (S, x) (some (.int (freeT S z m).1)) (setO S 1 (freeT S z m).2, x) := by
  refine Ct.of (by decide +kernel) (Nat.le_refl _) (Nat.le_of_ble_eq_true rfl) rfl (fun J hJ hF => ?_)
  obtain ⟨u, hu⟩ : ∃ u, S 0 0 0 + nI 500 = u := ⟨_, rfl⟩
  have loop : ∀ (k i : Nat) (P' : jO), i + k = 500 → PI P' → P' 1 3 = nI z → freeL z m u (S 0 0 0) k P' = freeL z m u (S 0 0 0) 500 (S 0) → nI (freesP (S 0) z) < m → J (setO S 1 P', x) 38 [some (.ref (ad E 11 0)), some (.int m), some (.int u), some (.int (nI i))] [] := by
    intro k
    induction k with
    | zero =>
      intro i P' hi hP' hz' he hlt
      obtain rfl : i = 500 := by omega
      have he := he
      refine r_iload_n hJ dX4_timeToFree_38 rfl jg3 ?_
      refine r_sipush hJ (v := nI 500) dX4_timeToFree_39 (by decide) ?_
      refine r_icmp_ge hJ (tgt := 89) dX4_timeToFree_42 (by decide) (fun c42 => ?_) (fun c42 => ?_)
      · refine r_iconst hJ (v := (-1)) dX4_timeToFree_89 (by decide) ?_
        exact ret_i hF dX4_timeToFree_90 (by unfold freeT; rw [if_pos hlt, hu, ← he]; rfl) (by unfold freeT; rw [if_pos hlt, hu, ← he]; rfl)
      · exact absurd (nI_le (by omega) (by omega)) c42
    | succ k ih =>
      intro i P' hi hP' hz' he hlt
      have hT : freeT S z m = freeL z m u (S 0 0 0) (k + 1) P' := by
        unfold freeT
        rw [if_pos hlt, hu]
        exact he.symm
      refine r_iload_n hJ dX4_timeToFree_38 rfl jg3 ?_
      refine r_sipush hJ (v := nI 500) dX4_timeToFree_39 (by decide) ?_
      refine r_icmp_ge hJ (tgt := 89) dX4_timeToFree_42 (by decide) (fun c42 => ?_) (fun c42 => ?_)
      · exact absurd c42 (nI_ge (by omega) (by omega))
      · refine r_aload_n hJ dX4_timeToFree_45 rfl jg0 ?_
        refine r_g4_1 hJ m147 dX4_timeToFree_46 ?_
        refine r_iload_n hJ dX4_timeToFree_49 rfl jg2 ?_
        refine r_V1v hJ kX4_230 (rcv2 E (by decide)) (c2_leap l E S x P' (o := 1) (by decide) hP' u) dX4_timeToFree_50 ⟨by decide, by decide⟩ (Nat.le_of_ble_eq_true rfl) ?_
        refine r_if_eq hJ (tgt := 89) dX4_timeToFree_53 (by decide) (fun c53 => ?_) (fun c53 => ?_)
        · rw [bI_0, Bool.not_eq_eq_eq_not, Bool.not_false, decide_eq_true_iff] at c53
          rw [show leapP P' u = P' from if_pos c53]
          refine r_iconst hJ (v := (-1)) dX4_timeToFree_89 (by decide) ?_
          exact ret_i hF dX4_timeToFree_90 (by rw [hT, freeL, if_pos c53]) (by rw [hT, freeL, if_pos c53])
        · have c53 := bI_ne c53
          rw [Bool.not_eq_true', decide_eq_false_iff_not] at c53
          refine r_aload_n hJ dX4_timeToFree_56 rfl jg0 ?_
          refine r_g4_1 hJ m147 dX4_timeToFree_57 ?_
          refine r_V0v hJ kX4_236 (rcv2 E (by decide)) (c2_freeNumbers l E S x (leapP P' u) (o := 1) (by decide) (by rw [r1_leap]; exact hz') hz4) dX4_timeToFree_60 ⟨by decide, by decide⟩ (Nat.le_of_ble_eq_true rfl) ?_
          refine r_iload_n hJ dX4_timeToFree_63 rfl jg1 ?_
          refine r_icmp_lt hJ (tgt := 83) dX4_timeToFree_64 (by decide) (fun c64 => ?_) (fun c64 => ?_)
          · have c64 : nI (freesP (leapP P' u) z) < m := c64
            refine r_iinc hJ dX4_timeToFree_83 jg3 (ii1 _) (jp3 rfl rfl) ?_
            refine r_goto hJ (tgt := 38) dX4_timeToFree_86 (by decide) ?_
            exact ih (i + 1) _ (by omega) (PI_leap hP') (by rw [r1_leap]; exact hz') (by rw [← he, freeL, if_neg c53, if_pos c64]) hlt
          · have c64 : ¬ nI (freesP (leapP P' u) z) < m := c64
            refine r_aload_n hJ dX4_timeToFree_67 rfl jg0 ?_
            refine r_g4_1 hJ m147 dX4_timeToFree_68 ?_
            refine r_g2_0O hJ (by decide) m52 dX4_timeToFree_71 ?_
            refine r_aload_n hJ dX4_timeToFree_74 rfl jg0 ?_
            refine r_g4_0 hJ m146 dX4_timeToFree_75 ?_
            refine r_g2_0 hJ (by decide) m52 dX4_timeToFree_78 ?_
            rw [setO_ne (by decide)]
            refine r_isub hJ dX4_timeToFree_81 ?_
            exact ret_i hF dX4_timeToFree_82 (by rw [hT, freeL, if_neg c53, if_neg c64]) (by rw [hT, freeL, if_neg c53, if_neg c64])
  refine r_aload_n hJ dX4_timeToFree_0 rfl jg0 ?_
  refine r_g4_0 hJ m146 dX4_timeToFree_1 ?_
  refine r_V0v hJ kX4_236 (rcv2 E (by decide)) (g2_freeNumbers l E S x (o := 0) (by decide) hz hz4) dX4_timeToFree_4 ⟨by decide, by decide⟩ (Nat.le_of_ble_eq_true rfl) ?_
  refine r_iload_n hJ dX4_timeToFree_7 rfl jg1 ?_
  refine r_icmp_lt hJ (tgt := 13) dX4_timeToFree_8 (by decide) (fun c8 => ?_) (fun c8 => ?_)
  · refine r_aload_n hJ dX4_timeToFree_13 rfl jg0 ?_
    refine r_g4_1 hJ m147 dX4_timeToFree_14 ?_
    refine r_aload_n hJ dX4_timeToFree_17 rfl jg0 ?_
    refine r_g4_0 hJ m146 dX4_timeToFree_18 ?_
    refine r_V1u hJ kX4_224 (rcv2 E (by decide)) (c2_copyG l E S x (o := 1) (o1 := 0) (by decide) (by decide) (by decide)) dX4_timeToFree_21 ⟨by decide, by decide⟩ (Nat.le_of_ble_eq_true rfl) ?_
    refine r_aload_n hJ dX4_timeToFree_24 rfl jg0 ?_
    refine r_g4_0 hJ m146 dX4_timeToFree_25 ?_
    refine r_g2_0 hJ (by decide) m52 dX4_timeToFree_28 ?_
    rw [setO_ne (by decide)]
    refine r_sipush hJ (v := nI 500) dX4_timeToFree_31 (by decide) ?_
    refine r_iadd hJ dX4_timeToFree_34 ?_
    rw [hu]
    refine r_istore_n hJ dX4_timeToFree_35 rfl (jp2 rfl rfl) ?_
    refine r_iconst hJ (v := nI 0) dX4_timeToFree_36 (by decide) ?_
    refine r_istore_n hJ dX4_timeToFree_37 rfl (jp3 rfl rfl) ?_
    exact loop 500 0 _ (by omega) hP hz rfl c8
  · refine r_iconst hJ (v := nI 0) dX4_timeToFree_11 (by decide) ?_
    exact ret_i hF dX4_timeToFree_12 (by unfold freeT; rw [if_neg (show ¬ nI (freesP (S 0) z) < m from c8)]) (by unfold freeT; rw [if_neg (show ¬ nI (freesP (S 0) z) < m from c8), setO_self])

/-- when a wish would be given; what the look ahead leaves -/
def wishT (S : jS) (h n : Nat) : Int32 × jO :=
  if S 0 2 n = nI h then (nI 0, S 1)
  else if mayW (S 0) (nI h) n = true then
    (if S 0 2 n = -1 then (nI 0, addW (S 0) h n (nI 1)) else wishL (nI h) n (S 0 0 0 + nI 500) (S 0 0 0) 500 (addW (S 0) h n (nI 1)))
  else (-1, S 1)
theorem addW_7 {P : jO} {h n w : Nat} {t : Int32} (hw3 : w ≤ 3) (hw : P 7 n = nI w) (hf : ¬ P 2 n = -1) (hm : mayW P (nI h) n = true) : ¬ addW P h n t 7 n = 0 := by
  unfold mayW at hm
  rw [if_neg hf] at hm
  simp only [Bool.and_eq_true, Bool.not_eq_true', decide_eq_false_iff_not] at hm
  have h3 := hm.1.1
  rw [hw, nI_leI (by omega) (by omega)] at h3
  unfold addW
  rw [if_neg hf, hw, toN_nI (by omega), if_pos (by omega)]
  simp only [put_app]
  simp [hw, nI_add]
  exact nI_ne0 (by omega) (by omega)
set_option maxRecDepth 100000 in
set_option maxHeartbeats 1000000 in
theorem c4_timeToWished (l : Launch) (E : jE) (S : jS) (x : jX) (hP : PI (S 0)) {h : Nat} (hh : h < 8) {n : Nat} (hn : n < 64) {w : Nat} (hw3 : w ≤ 3) (hw : S 0 7 n = nI w) : Ct l E yX4_timeToWished cX4_timeToWished 5 (some .int) 6 [.ref (ad E 11 0), .int (nI h), .int (nI n)] (S, x) (some (.int (wishT S h n).1)) (setO S 1 (wishT S h n).2, x) := by
  refine Ct.of (by decide +kernel) (Nat.le_refl _) (Nat.le_of_ble_eq_true rfl) rfl (fun J hJ hF => ?_)
  obtain ⟨u, hu⟩ : ∃ u, S 0 0 0 + nI 500 = u := ⟨_, rfl⟩
  have loop : wishT S h n = wishL (nI h) n u (S 0 0 0) 500 (addW (S 0) h n (nI 1)) → ∀ (k i : Nat) (P' : jO), i + k = 500 → PI P' → wishL (nI h) n u (S 0 0 0) k P' = wishL (nI h) n u (S 0 0 0) 500 (addW (S 0) h n (nI 1)) → J (setO S 1 P', x) 70 [some (.ref (ad E 11 0)), some (.int (nI h)), some (.int (nI n)), some (.int u), some (.int (nI i))] [] := by
    intro hT k
    induction k with
    | zero =>
      intro i P' hi hP' he
      obtain rfl : i = 500 := by omega
      refine r_iload hJ dX4_timeToWished_70 jg4 ?_
      refine r_sipush hJ (v := nI 500) dX4_timeToWished_72 (by decide) ?_
      refine r_icmp_ge hJ (tgt := 124) dX4_timeToWished_75 (by decide) (fun c75 => ?_) (fun c75 => ?_)
      · refine r_iconst hJ (v := (-1)) dX4_timeToWished_124 (by decide) ?_
        exact ret_i hF dX4_timeToWished_125 (by rw [hT, ← he]; rfl) (by rw [hT, ← he]; rfl)
      · exact absurd (nI_le (by omega) (by omega)) c75
    | succ k ih =>
      intro i P' hi hP' he
      refine r_iload hJ dX4_timeToWished_70 jg4 ?_
      refine r_sipush hJ (v := nI 500) dX4_timeToWished_72 (by decide) ?_
      refine r_icmp_ge hJ (tgt := 124) dX4_timeToWished_75 (by decide) (fun c75 => ?_) (fun c75 => ?_)
      · exact absurd c75 (nI_ge (by omega) (by omega))
      · refine r_aload_n hJ dX4_timeToWished_78 rfl jg0 ?_
        refine r_g4_1 hJ m147 dX4_timeToWished_79 ?_
        refine r_iload_n hJ dX4_timeToWished_82 rfl jg3 ?_
        refine r_V1v hJ kX4_230 (rcv2 E (by decide)) (c2_leap l E S x P' (o := 1) (by decide) hP' u) dX4_timeToWished_83 ⟨by decide, by decide⟩ (Nat.le_of_ble_eq_true rfl) ?_
        refine r_if_eq hJ (tgt := 124) dX4_timeToWished_86 (by decide) (fun c86 => ?_) (fun c86 => ?_)
        · rw [bI_0, Bool.not_eq_eq_eq_not, Bool.not_false, decide_eq_true_iff] at c86
          rw [show leapP P' u = P' from if_pos c86]
          refine r_iconst hJ (v := (-1)) dX4_timeToWished_124 (by decide) ?_
          exact ret_i hF dX4_timeToWished_125 (by rw [hT, ← he, wishL, if_pos c86]) (by rw [hT, ← he, wishL, if_pos c86])
        · have c86 := bI_ne c86
          rw [Bool.not_eq_true', decide_eq_false_iff_not] at c86
          refine r_aload_n hJ dX4_timeToWished_89 rfl jg0 ?_
          refine r_g4_1 hJ m147 dX4_timeToWished_90 ?_
          refine r_g2_5 hJ (by decide) m59 dX4_timeToWished_93 ?_
          refine r_iload_n hJ dX4_timeToWished_96 rfl jg2 ?_
          refine r_ialdO hJ (by omega) (alP2 (by decide) (by omega)) rfl dX4_timeToWished_97 ?_
          refine r_iload_n hJ dX4_timeToWished_98 rfl jg1 ?_
          refine r_icmp_ne hJ (tgt := 118) dX4_timeToWished_99 (by decide) (fun c99 => ?_) (fun c99 => ?_)
          · refine r_iinc hJ dX4_timeToWished_118 jg4 (ii1 _) (jp4 rfl rfl) ?_
            refine r_goto hJ (tgt := 70) dX4_timeToWished_121 (by decide) ?_
            exact ih (i + 1) _ (by omega) (PI_leap hP') (by rw [← he, wishL, if_neg c86, if_neg c99])
          · refine r_aload_n hJ dX4_timeToWished_102 rfl jg0 ?_
            refine r_g4_1 hJ m147 dX4_timeToWished_103 ?_
            refine r_g2_0O hJ (by decide) m52 dX4_timeToWished_106 ?_
            refine r_aload_n hJ dX4_timeToWished_109 rfl jg0 ?_
            refine r_g4_0 hJ m146 dX4_timeToWished_110 ?_
            refine r_g2_0 hJ (by decide) m52 dX4_timeToWished_113 ?_
            rw [setO_ne (by decide)]
            refine r_isub hJ dX4_timeToWished_116 ?_
            exact ret_i hF dX4_timeToWished_117 (by rw [hT, ← he, wishL, if_neg c86, if_pos c99]) (by rw [hT, ← he, wishL, if_neg c86, if_pos c99])
  refine r_aload_n hJ dX4_timeToWished_0 rfl jg0 ?_
  refine r_g4_0 hJ m146 dX4_timeToWished_1 ?_
  refine r_g2_5 hJ (by decide) m59 dX4_timeToWished_4 ?_
  refine r_iload_n hJ dX4_timeToWished_7 rfl jg2 ?_
  refine r_iald hJ (by omega) (alP2 (by decide) (by omega)) rfl dX4_timeToWished_8 ?_
  refine r_iload_n hJ dX4_timeToWished_9 rfl jg1 ?_
  refine r_icmp_ne hJ (tgt := 15) dX4_timeToWished_10 (by decide) (fun c10 => ?_) (fun c10 => ?_)
  · refine r_aload_n hJ dX4_timeToWished_15 rfl jg0 ?_
    refine r_g4_0 hJ m146 dX4_timeToWished_16 ?_
    refine r_iload_n hJ dX4_timeToWished_19 rfl jg1 ?_
    refine r_iload_n hJ dX4_timeToWished_20 rfl jg2 ?_
    refine r_V2v hJ kX4_48 (rcv2 E (by decide)) (g2_mayWish l E S x (o := 0) (by decide) (nI h) hn hw3 hw) dX4_timeToWished_21 ⟨by decide, by decide⟩ (Nat.le_of_ble_eq_true rfl) ?_
    refine r_if_ne hJ (tgt := 29) dX4_timeToWished_24 (by decide) (fun c24 => ?_) (fun c24 => ?_)
    · have c24 := bI_ne c24
      refine r_aload_n hJ dX4_timeToWished_29 rfl jg0 ?_
      refine r_g4_1 hJ m147 dX4_timeToWished_30 ?_
      refine r_aload_n hJ dX4_timeToWished_33 rfl jg0 ?_
      refine r_g4_0 hJ m146 dX4_timeToWished_34 ?_
      refine r_V1u hJ kX4_224 (rcv2 E (by decide)) (c2_copyG l E S x (o := 1) (o1 := 0) (by decide) (by decide) (by decide)) dX4_timeToWished_37 ⟨by decide, by decide⟩ (Nat.le_of_ble_eq_true rfl) ?_
      refine r_aload_n hJ dX4_timeToWished_40 rfl jg0 ?_
      refine r_g4_1 hJ m147 dX4_timeToWished_41 ?_
      refine r_iload_n hJ dX4_timeToWished_44 rfl jg1 ?_
      refine r_iload_n hJ dX4_timeToWished_45 rfl jg2 ?_
      refine r_iconst hJ (v := nI 1) dX4_timeToWished_46 (by decide) ?_
      refine r_V3v hJ kX4_60 (rcv2 E (by decide)) (c2_addWish l E S x (S 0) (o := 1) (by decide) hh hn (nI 1) hw3 hw) dX4_timeToWished_47 ⟨by decide, by decide⟩ (Nat.le_of_ble_eq_true rfl) ?_
      refine r_if_ne hJ (tgt := 55) dX4_timeToWished_50 (by decide) (fun c50 => ?_) (fun c50 => ?_)
      · have hfr : ¬ S 0 2 n = -1 := fun q => c50 (by rw [if_pos q]; rfl)
        refine r_aload_n hJ dX4_timeToWished_55 rfl jg0 ?_
        refine r_g4_0 hJ m146 dX4_timeToWished_56 ?_
        refine r_g2_0 hJ (by decide) m52 dX4_timeToWished_59 ?_
        rw [setO_ne (by decide)]
        refine r_sipush hJ (v := nI 500) dX4_timeToWished_62 (by decide) ?_
        refine r_iadd hJ dX4_timeToWished_65 ?_
        rw [hu]
        refine r_istore_n hJ dX4_timeToWished_66 rfl (jp3 rfl rfl) ?_
        refine r_iconst hJ (v := nI 0) dX4_timeToWished_67 (by decide) ?_
        refine r_istore hJ dX4_timeToWished_68 (jp4 rfl rfl) ?_
        exact loop (by unfold wishT; rw [if_neg c10, if_pos c24, if_neg hfr, hu]) 500 0 _ (by omega) (PI_addW hn hh hP) rfl
      · have hfr : S 0 2 n = -1 := by
          by_cases q : S 0 2 n = -1
          · exact q
          · rw [if_neg q] at c50
            exact absurd c50 (addW_7 hw3 hw q c24)
        refine r_iconst hJ (v := nI 0) dX4_timeToWished_53 (by decide) ?_
        exact ret_i hF dX4_timeToWished_54 (by unfold wishT; rw [if_neg c10, if_pos c24, if_pos hfr]) (by unfold wishT; rw [if_neg c10, if_pos c24, if_pos hfr])
    · rw [bI_0] at c24
      refine r_iconst hJ (v := (-1)) dX4_timeToWished_27 (by decide) ?_
      exact ret_i hF dX4_timeToWished_28 (by unfold wishT; rw [if_neg c10, if_neg (by rw [c24]; decide)]) (by unfold wishT; rw [if_neg c10, if_neg (by rw [c24]; decide), setO_self])
  · refine r_iconst hJ (v := nI 0) dX4_timeToWished_13 (by decide) ?_
    exact ret_i hF dX4_timeToWished_14 (by unfold wishT; rw [if_pos c10]) (by unfold wishT; rw [if_pos c10, setO_self])

set_option maxRecDepth 100000 in
set_option maxHeartbeats 1000000 in
theorem c4_whoAfter (l : Launch) (E : jE) (S : jS) (K : Nat → Nat) (y : Int64 × Nat) (hP : PI (S 0)) {n : Nat} (hn : n < 64) (hok : okN S (nI n) = true) {b : Nat} (hb : b ≤ 500) : Ct l E yX4_whoAfter cX4_whoAfter 3 (some .int) 7 [.ref (ad E 11 0), .int (nI n), .int (nI b)] (S, (K, y)) (some (.int (leapN (S 0 0 0 + nI b) b (S 0) 2 n))) (setO S 1 (leapN (S 0 0 0 + nI b) b (S 0)), (K, y)) := by
  refine Ct.of (by decide +kernel) (Nat.le_refl _) (Nat.le_of_ble_eq_true rfl) rfl (fun J hJ hF => ?_)
  refine r_aload_n hJ dX4_whoAfter_0 rfl jg0 ?_
  refine r_iload_n hJ dX4_whoAfter_1 rfl jg1 ?_
  refine r_V1u hJ kX4_41 (rcv4 E) (c4_needNumber l E S (K, y) (nI n) hok) dX4_whoAfter_2 ⟨by decide, by decide⟩ (Nat.le_of_ble_eq_true rfl) ?_
  refine r_iload_n hJ dX4_whoAfter_5 rfl jg2 ?_
  refine r_iconst hJ (v := nI 0) dX4_whoAfter_6 (by decide) ?_
  refine r_sipush hJ (v := nI 500) dX4_whoAfter_7 (by decide) ?_
  refine r_S3u hJ kX4_44 (c4_needRange l E S (K, y) (nI b) (nI 0) (nI 500) (nI_nlt (by omega) (by omega)) (nI_le (by omega) (by omega))) dX4_whoAfter_10 ⟨by decide, by decide⟩ (Nat.le_of_ble_eq_true rfl) ?_
  refine r_aload_n hJ dX4_whoAfter_13 rfl jg0 ?_
  refine r_iload_n hJ dX4_whoAfter_14 rfl jg1 ?_
  refine r_iload_n hJ dX4_whoAfter_15 rfl jg2 ?_
  refine r_V2v hJ kX4_151 (rcv4 E) (c4_holderAfter l E S (K, y) hP hn (b := b) (by omega)) dX4_whoAfter_16 ⟨by decide, by decide⟩ (Nat.le_of_ble_eq_true rfl) ?_
  exact ret_i hF dX4_whoAfter_19 rfl rfl

set_option maxRecDepth 100000 in
set_option maxHeartbeats 1000000 in
theorem t4_whoAfter_n (l : Launch) (hst : l.stackTraces = false) (E : jE) (S : jS) (K : Nat → Nat) (y : Int64 × Nat) {n b : Int32} (h0 : okN S n = false) : CtT l E yX4_whoAfter cX4_whoAfter 3 (some .int) 7 [.ref (ad E 11 0), .int n, .int b] (S, (K, y)) "java/lang/IndexOutOfBoundsException" (nxt (S, (K, y))) := by
  refine CtT.of hst (by decide +kernel) (Nat.le_of_ble_eq_true rfl) rfl (fun J hJ hF => ?_)
  refine r_aload_n hJ dX4_whoAfter_0 rfl jg0 ?_
  refine r_iload_n hJ dX4_whoAfter_1 rfl jg1 ?_
  exact thrV1 hF kX4_41 (rcv4 E) (t4_needNumber l hst E S (K, y) n h0) dX4_whoAfter_2 ⟨by decide, by decide⟩ (Nat.le_of_ble_eq_true rfl)

set_option maxRecDepth 100000 in
set_option maxHeartbeats 1000000 in
theorem t4_whoAfter_b (l : Launch) (hst : l.stackTraces = false) (E : jE) (S : jS) (K : Nat → Nat) (y : Int64 × Nat) {n : Nat} (hok : okN S (nI n) = true) {b : Int32} (h0 : b < nI 0 ∨ ¬ b ≤ nI 500) : CtT l E yX4_whoAfter cX4_whoAfter 3 (some .int) 7 [.ref (ad E 11 0), .int (nI n), .int b] (S, (K, y)) "java/lang/IllegalArgumentException" (nxt (S, (K, y))) := by
  refine CtT.of hst (by decide +kernel) (Nat.le_of_ble_eq_true rfl) rfl (fun J hJ hF => ?_)
  refine r_aload_n hJ dX4_whoAfter_0 rfl jg0 ?_
  refine r_iload_n hJ dX4_whoAfter_1 rfl jg1 ?_
  refine r_V1u hJ kX4_41 (rcv4 E) (c4_needNumber l E S (K, y) (nI n) hok) dX4_whoAfter_2 ⟨by decide, by decide⟩ (Nat.le_of_ble_eq_true rfl) ?_
  refine r_iload_n hJ dX4_whoAfter_5 rfl jg2 ?_
  refine r_iconst hJ (v := nI 0) dX4_whoAfter_6 (by decide) ?_
  refine r_sipush hJ (v := nI 500) dX4_whoAfter_7 (by decide) ?_
  exact thrS3 hF kX4_44 (t4_needRange l hst E S (K, y) b (nI 0) (nI 500) h0) dX4_whoAfter_10 ⟨by decide, by decide⟩ (Nat.le_of_ble_eq_true rfl)

set_option maxRecDepth 100000 in
set_option maxHeartbeats 1000000 in
theorem c4_freeIn (l : Launch) (E : jE) (S : jS) (K : Nat → Nat) (y : Int64 × Nat) (hP : PI (S 0)) {z : Nat} (hz : S 0 1 3 = nI z) (hz4 : z ≤ 64) {m : Int32} (hm1 : ¬ m < nI 1) (hm2 : m ≤ nI 64) : Ct l E yX4_freeIn cX4_freeIn 2 (some .int) 7 [.ref (ad E 11 0), .int m] (S, (K, y)) (some (.int (freeT S z m).1)) (setO S 1 (freeT S z m).2, (K, y)) := by
  refine Ct.of (by decide +kernel) (Nat.le_refl _) (Nat.le_of_ble_eq_true rfl) rfl (fun J hJ hF => ?_)
  refine r_iload_n hJ dX4_freeIn_0 rfl jg1 ?_
  refine r_iconst hJ (v := nI 1) dX4_freeIn_1 (by decide) ?_
  refine r_bipush hJ (v := nI 64) dX4_freeIn_2 (by decide) ?_
  refine r_S3u hJ kX4_44 (c4_needRange l E S (K, y) (m) (nI 1) (nI 64) hm1 hm2) dX4_freeIn_4 ⟨by decide, by decide⟩ (Nat.le_of_ble_eq_true rfl) ?_
  refine r_aload_n hJ dX4_freeIn_7 rfl jg0 ?_
  refine r_iload_n hJ dX4_freeIn_8 rfl jg1 ?_
  refine r_V1v hJ kX4_154 (rcv4 E) (c4_timeToFree l E S (K, y) hP hz hz4 m) dX4_freeIn_9 ⟨by decide, by decide⟩ (Nat.le_of_ble_eq_true rfl) ?_
  exact ret_i hF dX4_freeIn_12 rfl rfl

set_option maxRecDepth 100000 in
set_option maxHeartbeats 1000000 in
theorem t4_freeIn (l : Launch) (hst : l.stackTraces = false) (E : jE) (S : jS) (K : Nat → Nat) (y : Int64 × Nat) {m : Int32} (h0 : m < nI 1 ∨ ¬ m ≤ nI 64) : CtT l E yX4_freeIn cX4_freeIn 2 (some .int) 7 [.ref (ad E 11 0), .int m] (S, (K, y)) "java/lang/IllegalArgumentException" (nxt (S, (K, y))) := by
  refine CtT.of hst (by decide +kernel) (Nat.le_of_ble_eq_true rfl) rfl (fun J hJ hF => ?_)
  refine r_iload_n hJ dX4_freeIn_0 rfl jg1 ?_
  refine r_iconst hJ (v := nI 1) dX4_freeIn_1 (by decide) ?_
  refine r_bipush hJ (v := nI 64) dX4_freeIn_2 (by decide) ?_
  exact thrS3 hF kX4_44 (t4_needRange l hst E S (K, y) m (nI 1) (nI 64) h0) dX4_freeIn_4 ⟨by decide, by decide⟩ (Nat.le_of_ble_eq_true rfl)

set_option maxRecDepth 100000 in
set_option maxHeartbeats 1000000 in
theorem c4_wishedIn (l : Launch) (E : jE) (S : jS) (K : Nat → Nat) (y : Int64 × Nat) (hP : PI (S 0)) {h : Nat} (hh : h < 8) {n : Nat} (hn : n < 64) (hok : okN S (nI n) = true) {w : Nat} (hw3 : w ≤ 3) (hw : S 0 7 n = nI w) : Ct l E yX4_wishedIn cX4_wishedIn 3 (some .int) 7 [.ref (ad E 11 0), .int (nI h), .int (nI n)] (S, (K, y)) (some (.int (wishT S h n).1)) (setO S 1 (wishT S h n).2, (K, y)) := by
  refine Ct.of (by decide +kernel) (Nat.le_refl _) (Nat.le_of_ble_eq_true rfl) rfl (fun J hJ hF => ?_)
  refine r_iload_n hJ dX4_wishedIn_0 rfl jg1 ?_
  refine r_S1u hJ kX4_37 (c4_needHolder l E S (K, y) (nI h) (nI_pos (by omega)) (nI_lt (by omega) (by decide))) dX4_wishedIn_1 ⟨by decide, by decide⟩ (Nat.le_of_ble_eq_true rfl) ?_
  refine r_aload_n hJ dX4_wishedIn_4 rfl jg0 ?_
  refine r_iload_n hJ dX4_wishedIn_5 rfl jg2 ?_
  refine r_V1u hJ kX4_41 (rcv4 E) (c4_needNumber l E S (K, y) (nI n) hok) dX4_wishedIn_6 ⟨by decide, by decide⟩ (Nat.le_of_ble_eq_true rfl) ?_
  refine r_aload_n hJ dX4_wishedIn_9 rfl jg0 ?_
  refine r_iload_n hJ dX4_wishedIn_10 rfl jg1 ?_
  refine r_iload_n hJ dX4_wishedIn_11 rfl jg2 ?_
  refine r_V2v hJ kX4_157 (rcv4 E) (c4_timeToWished l E S (K, y) hP hh hn hw3 hw) dX4_wishedIn_12 ⟨by decide, by decide⟩ (Nat.le_of_ble_eq_true rfl) ?_
  exact ret_i hF dX4_wishedIn_15 rfl rfl

set_option maxRecDepth 100000 in
set_option maxHeartbeats 1000000 in
theorem t4_wishedIn_h (l : Launch) (hst : l.stackTraces = false) (E : jE) (S : jS) (K : Nat → Nat) (y : Int64 × Nat) {h n : Int32} (h0 : h < 0 ∨ ¬ h < nI 8) : CtT l E yX4_wishedIn cX4_wishedIn 3 (some .int) 7 [.ref (ad E 11 0), .int h, .int n] (S, (K, y)) "java/lang/IndexOutOfBoundsException" (nxt (S, (K, y))) := by
  refine CtT.of hst (by decide +kernel) (Nat.le_of_ble_eq_true rfl) rfl (fun J hJ hF => ?_)
  refine r_iload_n hJ dX4_wishedIn_0 rfl jg1 ?_
  exact thrS1 hF kX4_37 (t4_needHolder l hst E S (K, y) h h0) dX4_wishedIn_1 ⟨by decide, by decide⟩ (Nat.le_of_ble_eq_true rfl)

set_option maxRecDepth 100000 in
set_option maxHeartbeats 1000000 in
theorem t4_wishedIn_n (l : Launch) (hst : l.stackTraces = false) (E : jE) (S : jS) (K : Nat → Nat) (y : Int64 × Nat) {h : Nat} (hh : h < 8) {n : Int32} (h0 : okN S n = false) : CtT l E yX4_wishedIn cX4_wishedIn 3 (some .int) 7 [.ref (ad E 11 0), .int (nI h), .int n] (S, (K, y)) "java/lang/IndexOutOfBoundsException" (nxt (S, (K, y))) := by
  refine CtT.of hst (by decide +kernel) (Nat.le_of_ble_eq_true rfl) rfl (fun J hJ hF => ?_)
  refine r_iload_n hJ dX4_wishedIn_0 rfl jg1 ?_
  refine r_S1u hJ kX4_37 (c4_needHolder l E S (K, y) (nI h) (nI_pos (by omega)) (nI_lt (by omega) (by decide))) dX4_wishedIn_1 ⟨by decide, by decide⟩ (Nat.le_of_ble_eq_true rfl) ?_
  refine r_aload_n hJ dX4_wishedIn_4 rfl jg0 ?_
  refine r_iload_n hJ dX4_wishedIn_5 rfl jg2 ?_
  exact thrV1 hF kX4_41 (rcv4 E) (t4_needNumber l hst E S (K, y) n h0) dX4_wishedIn_6 ⟨by decide, by decide⟩ (Nat.le_of_ble_eq_true rfl)
end
