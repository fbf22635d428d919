section
/-! ===== BEGIN words of one list among another's, by their places ===== -/
theorem goodIn_r {big : List Cond} (ws : List Cond) (ps : List Nat) (hp : ws = ps.filterMap (fun i => big[i]?)) (h : ws.all goodWord = true) : GoodIn big ws := by
  intro w hw
  have h1 := List.all_eq_true.mp h w hw
  rw [hp] at hw
  obtain ⟨i, -, hi⟩ := List.mem_filterMap.mp hw
  have hm : w ∈ big := by first | exact List.mem_of_getElem? hi | exact List.getElem?_mem hi
  exact ⟨hm, good_of_word h1⟩
theorem goodIn_app {big a b : List Cond} (ha : GoodIn big a) (hb : GoodIn big b) : GoodIn big (a ++ b) := fun w h => (List.mem_append.mp h).elim (ha w) (hb w)
theorem goodIn_ca {big a b : List Cond} {c : Cond} (ha : GoodIn big (c :: a)) (hb : GoodIn big b) : GoodIn big (c :: (a ++ b)) := fun w h => (List.mem_cons.mp h).elim (fun e => ha w (List.mem_cons.mpr (Or.inl e))) (fun h => (List.mem_append.mp h).elim (fun h => ha w (List.mem_cons.mpr (Or.inr h))) (hb w))
theorem goodIn_sub {big ws : List Cond} (hm : ∀ w ∈ ws, w ∈ big) (h : ws.all goodWord = true) : GoodIn big ws := fun w hw => ⟨hm w hw, good_of_word (List.all_eq_true.mp h w hw)⟩
/-! ===== END ===== -/

/-! ===== BEGIN exceptions that leave a method, and their catching by the caller (launches without stack traces) ===== -/
section VXA
/-! The laws vx_back, vx_callV, vx_callS, vx_callSW, vx_throw0, vx_throwS follow proofs of the library, with one case more: JvmDerived/Free/Laws.lean (Back.of_free), Shelf42/LK1.lean (callV, callS), Shelf/KitTraced.lean (throwNew0V, throwNewS). -/
/-- where a method has thrown q: the class by its name, the cell, what was written, the world -/
def vx_T (XC : String → State → State → Prop) (st : State) (q : Addr) (t : State) (mc ms : Nat) (free : Addr → Prop) : Prop :=
  ∃ (E : String) (ce : Cell) (L : List Loc), XC E st t ∧ t.heap[q]? = some ce ∧ ce.vm = .none ∧ st.vm.findClass E = some ce.cls ∧ st.WarmedH t.vm ∧ st.sameButNew ({ t with vm := st.vm } : State) L mc ms ∧ ∀ z ∈ L, free z.base
def vx_Q (Qc : Array Value → State → Outcome → State → Prop) (XC : String → State → State → Prop) (mc ms : Nat) (free : Addr → Prop) : Array Value → State → Outcome → State → Prop := fun a st o t =>
  (Qc a st o t ∧ ∃ L, FrameEnd st o t L mc ms ∧ ∀ q ∈ L, free q.base) ∨ ∃ q, o = .threw q ∧ vx_T XC st q t mc ms free
/-- a callee that returns or throws -/
def vx_Met (l : Launch) (y : MethodName) (ws : List Cond) (rm : Room) (Pc : Array Value → State → Prop) (Qc : Array Value → State → Outcome → State → Prop) (XC : String → State → State → Prop) (mc ms : Nat) (free : Addr → Prop) : Prop :=
  MetFree l y (headSpec ws rm) Pc (fun _ _ _ _ _ => True) (vx_Q Qc XC mc ms free)
def vx_Post (XC : String → State → State → Prop) (mc ms : Nat) (free : Addr → Prop) : Pt → Array Value → Addr → Pt → Prop := fun A a q B =>
  ∃ (g : JFrame) (mk : MethodId) (t : State) (L : List Loc) (E : String) (ce : Cell), B.U.heap = t.heap ∧ B.U.vm = t.vm ∧ XC E (A.U.calling g mk a) t ∧ t.heap[q]? = some ce ∧ ce.vm = .none ∧ A.U.vm.findClass E = some ce.cls ∧ B.locs = A.locs ++ L ∧ (∀ z ∈ L, free z.base) ∧ B.cells = A.cells + mc ∧ B.slots = A.slots + ms
def vx_Back (l : Launch) (R : Room) (p : Program) (e : Env) (below : List Frame) (s : State) (sargs : Array Value) (y : MethodName) (len W9 : Nat)
    (Pre : Pt → Array Value → Prop) (Post : Pt → Array Value → Option Value → Pt → Prop) (PostX : Pt → Array Value → Addr → Pt → Prop) : Prop :=
  ∀ (m : MethodId) (meth : Method) (c : Code) (A : Pt) (g : JFrame) (ig : Instr) (mk : MethodId) (a : Array Value),
    Stand p l e R s m sargs below meth c A.U A.locs A.cells A.slots → g.method = m → g.locals.size = c.maxLocals → decode c.code g.pc = .ok (ig, len) →
    2 * g.monitorRoom + (g.stack.map fun v => v.category).sum ≤ W9 → A.U.methodNamed? y = some mk → Pre A a →
    (∃ (v : Option Value) (B : Pt), Stand p l e R s m sargs below meth c B.U B.locs B.cells B.slots ∧ Post A a v B ∧
      Steps p.tables e below (doInvoke e (A.U.setTop g) [] mk a).1 (B.U.setTop { g with pc := g.pc + len, stack := v.toList ++ g.stack })) ∨
    (∃ (q : Addr) (B : Pt), Stand p l e R s m sargs below meth c B.U B.locs B.cells B.slots ∧ PostX A a q B ∧
      Steps p.tables e below (doInvoke e (A.U.setTop g) [] mk a).1 ((B.U.setTop g).pushFrame (.throwing q)))
section Payer
variable {l : Launch} {R : Room} {p : Program} {e : Env} {below : List Frame} {s : State} {sargs : Array Value} {y : MethodName} {len W9 : Nat}
theorem vx_back {ws : List Cond} {rm : Room} {Pc : Array Value → State → Prop} {Qc : Array Value → State → Outcome → State → Prop} {XC : String → State → State → Prop} {mc ms : Nat} {free : Addr → Prop} {bytes : ByteArray} {maxL : Nat} {ret : Option FieldType}
    (hM : vx_Met l y ws rm Pc Qc XC mc ms free) (hblind : FrameBlind Pc) (hrc : rm.cells = mc) (hrs : rm.slots = ms)
    (hframes : rm.frames + 1 ≤ R.frames) (hlocals : W9 + (maxL + 11) + rm.locals ≤ R.locals)
    (hws : ∀ w ∈ ws, ∀ a' U, s.WarmedH U.vm → w.before a' U = true) (hcode : Cond.code y bytes maxL ret ∈ ws) (hinit : ∀ a' U, s.WarmedH U.vm → (Cond.initialized y.cls).before a' U = true) :
    vx_Back l R p e below s sargs y len W9 (PreOf R mc ms Pc) (PostOf Qc mc ms free) (vx_Post XC mc ms free) := by
  intro m meth c A g ig mk a X hg hsize hdg hW hn hp
  have h1 : (headSpec ws rm).pre.before a A.U = true := atoms_intro fun w hw => hws w hw _ _ X.warmed
  have h2 : (Cond.code y bytes maxL ret).before a A.U = true := hws _ hcode _ _ X.warmed
  have h3 : (Cond.initialized y.cls).before a A.U = true := hinit _ _ X.warmed
  have h4 : A.cells + (headSpec ws rm).room.cells ≤ R.cells := by rw [show (headSpec ws rm).room.cells = mc from hrc]; exact hp.1
  have h5 : A.slots + (headSpec ws rm).room.slots ≤ R.slots := by rw [show (headSpec ws rm).room.slots = ms from hrs]; exact hp.2.1
  have hPc : Pc a (A.U.calling g mk a) := hblind _ _ _ _ hp.2.2
  obtain ⟨U, Ls, c0, s0⟩ := A
  dsimp only [Pt.U, Pt.locs, Pt.cells, Pt.slots] at h1 h2 h3 h4 h5 X hn hPc ⊢
  obtain ⟨methY, cY, hmY, hcY, -, hlY, -, -, -, -⟩ := Cond.code_spec hn h2
  obtain ⟨kY, hkY, -⟩ := className_of_methodNamed hn
  have hinitY : kY.init = .initialized := Cond.initialized_spec (findClass_of_methodNamed hn) hkY h3
  have h : At U g.method c below := by rw [hg]; exact X.here
  have hlocals9 : W9 + (maxL + 11) + (headSpec ws rm).room.locals ≤ R.locals := hlocals
  have happ : (headSpec ws rm).appliesLoose y e.platform (U.calling g mk a) = true :=
    Spec.appliesLoose_calling (g := g) h hdg hn hkY hinitY
      (X.room_calling (g := g) (R' := (headSpec ws rm).room) hsize hmY hcY hframes (by rw [hlY]; omega) h4 h5) h1
  obtain ⟨mid, hmid⟩ := h.above
  have hfr : (U.setTop g).frames = (.java g :: mid) ++ below := by rw [State.frames_setTop' g h.top, hmid]; rfl
  obtain ⟨o, s₂, hsteps, -, hend, hq⟩ := Steps.callFree hM p X.admits X.cas X.clock (acts := []) hfr happ hPc trivial
  have hq' : vx_Q Qc XC mc ms free a (U.calling g mk a) o s₂ := hq
  rw [State.frames_setTop' g h.top] at hend
  obtain ⟨g₀, hg0⟩ := Option.isSome_iff_exists.mp h.top
  obtain ⟨r, hr⟩ := State.topJava?_eq_some.mp hg0
  have hr' : (({ U with heap := s₂.heap, slotsUsed := s₂.slotsUsed } : State).setVm s₂.vm).frames = .java g₀ :: r := hr
  rcases hq' with ⟨hqc, L, hfe, hL⟩ | ⟨q, rfl, E, ce, L, hx, hce, hcv, hcl, hW₂, hsm, hL⟩
  · obtain ⟨⟨v, rfl⟩, hW₂, e2, q2, q3, q4, q5, q6⟩ := id hfe
    have e3 : s₂ = ({ (U.calling g mk a).setFrames s₂.frames with heap := s₂.heap, slotsUsed := s₂.slotsUsed } : State).setVm s₂.vm := by
      have : s₂ = ({ s₂ with vm := (U.calling g mk a).vm } : State).setVm s₂.vm := rfl
      rw [e2] at this
      exact this
    obtain ⟨c₂, i₂, len₂, hc₂, hd₂, hf₂⟩ := hend
    have hW' : U.WarmedH s₂.vm := hW₂
    have hcc : c₂ = c := by
      have h1 : s₂.code? g.method = U.code? g.method := by
        rw [State.code?_eq, State.code?_eq, hW'.alike.method?]
      exact Option.some.inj (hc₂.symm.trans (h1.trans h.code))
    subst hcc
    have hlen : len₂ = len := by rw [hdg] at hd₂; cases hd₂; rfl
    subst hlen
    have hs₂ : s₂ = (({ U with heap := s₂.heap, slotsUsed := s₂.slotsUsed } : State).setVm s₂.vm).setTop { g with pc := g.pc + len₂, stack := v.toList ++ g.stack } := by
      refine e3.trans ?_
      rw [hf₂, State.calling_eq h.top, State.setFrames_setFrames, State.setTop_of_frames _ hr', hr]
      rfl
    have hsame : U.sameButNew ({ U with heap := s₂.heap, slotsUsed := s₂.slotsUsed } : State) L mc ms := by
      refine ⟨?_, q2, q3, q4, q5, q6⟩
      obtain ⟨t, ht, -⟩ := State.frames_cons hr
      show ({ U with heap := s₂.heap, slotsUsed := s₂.slotsUsed } : State) = { U.setFrames U.frames with heap := s₂.heap, slotsUsed := s₂.slotsUsed }
      rw [State.setFrames_self ht]
    subst hg
    refine Or.inl ⟨v, ⟨(({ U with heap := s₂.heap, slotsUsed := s₂.slotsUsed } : State).setVm s₂.vm), Ls ++ L, c0 + mc, s0 + ms⟩,
      ⟨X.admits, X.cas, X.clock, X.frames, X.room, X.hears, X.method, X.code, (X.here.setHeapUsed s₂.heap s₂.slotsUsed).setVm hW'.alike, X.tail, State.WarmedH.trans X.warmed hW', X.limits, X.bytes, X.same.trans (hsame.setVm s.vm)⟩,
      ⟨g, mk, s₂, L, rfl, rfl, hqc, rfl, hL, rfl, rfl⟩, ?_⟩
    show Steps p.tables e below _ ((({ U with heap := s₂.heap, slotsUsed := s₂.slotsUsed } : State).setVm s₂.vm).setTop { g with pc := g.pc + len₂, stack := v.toList ++ g.stack })
    rw [← hs₂]
    exact hsteps
  · obtain ⟨e2, q2, q3, q4, q5, q6⟩ := id hsm
    have e3 : s₂ = ({ (U.calling g mk a).setFrames s₂.frames with heap := s₂.heap, slotsUsed := s₂.slotsUsed } : State).setVm s₂.vm := by
      have : s₂ = ({ s₂ with vm := (U.calling g mk a).vm } : State).setVm s₂.vm := rfl
      rw [e2] at this
      exact this
    have hf₂ : s₂.frames = .throwing q :: .java g :: U.frames.tail := hend
    have hW' : U.WarmedH s₂.vm := hW₂
    have hs₂ : s₂ = ((({ U with heap := s₂.heap, slotsUsed := s₂.slotsUsed } : State).setVm s₂.vm).setTop g).pushFrame (.throwing q) := by
      refine e3.trans ?_
      rw [hf₂, State.calling_eq h.top, State.setFrames_setFrames, State.pushFrame, State.frames_setTop _ hr', State.setTop_of_frames _ hr', State.setFrames_setFrames, hr]
      rfl
    have hsame : U.sameButNew ({ U with heap := s₂.heap, slotsUsed := s₂.slotsUsed } : State) L mc ms := by
      refine ⟨?_, q2, q3, q4, q5, q6⟩
      obtain ⟨t, ht, -⟩ := State.frames_cons hr
      show ({ U with heap := s₂.heap, slotsUsed := s₂.slotsUsed } : State) = { U.setFrames U.frames with heap := s₂.heap, slotsUsed := s₂.slotsUsed }
      rw [State.setFrames_self ht]
    subst hg
    refine Or.inr ⟨q, ⟨(({ U with heap := s₂.heap, slotsUsed := s₂.slotsUsed } : State).setVm s₂.vm), Ls ++ L, c0 + mc, s0 + ms⟩,
      ⟨X.admits, X.cas, X.clock, X.frames, X.room, X.hears, X.method, X.code, (X.here.setHeapUsed s₂.heap s₂.slotsUsed).setVm hW'.alike, X.tail, State.WarmedH.trans X.warmed hW', X.limits, X.bytes, X.same.trans (hsame.setVm s.vm)⟩,
      ⟨g, mk, s₂, L, E, ce, rfl, rfl, hx, hce, hcv, hcl, rfl, hL, rfl, rfl⟩, ?_⟩
    show Steps p.tables e below _ (((({ U with heap := s₂.heap, slotsUsed := s₂.slotsUsed } : State).setVm s₂.vm).setTop g).pushFrame (.throwing q))
    rw [← hs₂]
    exact hsteps
end Payer
section Calls
variable {p : Program} {l : Launch} {e : Env} {R : Room} {s : State} {m : MethodId} {args : Array Value} {below : List Frame} {meth : Method} {c : Code} {T : State} {locs : List Loc} {cells slots : Nat}
theorem vx_callV (X : Stand p l e R s m args below meth c T locs cells slots) (hexec : p.tables.exec = Jvm.exec) {own C : String} {index : Nat} {y : MethodName} {bytes : ByteArray} {maxL : Nat} {ret : Option FieldType}
    (hown : s.vm.findClass own = some m.cls) (hlink : (Cond.methodLink own index y).before args s = true) (hinst : (Cond.instanceMethod y).before args s = true) (hsel : (Cond.selects C y y).before args s = true)
    (hcode : (Cond.code y bytes maxL ret).before args s = true) (hy : y.cls ≠ "java/lang/invoke/MethodHandle" ∧ y.cls ≠ "java/lang/invoke/VarHandle")
    {W9 : Nat} {Pre : Pt → Array Value → Prop} {Post : Pt → Array Value → Option Value → Pt → Prop} {PostX : Pt → Array Value → Addr → Pt → Prop} (hK : vx_Back l R p e below s args y 3 W9 Pre Post PostX)
    {b : Addr} {cellB : Cell} (hcell : T.heap[b]? = some cellB) (hobj : cellB.vm.isStatics = false) (hcls : s.vm.findClass C = some cellB.cls)
    {g : JFrame} (hg : g.method = m) (hsize : g.locals.size = c.maxLocals) {argsL rest : List Value} (hlen : ∀ sig, parseMethodDescriptor y.desc = some sig → argsL.length = sig.parameters.length)
    (hstack : g.stack = argsL.reverse ++ .ref b :: rest) (hW : 2 * g.monitorRoom + (rest.map fun v => v.category).sum ≤ W9) (hdg : decode c.code g.pc = .ok (.invokevirtual index, 3))
    (hpre : ∀ vm₁, s.WarmedH vm₁ → Pre ⟨T.setVm vm₁, locs, cells, slots⟩ (Value.ref b :: argsL).toArray) :
    (∃ (v : Option Value) (vm₁ : Vm) (B : Pt), s.WarmedH vm₁ ∧ Stand p l e R s m args below meth c B.U B.locs B.cells B.slots ∧ Post ⟨T.setVm vm₁, locs, cells, slots⟩ (Value.ref b :: argsL).toArray v B ∧
      ∀ target, Steps p.tables e below (B.U.setTop { g with pc := g.pc + 3, stack := v.toList ++ rest }) target → Steps p.tables e below (T.setTop g) target) ∨
    (∃ (q : Addr) (vm₁ : Vm) (B : Pt), s.WarmedH vm₁ ∧ Stand p l e R s m args below meth c B.U B.locs B.cells B.slots ∧ PostX ⟨T.setVm vm₁, locs, cells, slots⟩ (Value.ref b :: argsL).toArray q B ∧
      Steps p.tables e below (T.setTop g) ((B.U.setTop { g with stack := rest }).pushFrame (.throwing q))) := by
  obtain ⟨mk, methM, hnamed, hmethM, hstM, habM⟩ := Cond.instanceMethod_spec hinst
  obtain ⟨methM', cM, hmethM', -, -, -, -, -, -, hsigM⟩ := Cond.code_spec hnamed hcode
  cases hmethM.symm.trans hmethM'
  obtain ⟨c2, r2, m2, q1, q2, q3, q4, kP, hkP, hkPi⟩ := Cond.selects_spec hsel
  cases hcls.symm.trans q1
  cases (State.methodFound?_of_named hnamed hy).symm.trans q2
  cases hnamed.symm.trans q3
  have hselP : selectMethod e.platform s.vm cellB.cls mk = .method mk := by rw [Launch.admits_selectMethod X.admits]; exact q4
  obtain ⟨vm₁, X₁, hstep₁⟩ := X.invokevirtual hexec hown hlink hnamed hmethM hstM hkP hkPi hy (a := b) (cell := cellB) hcell
    (fun z h => by rw [h] at hobj; cases hobj) hselP hmethM habM hkP hkPi (g := g) hg (argsL := argsL) (rest := rest) (hlen _ hsigM) hstack hdg
  rcases hK m meth c ⟨T.setVm vm₁, locs, cells, slots⟩ { g with stack := rest } (.invokevirtual index) mk (Value.ref b :: argsL).toArray X₁ hg hsize hdg hW (X₁.named hnamed) (hpre vm₁ X₁.warmed) with ⟨v, B, X', hpost, hsteps⟩ | ⟨q, B, X', hpost, hsteps⟩
  · exact Or.inl ⟨v, vm₁, B, X₁.warmed, X', hpost, fun target h => hstep₁ _ fun acts => by rw [doInvoke_state]; exact hsteps.trans h⟩
  · exact Or.inr ⟨q, vm₁, B, X₁.warmed, X', hpost, hstep₁ _ fun acts => by rw [doInvoke_state]; exact hsteps⟩
theorem vx_callS (X : Stand p l e R s m args below meth c T locs cells slots) (hexec : p.tables.exec = Jvm.exec) {own : String} {index : Nat} {y : MethodName} {bytes : ByteArray} {maxL : Nat} {ret : Option FieldType}
    (hown : s.vm.findClass own = some m.cls) (hlink : (Cond.methodLink own index y).before args s = true) (hstat : (Cond.static y).before args s = true) (hinit : (Cond.initialized y.cls).before args s = true)
    (hcode : (Cond.code y bytes maxL ret).before args s = true) (hy : y.cls ≠ "java/lang/invoke/MethodHandle" ∧ y.cls ≠ "java/lang/invoke/VarHandle")
    {W9 : Nat} {Pre : Pt → Array Value → Prop} {Post : Pt → Array Value → Option Value → Pt → Prop} {PostX : Pt → Array Value → Addr → Pt → Prop} (hK : vx_Back l R p e below s args y 3 W9 Pre Post PostX)
    {g : JFrame} (hg : g.method = m) (hsize : g.locals.size = c.maxLocals) {argsL rest : List Value} (hlen : ∀ sig, parseMethodDescriptor y.desc = some sig → argsL.length = sig.parameters.length)
    (hstack : g.stack = argsL.reverse ++ rest) (hW : 2 * g.monitorRoom + (rest.map fun v => v.category).sum ≤ W9) (hdg : decode c.code g.pc = .ok (.invokestatic index, 3))
    (hpre : ∀ vm₁, s.WarmedH vm₁ → Pre ⟨T.setVm vm₁, locs, cells, slots⟩ argsL.toArray) :
    (∃ (v : Option Value) (vm₁ : Vm) (B : Pt), s.WarmedH vm₁ ∧ Stand p l e R s m args below meth c B.U B.locs B.cells B.slots ∧ Post ⟨T.setVm vm₁, locs, cells, slots⟩ argsL.toArray v B ∧
      ∀ target, Steps p.tables e below (B.U.setTop { g with pc := g.pc + 3, stack := v.toList ++ rest }) target → Steps p.tables e below (T.setTop g) target) ∨
    (∃ (q : Addr) (vm₁ : Vm) (B : Pt), s.WarmedH vm₁ ∧ Stand p l e R s m args below meth c B.U B.locs B.cells B.slots ∧ PostX ⟨T.setVm vm₁, locs, cells, slots⟩ argsL.toArray q B ∧
      Steps p.tables e below (T.setTop g) ((B.U.setTop { g with stack := rest }).pushFrame (.throwing q))) := by
  obtain ⟨mk, hnamed⟩ := Cond.code_named hcode
  obtain ⟨methM, cM, hmethM, -, -, -, -, -, -, hsigM⟩ := Cond.code_spec hnamed hcode
  have hstatic : methM.isStatic = true := Cond.static_spec hnamed hmethM hstat
  obtain ⟨kP, hkP, -⟩ := className_of_methodNamed hnamed
  have hinitP : kP.init = .initialized := Cond.initialized_spec (findClass_of_methodNamed hnamed) hkP hinit
  obtain ⟨vm₁, X₁, hstep₁⟩ := X.invokestatic hexec hown hlink hnamed hmethM hstatic hkP hinitP hy (g := g) hg (argsL := argsL) (rest := rest) (hlen _ hsigM) hstack hdg
  rcases hK m meth c ⟨T.setVm vm₁, locs, cells, slots⟩ { g with stack := rest } (.invokestatic index) mk argsL.toArray X₁ hg hsize hdg hW (X₁.named hnamed) (hpre vm₁ X₁.warmed) with ⟨v, B, X', hpost, hsteps⟩ | ⟨q, B, X', hpost, hsteps⟩
  · exact Or.inl ⟨v, vm₁, B, X₁.warmed, X', hpost, fun target h => hstep₁ _ fun acts => by rw [doInvoke_state]; exact hsteps.trans h⟩
  · exact Or.inr ⟨q, vm₁, B, X₁.warmed, X', hpost, hstep₁ _ fun acts => by rw [doInvoke_state]; exact hsteps⟩
end Calls
theorem vx_cls {s : State} {T : State} {vm₁ : Vm} {E : String} {k : ClassId} (hW : s.WarmedH vm₁) (h : (T.setVm vm₁).vm.findClass E = some k) : s.vm.findClass E = some k := by
  have h1 : vm₁.findClass E = some k := h
  rw [hW.alike.findClass] at h1
  exact h1
/-- the method's frame g, with q thrown over it -/
def vx_W (p : Program) (l : Launch) (e : Env) (R : Room) (s : State) (m : MethodId) (args : Array Value) (below : List Frame) (meth : Method) (c : Code) (H : Heap) (locs : List Loc) (cells slots : Nat) (Q : State → Prop) (g : JFrame) (q : Addr) : Prop :=
  ∀ T : State, T.heap = H → Stand p l e R s m args below meth c T locs cells slots → ∃ t, Steps p.tables e below ((T.setTop g).pushFrame (.throwing q)) t ∧ Q t
def vx_Run (p : Program) (l : Launch) (e : Env) (R : Room) (s : State) (m : MethodId) (args : Array Value) (below : List Frame) (meth : Method) (c : Code) (H : Heap) (locs : List Loc) (cells slots mc ms : Nat) (g : JFrame) (rest : List Value) (Qa : State → Outcome → State → Prop) (XC : String → State → State → Prop) (free : Addr → Prop) : Prop :=
  ∀ T : State, T.heap = H → Stand p l e R s m args below meth c T locs cells slots →
    (∃ (v : Option Value) (st₀ t T' : State) (L : List Loc), st₀.heap = H ∧ Stand p l e R s m args below meth c T' (locs ++ L) (cells + mc) (slots + ms) ∧ (∀ q ∈ L, free q.base) ∧ T'.heap = t.heap ∧ T'.vm = t.vm ∧ Qa st₀ (.returned v) t ∧
      Goes p e below T g T' { g with pc := g.pc + 3, stack := v.toList ++ rest }) ∨
    (∃ (q : Addr) (st₀ t T' : State) (L : List Loc) (E : String) (ce : Cell), st₀.heap = H ∧ Stand p l e R s m args below meth c T' (locs ++ L) (cells + mc) (slots + ms) ∧ (∀ z ∈ L, free z.base) ∧ T'.heap = t.heap ∧ T'.vm = t.vm ∧ XC E st₀ t ∧ t.heap[q]? = some ce ∧ ce.vm = .none ∧ s.vm.findClass E = some ce.cls ∧
      Steps p.tables e below (T.setTop g) ((T'.setTop { g with stack := rest }).pushFrame (.throwing q)))
def vx_X {S : Type} (px : S → Prop) (B : String → S → State → Prop) (A : Nat → Prop) : String → State → State → Prop := fun E st t => ∃ u : S, px u ∧ B E u t ∧ va_F A st t
section Runs
variable {p : Program} {l : Launch} {e : Env} {R : Room} {s : State} {m : MethodId} {args : Array Value} {below : List Frame} {meth : Method} {c : Code} {H : Heap} {locs : List Loc} {cells slots : Nat}
variable {y : MethodName} {bytes cc : ByteArray} {maxL nL mc ms n index : Nat} {ret : Option FieldType} {ws : List Cond} {rm : Room} {Pc : Array Value → State → Prop} {Qc : Array Value → State → Outcome → State → Prop} {XC : String → State → State → Prop} {free : Addr → Prop} {Ts : List Cond} {own C : String} {b : Addr} {As rest : List Value} {g : JFrame}
theorem vx_callBack (cb : CallB R s args own index y bytes maxL ret ws rm mc ms n) (hM : vx_Met l y ws rm Pc Qc XC mc ms free) (hbl : FrameBlind Pc) : vx_Back l R p e below s args y 3 8 (PreOf R mc ms Pc) (PostOf Qc mc ms free) (vx_Post XC mc ms free) := by
  obtain ⟨hrc, hrs, hfr, hlo, hws, hcw, -, hini, -⟩ := cb
  exact vx_back (bytes := bytes) (maxL := maxL) (ret := ret) hM hbl hrc hrs hfr hlo hws hcw (fun a' U hW => word_at hW (Or.inl (by first | rfl | simp [Cond.onTables, Cond.keeps, Cond.steady])) hini)
theorem vx_runV (S : CallFix p m c cc nL s args Ts own) (hM : vx_Met l y ws rm Pc Qc XC mc ms free) (cw : CallW R s args own C index y bytes maxL ret ws rm mc ms n) (hp : PreV s H C b Pc As)
    (hg : g.method = m) (hn : As.length = n) (hsize : g.locals.size = nL) (hstack : g.stack = As.reverse ++ .ref b :: rest) (hW : 2 * g.monitorRoom + (rest.map fun v => v.category).sum ≤ 8) (hdg : decode cc g.pc = .ok (.invokevirtual index, 3)) (hf : cells + mc ≤ R.cells ∧ slots + ms ≤ R.slots) :
    vx_Run p l e R s m args below meth c H locs cells slots mc ms g rest (Qc (Value.ref b :: As).toArray) XC free := by
  have hK : vx_Back l R p e below s args y 3 8 (PreOf R mc ms Pc) (PostOf Qc mc ms free) (vx_Post XC mc ms free) := vx_callBack cw.1 hM hp.1
  obtain ⟨⟨-, -, -, -, -, -, hcode, -, hy, hlen, hl⟩, hin, hse⟩ := cw
  obtain ⟨hx, hb, hml, ho, -⟩ := S
  obtain ⟨-, ⟨cellB, hcB, hoB, hclB⟩, hPc⟩ := hp
  intro T hT X
  rcases vx_callV X hx (C := C) (bytes := bytes) (maxL := maxL) (ret := ret) ho hl hin hse hcode hy hK (by rw [hT]; exact hcB) hoB hclB hg (hsize.trans hml.symm) (argsL := As) (rest := rest) (fun sig h => hn.trans (hlen sig h)) hstack hW (by rw [hb]; exact hdg)
    (fun vm₁ hW₁ => ⟨hf.1, hf.2, hPc (T.setVm vm₁) hT hW₁⟩) with ⟨v, vm₁, ⟨U', l2, c2, s2⟩, hW₁, X', ⟨g', mk, t, L, e1, e2, hq, h1, hL, h2, h3⟩, st⟩ | ⟨q, vm₁, ⟨U', l2, c2, s2⟩, hW₁, X', ⟨g', mk, t, L, E, ce, e1, e2, hq, hce, hcv, hcl, h1, hL, h2, h3⟩, st⟩
  · dsimp only [Pt.U, Pt.locs, Pt.cells, Pt.slots] at X' e1 e2 h1 h2 h3 st
    subst h1; subst h2; subst h3
    exact Or.inl ⟨v, (T.setVm vm₁).calling g' mk (Value.ref b :: As).toArray, t, U', L, hT, X', hL, e1, e2, hq, st⟩
  · dsimp only [Pt.U, Pt.locs, Pt.cells, Pt.slots] at X' e1 e2 h1 h2 h3 st hcl
    subst h1; subst h2; subst h3
    exact Or.inr ⟨q, (T.setVm vm₁).calling g' mk (Value.ref b :: As).toArray, t, U', L, E, ce, hT, X', hL, e1, e2, hq, hce, hcv, vx_cls hW₁ hcl, st⟩
theorem vx_runS (S : CallFix p m c cc nL s args Ts own) (hM : vx_Met l y ws rm Pc Qc XC mc ms free) (cw : CallB R s args own index y bytes maxL ret ws rm mc ms n ∧ (Cond.static y).before args s = true) (hp : PreS s H Pc As)
    (hg : g.method = m) (hn : As.length = n) (hsize : g.locals.size = nL) (hstack : g.stack = As.reverse ++ rest) (hW : 2 * g.monitorRoom + (rest.map fun v => v.category).sum ≤ 8) (hdg : decode cc g.pc = .ok (.invokestatic index, 3)) (hf : cells + mc ≤ R.cells ∧ slots + ms ≤ R.slots) :
    vx_Run p l e R s m args below meth c H locs cells slots mc ms g rest (Qc As.toArray) XC free := by
  have hK : vx_Back l R p e below s args y 3 8 (PreOf R mc ms Pc) (PostOf Qc mc ms free) (vx_Post XC mc ms free) := vx_callBack cw.1 hM hp.1
  obtain ⟨⟨-, -, -, -, -, -, hcode, hini, hy, hlen, hl⟩, hstt⟩ := cw
  obtain ⟨hx, hb, hml, ho, -⟩ := S
  intro T hT X
  rcases vx_callS X hx (bytes := bytes) (maxL := maxL) (ret := ret) ho hl hstt hini hcode hy hK hg (hsize.trans hml.symm) (argsL := As) (rest := rest) (fun sig h => hn.trans (hlen sig h)) hstack hW (by rw [hb]; exact hdg)
    (fun vm₁ hW₁ => ⟨hf.1, hf.2, hp.2 (T.setVm vm₁) hT hW₁⟩) with ⟨v, vm₁, ⟨U', l2, c2, s2⟩, hW₁, X', ⟨g', mk, t, L, e1, e2, hq, h1, hL, h2, h3⟩, st⟩ | ⟨q, vm₁, ⟨U', l2, c2, s2⟩, hW₁, X', ⟨g', mk, t, L, E, ce, e1, e2, hq, hce, hcv, hcl, h1, hL, h2, h3⟩, st⟩
  · dsimp only [Pt.U, Pt.locs, Pt.cells, Pt.slots] at X' e1 e2 h1 h2 h3 st
    subst h1; subst h2; subst h3
    exact Or.inl ⟨v, (T.setVm vm₁).calling g' mk As.toArray, t, U', L, hT, X', hL, e1, e2, hq, st⟩
  · dsimp only [Pt.U, Pt.locs, Pt.cells, Pt.slots] at X' e1 e2 h1 h2 h3 st hcl
    subst h1; subst h2; subst h3
    exact Or.inr ⟨q, (T.setVm vm₁).calling g' mk As.toArray, t, U', L, E, ce, hT, X', hL, e1, e2, hq, hce, hcv, vx_cls hW₁ hcl, st⟩
end Runs
section Rows
variable {p : Program} {l : Launch} {e : Env} {R : Room} {s : State} {m : MethodId} {args : Array Value} {below : List Frame} {meth : Method} {c : Code} {H : Heap} {locs : List Loc} {cells slots : Nat} {Q : State → Prop}
variable {mc ms : Nat} {free : Addr → Prop} {A0 A1 : Nat → Prop} {H0 : Heap} {a : Array Value} {pc : Nat} {ls : Array Slot} {st0 rest : List Value}
theorem vx_keep {st₀ t T' : State} {L : List Loc} (h0 : st₀.heap = H) (e1 : T'.heap = t.heap) (hS : va_S A0 H0 H locs) (hA : ∀ q, q < H.size → A1 q → A0 q) (hf : ∀ q, free q → A0 q) (hL : ∀ q ∈ L, free q.base) (hF : va_F A1 st₀ t) :
    H.size ≤ T'.heap.size ∧ (∀ q : Nat, q < H.size → ¬ A1 q → T'.heap[q]? = H[q]?) ∧ va_S A0 H0 T'.heap (locs ++ L) := by
  obtain ⟨hz, hk⟩ := hF
  rw [h0] at hz hk
  exact ⟨by rw [e1]; exact hz, fun q h1 h2 => by rw [e1]; exact hk q h1 h2,
    ⟨Nat.le_trans hS.1 (by rw [e1]; exact hz), fun q h1 h2 => by rw [e1, hk q (Nat.lt_of_lt_of_le h1 hS.1) (fun z => h2 (hA q (Nat.lt_of_lt_of_le h1 hS.1) z))]; exact hS.2.1 q h1 h2, fun q hq => by
      rcases List.mem_append.mp hq with h | h
      · exact hS.2.2 q h
      · exact hf _ (hL q h)⟩⟩
theorem vx_calli {S SX : Type} {post : Int32 → S → Prop} {px : SX → Prop} {B : S → State → Prop} {BX : String → SX → State → Prop} {AX : Nat → Prop} (hr : vx_Run p l e R s m args below meth c H locs cells slots mc ms (F0 m pc ls st0) rest (va_Qi post B A1 a) (vx_X px BX AX) free) (hS : va_S A0 H0 H locs) (hA : ∀ q, q < H.size → A1 q → A0 q) (hf : ∀ q, free q → A0 q) (hAX : ∀ q, q < H.size → AX q → A0 q)
    (kx : ∀ (E : String) (ce : Cell) (q9 : Addr) (u : SX) (t : State) (H1 : Heap) (locs1 : List Loc), t.heap = H1 → s.vm.Alike t.vm → px u → BX E u t → H.size ≤ H1.size → (∀ q : Nat, q < H.size → ¬ AX q → H1[q]? = H[q]?) → va_S A0 H0 H1 locs1 → H1[q9]? = some ce → ce.vm = .none → s.vm.findClass E = some ce.cls → vx_W p l e R s m args below meth c H1 locs1 (cells + mc) (slots + ms) Q (F0 m pc ls rest) q9)
    (kk : ∀ (r : Int32) (u : S) (t : State) (H1 : Heap) (locs1 : List Loc), t.heap = H1 → s.vm.Alike t.vm → post r u → B u t → H.size ≤ H1.size → (∀ q : Nat, q < H.size → ¬ A1 q → H1[q]? = H[q]?) → va_S A0 H0 H1 locs1 → W p l e R s m args below meth c H1 locs1 (cells + mc) (slots + ms) Q (F0 m (pc + 3) ls (.int r :: rest))) : W p l e R s m args below meth c H locs cells slots Q (F0 m pc ls st0) := by
  intro T hT X
  rcases hr T hT X with ⟨v, st₀, t, T', L, h0, X', hL, e1, e2, ⟨⟨r, u, hv, hp, hb⟩, hF⟩, st⟩ | ⟨q, st₀, t, T', L, E, ce, h0, X', hL, e1, e2, ⟨u, hp, hb, hF⟩, hce, hcv, hcl, st⟩
  · cases hv
    obtain ⟨k1, k2, k3⟩ := vx_keep h0 e1 hS hA hf hL hF
    obtain ⟨t2, a1, b1⟩ := kk r u t T'.heap (locs ++ L) e1.symm (by rw [← e2]; exact X'.warmed.alike) hp hb k1 k2 k3 T' rfl X'
    exact ⟨t2, st t2 a1, b1⟩
  · obtain ⟨k1, k2, k3⟩ := vx_keep h0 e1 hS hAX hf hL hF
    obtain ⟨t2, a1, b1⟩ := kx E ce q u t T'.heap (locs ++ L) e1.symm (by rw [← e2]; exact X'.warmed.alike) hp hb k1 k2 k3 (by rw [e1]; exact hce) hcv hcl T' rfl X'
    exact ⟨t2, st.trans a1, b1⟩
theorem vx_calll {S SX : Type} {post : Int64 → S → Prop} {px : SX → Prop} {B : S → State → Prop} {BX : String → SX → State → Prop} {AX : Nat → Prop} (hr : vx_Run p l e R s m args below meth c H locs cells slots mc ms (F0 m pc ls st0) rest (va_Ql post B A1 a) (vx_X px BX AX) free) (hS : va_S A0 H0 H locs) (hA : ∀ q, q < H.size → A1 q → A0 q) (hf : ∀ q, free q → A0 q) (hAX : ∀ q, q < H.size → AX q → A0 q)
    (kx : ∀ (E : String) (ce : Cell) (q9 : Addr) (u : SX) (t : State) (H1 : Heap) (locs1 : List Loc), t.heap = H1 → s.vm.Alike t.vm → px u → BX E u t → H.size ≤ H1.size → (∀ q : Nat, q < H.size → ¬ AX q → H1[q]? = H[q]?) → va_S A0 H0 H1 locs1 → H1[q9]? = some ce → ce.vm = .none → s.vm.findClass E = some ce.cls → vx_W p l e R s m args below meth c H1 locs1 (cells + mc) (slots + ms) Q (F0 m pc ls rest) q9)
    (kk : ∀ (r : Int64) (u : S) (t : State) (H1 : Heap) (locs1 : List Loc), t.heap = H1 → s.vm.Alike t.vm → post r u → B u t → H.size ≤ H1.size → (∀ q : Nat, q < H.size → ¬ A1 q → H1[q]? = H[q]?) → va_S A0 H0 H1 locs1 → W p l e R s m args below meth c H1 locs1 (cells + mc) (slots + ms) Q (F0 m (pc + 3) ls (.long r :: rest))) : W p l e R s m args below meth c H locs cells slots Q (F0 m pc ls st0) := by
  intro T hT X
  rcases hr T hT X with ⟨v, st₀, t, T', L, h0, X', hL, e1, e2, ⟨⟨r, u, hv, hp, hb⟩, hF⟩, st⟩ | ⟨q, st₀, t, T', L, E, ce, h0, X', hL, e1, e2, ⟨u, hp, hb, hF⟩, hce, hcv, hcl, st⟩
  · cases hv
    obtain ⟨k1, k2, k3⟩ := vx_keep h0 e1 hS hA hf hL hF
    obtain ⟨t2, a1, b1⟩ := kk r u t T'.heap (locs ++ L) e1.symm (by rw [← e2]; exact X'.warmed.alike) hp hb k1 k2 k3 T' rfl X'
    exact ⟨t2, st t2 a1, b1⟩
  · obtain ⟨k1, k2, k3⟩ := vx_keep h0 e1 hS hAX hf hL hF
    obtain ⟨t2, a1, b1⟩ := kx E ce q u t T'.heap (locs ++ L) e1.symm (by rw [← e2]; exact X'.warmed.alike) hp hb k1 k2 k3 (by rw [e1]; exact hce) hcv hcl T' rfl X'
    exact ⟨t2, st.trans a1, b1⟩
theorem vx_callf {S SX : Type} {post : UInt32 → S → Prop} {px : SX → Prop} {B : S → State → Prop} {BX : String → SX → State → Prop} {AX : Nat → Prop} (hr : vx_Run p l e R s m args below meth c H locs cells slots mc ms (F0 m pc ls st0) rest (va_Qf post B A1 a) (vx_X px BX AX) free) (hS : va_S A0 H0 H locs) (hA : ∀ q, q < H.size → A1 q → A0 q) (hf : ∀ q, free q → A0 q) (hAX : ∀ q, q < H.size → AX q → A0 q)
    (kx : ∀ (E : String) (ce : Cell) (q9 : Addr) (u : SX) (t : State) (H1 : Heap) (locs1 : List Loc), t.heap = H1 → s.vm.Alike t.vm → px u → BX E u t → H.size ≤ H1.size → (∀ q : Nat, q < H.size → ¬ AX q → H1[q]? = H[q]?) → va_S A0 H0 H1 locs1 → H1[q9]? = some ce → ce.vm = .none → s.vm.findClass E = some ce.cls → vx_W p l e R s m args below meth c H1 locs1 (cells + mc) (slots + ms) Q (F0 m pc ls rest) q9)
    (kk : ∀ (r : UInt32) (u : S) (t : State) (H1 : Heap) (locs1 : List Loc), t.heap = H1 → s.vm.Alike t.vm → post r u → B u t → H.size ≤ H1.size → (∀ q : Nat, q < H.size → ¬ A1 q → H1[q]? = H[q]?) → va_S A0 H0 H1 locs1 → W p l e R s m args below meth c H1 locs1 (cells + mc) (slots + ms) Q (F0 m (pc + 3) ls (.float r :: rest))) : W p l e R s m args below meth c H locs cells slots Q (F0 m pc ls st0) := by
  intro T hT X
  rcases hr T hT X with ⟨v, st₀, t, T', L, h0, X', hL, e1, e2, ⟨⟨r, u, hv, hp, hb⟩, hF⟩, st⟩ | ⟨q, st₀, t, T', L, E, ce, h0, X', hL, e1, e2, ⟨u, hp, hb, hF⟩, hce, hcv, hcl, st⟩
  · cases hv
    obtain ⟨k1, k2, k3⟩ := vx_keep h0 e1 hS hA hf hL hF
    obtain ⟨t2, a1, b1⟩ := kk r u t T'.heap (locs ++ L) e1.symm (by rw [← e2]; exact X'.warmed.alike) hp hb k1 k2 k3 T' rfl X'
    exact ⟨t2, st t2 a1, b1⟩
  · obtain ⟨k1, k2, k3⟩ := vx_keep h0 e1 hS hAX hf hL hF
    obtain ⟨t2, a1, b1⟩ := kx E ce q u t T'.heap (locs ++ L) e1.symm (by rw [← e2]; exact X'.warmed.alike) hp hb k1 k2 k3 (by rw [e1]; exact hce) hcv hcl T' rfl X'
    exact ⟨t2, st.trans a1, b1⟩
theorem vx_calld {S SX : Type} {post : UInt64 → S → Prop} {px : SX → Prop} {B : S → State → Prop} {BX : String → SX → State → Prop} {AX : Nat → Prop} (hr : vx_Run p l e R s m args below meth c H locs cells slots mc ms (F0 m pc ls st0) rest (va_Qd post B A1 a) (vx_X px BX AX) free) (hS : va_S A0 H0 H locs) (hA : ∀ q, q < H.size → A1 q → A0 q) (hf : ∀ q, free q → A0 q) (hAX : ∀ q, q < H.size → AX q → A0 q)
    (kx : ∀ (E : String) (ce : Cell) (q9 : Addr) (u : SX) (t : State) (H1 : Heap) (locs1 : List Loc), t.heap = H1 → s.vm.Alike t.vm → px u → BX E u t → H.size ≤ H1.size → (∀ q : Nat, q < H.size → ¬ AX q → H1[q]? = H[q]?) → va_S A0 H0 H1 locs1 → H1[q9]? = some ce → ce.vm = .none → s.vm.findClass E = some ce.cls → vx_W p l e R s m args below meth c H1 locs1 (cells + mc) (slots + ms) Q (F0 m pc ls rest) q9)
    (kk : ∀ (r : UInt64) (u : S) (t : State) (H1 : Heap) (locs1 : List Loc), t.heap = H1 → s.vm.Alike t.vm → post r u → B u t → H.size ≤ H1.size → (∀ q : Nat, q < H.size → ¬ A1 q → H1[q]? = H[q]?) → va_S A0 H0 H1 locs1 → W p l e R s m args below meth c H1 locs1 (cells + mc) (slots + ms) Q (F0 m (pc + 3) ls (.double r :: rest))) : W p l e R s m args below meth c H locs cells slots Q (F0 m pc ls st0) := by
  intro T hT X
  rcases hr T hT X with ⟨v, st₀, t, T', L, h0, X', hL, e1, e2, ⟨⟨r, u, hv, hp, hb⟩, hF⟩, st⟩ | ⟨q, st₀, t, T', L, E, ce, h0, X', hL, e1, e2, ⟨u, hp, hb, hF⟩, hce, hcv, hcl, st⟩
  · cases hv
    obtain ⟨k1, k2, k3⟩ := vx_keep h0 e1 hS hA hf hL hF
    obtain ⟨t2, a1, b1⟩ := kk r u t T'.heap (locs ++ L) e1.symm (by rw [← e2]; exact X'.warmed.alike) hp hb k1 k2 k3 T' rfl X'
    exact ⟨t2, st t2 a1, b1⟩
  · obtain ⟨k1, k2, k3⟩ := vx_keep h0 e1 hS hAX hf hL hF
    obtain ⟨t2, a1, b1⟩ := kx E ce q u t T'.heap (locs ++ L) e1.symm (by rw [← e2]; exact X'.warmed.alike) hp hb k1 k2 k3 (by rw [e1]; exact hce) hcv hcl T' rfl X'
    exact ⟨t2, st.trans a1, b1⟩
theorem vx_callv {S SX : Type} {post : S → Prop} {px : SX → Prop} {B : S → State → Prop} {BX : String → SX → State → Prop} {AX : Nat → Prop} (hr : vx_Run p l e R s m args below meth c H locs cells slots mc ms (F0 m pc ls st0) rest (va_Qv post B A1 a) (vx_X px BX AX) free) (hS : va_S A0 H0 H locs) (hA : ∀ q, q < H.size → A1 q → A0 q) (hf : ∀ q, free q → A0 q) (hAX : ∀ q, q < H.size → AX q → A0 q)
    (kx : ∀ (E : String) (ce : Cell) (q9 : Addr) (u : SX) (t : State) (H1 : Heap) (locs1 : List Loc), t.heap = H1 → s.vm.Alike t.vm → px u → BX E u t → H.size ≤ H1.size → (∀ q : Nat, q < H.size → ¬ AX q → H1[q]? = H[q]?) → va_S A0 H0 H1 locs1 → H1[q9]? = some ce → ce.vm = .none → s.vm.findClass E = some ce.cls → vx_W p l e R s m args below meth c H1 locs1 (cells + mc) (slots + ms) Q (F0 m pc ls rest) q9)
    (kk : ∀ (u : S) (t : State) (H1 : Heap) (locs1 : List Loc), t.heap = H1 → s.vm.Alike t.vm → post u → B u t → H.size ≤ H1.size → (∀ q : Nat, q < H.size → ¬ A1 q → H1[q]? = H[q]?) → va_S A0 H0 H1 locs1 → W p l e R s m args below meth c H1 locs1 (cells + mc) (slots + ms) Q (F0 m (pc + 3) ls (rest))) : W p l e R s m args below meth c H locs cells slots Q (F0 m pc ls st0) := by
  intro T hT X
  rcases hr T hT X with ⟨v, st₀, t, T', L, h0, X', hL, e1, e2, ⟨⟨u, hv, hp, hb⟩, hF⟩, st⟩ | ⟨q, st₀, t, T', L, E, ce, h0, X', hL, e1, e2, ⟨u, hp, hb, hF⟩, hce, hcv, hcl, st⟩
  · cases hv
    obtain ⟨k1, k2, k3⟩ := vx_keep h0 e1 hS hA hf hL hF
    obtain ⟨t2, a1, b1⟩ := kk u t T'.heap (locs ++ L) e1.symm (by rw [← e2]; exact X'.warmed.alike) hp hb k1 k2 k3 T' rfl X'
    exact ⟨t2, st t2 a1, b1⟩
  · obtain ⟨k1, k2, k3⟩ := vx_keep h0 e1 hS hAX hf hL hF
    obtain ⟨t2, a1, b1⟩ := kx E ce q u t T'.heap (locs ++ L) e1.symm (by rw [← e2]; exact X'.warmed.alike) hp hb k1 k2 k3 (by rw [e1]; exact hce) hcv hcl T' rfl X'
    exact ⟨t2, st.trans a1, b1⟩
/-- caught by the row x of this method's table; the rows ahead don't take it -/
theorem vx_catch {own name : String} {E : String} {ce : Cell} {q : Addr} (hown : s.vm.findClass own = some m.cls) (pre : List ExceptionTableEntry) (x : ExceptionTableEntry) (suf : List ExceptionTableEntry) (hsplit : c.exceptionTable.toList = pre ++ x :: suf)
    (hpass : ∀ z ∈ pre, covers z pc = false ∨ (z.catchType ≠ 0 ∧ ∃ nm : String, (Cond.classLink own z.catchType nm).before args s = true ∧ va_Nc E nm s)) (hx : covers x pc = true) (h0 : x.catchType ≠ 0)
    (hlink : (Cond.classLink own x.catchType name).before args s = true) (hcast : (Cond.castable E name).before args s = true) (hcell : H[q]? = some ce) (hv : ce.vm = .none) (hcl : s.vm.findClass E = some ce.cls)
    (kk : W p l e R s m args below meth c H locs cells slots Q (F0 m x.handlerPc ls [.ref q])) : vx_W p l e R s m args below meth c H locs cells slots Q (F0 m pc ls rest) q := by
  intro T hT X
  have hpl : e.platform.magicAccessors = ({} : Platform).magicAccessors := by rw [X.admits.platform]
  obtain ⟨c3, c4, hc3, hc4, hasg⟩ := Cond.castable_spec hcast
  cases Option.some.inj (hc3.symm.trans hcl)
  obtain ⟨c5, hc5, hcl5⟩ := Cond.classLink_spec hown hlink e.platform hpl
  cases Option.some.inj (hc4.symm.trans hc5)
  obtain ⟨vm', X', st⟩ := X.thenCaughtThrough q (g := F0 m pc ls rest) rfl (Steps.refl _) (by rw [hT]; exact hcell) (by rw [hv]; rfl) (by obtain ⟨k9, h9, -⟩ := Vm.findClass_spec hcl; exact ⟨k9, h9⟩) pre x suf hsplit
    (fun z hz => by
      rcases hpass z hz with h | ⟨hz0, nm, hl1, hn1⟩
      · exact Or.inl h
      · obtain ⟨c6, hc6, hcl6⟩ := Cond.classLink_spec hown hl1 e.platform hpl
        obtain ⟨a8, b8, h1, h2, h3⟩ := hn1
        cases Option.some.inj (h1.symm.trans hcl)
        cases Option.some.inj (h2.symm.trans hc6)
        exact Or.inr ⟨hz0, _, hcl6, h3⟩) hx (Or.inr ⟨h0, c4, hcl5, hasg⟩)
  obtain ⟨t, a1, b1⟩ := kk (T.setVm vm') hT X'
  exact ⟨t, st.trans a1, b1⟩
end Rows
section Ends
variable {p : Program} {l : Launch} {e : Env} {R : Room} {s : State} {m : MethodId} {args : Array Value} {below : List Frame} {meth : Method} {c : Code} {H : Heap} {locs : List Loc} {cells slots : Nat} {Q : State → Prop}
variable {mc ms : Nat} {free : Addr → Prop} {A0 A1 : Nat → Prop} {H0 : Heap} {a : Array Value} {ls : Array Slot} {st0 rest : List Value}
variable {Qc : Array Value → State → Outcome → State → Prop} {XC : String → State → State → Prop}
/-- what a body that may throw owes at its end -/
def vx_MQ (below : List Frame) (Qc : Array Value → State → Outcome → State → Prop) (XC : String → State → State → Prop) (a : Array Value) (s : State) (mc ms : Nat) (free : Addr → Prop) : State → Prop := fun t =>
  ∃ o, t.status = .running ∧ Ended t below o ∧ vx_Q Qc XC mc ms free a s o t
theorem vx_ret {g : JFrame} {mc ms : Nat} (k : W p l e R s m args below meth c H locs cells slots (MQ below Qc args s mc ms free) g) : W p l e R s m args below meth c H locs cells slots (vx_MQ below Qc XC args s mc ms free) g := by
  intro T hT X
  obtain ⟨t, a1, o, b1, b2, b3, b4⟩ := k T hT X
  exact ⟨t, a1, o, b1, b2, Or.inl ⟨b3, b4⟩⟩
/-- not caught here: it goes on to the caller -/
theorem vx_widen {g : JFrame} {q : Addr} {k n : Nat} (h1 : cells ≤ k) (h2 : slots ≤ n) (kk : vx_W p l e R s m args below meth c H locs k n Q g q) : vx_W p l e R s m args below meth c H locs cells slots Q g q := fun T hT X => kk T hT (stand_widen X h1 h2)
theorem vx_out {pc : Nat} {E : String} {ce : Cell} {q : Addr} {mc ms : Nat} (hout : ∀ x ∈ c.exceptionTable.toList, covers x pc = false) (hlocks : meth.locks = false) (hcell : H[q]? = some ce) (hv : ce.vm = .none) (hcl : s.vm.findClass E = some ce.cls)
    (hx : ∀ t : State, t.heap = H → s.vm.Alike t.vm → XC E s t) (hf : ∀ z ∈ locs, free z.base) (hc : cells ≤ mc) (hs : slots ≤ ms) :
    vx_W p l e R s m args below meth c H locs cells slots (vx_MQ below Qc XC args s mc ms free) (F0 m pc ls rest) q := by
  intro T hT X
  obtain ⟨st1, hrun, hend, hW, hsm⟩ := X.leaveThrown q (g := F0 m pc ls rest) rfl rfl rfl hout hlocks
  have hcell9 : (T.setFrames (.throwing q :: below)).heap[q]? = some ce := by
    show T.heap[q]? = some ce
    rw [hT]; exact hcell
  exact ⟨_, st1, .threw q, hrun, hend, Or.inr ⟨q, rfl, E, ce, locs, hx _ hT hW.alike, hcell9, hv, hcl, hW, hsm.mono hc hs, hf⟩⟩
theorem vx_frame {U : State} {k n : Nat} (h : s.sameButNew ({ U with vm := s.vm } : State) locs k n) : s.heap.size ≤ U.heap.size ∧ ∀ q : Nat, q < s.heap.size → (∀ z ∈ locs, z.base ≠ q) → U.heap[q]? = s.heap[q]? := by
  obtain ⟨-, h2, -, -, -, h6⟩ := h
  refine ⟨h2, fun q hq hz => ?_⟩
  obtain ⟨c9, e1, e2, e3, e4⟩ := h6 q _ (Array.getElem?_eq_getElem hq)
  have hs : c9.slots = (s.heap[q]).slots := Array.ext_getElem? fun i => e4 i fun hm => hz _ hm rfl
  have h9 : c9 = s.heap[q] := by
    rw [hs] at e2
    exact e2
  have e5 : U.heap[q]? = some c9 := e1
  rw [e5, h9, Array.getElem?_eq_getElem hq]
/-- the words of a throw but the four that speak of the heap -/
def vx_no (w : Cond) : Bool := decide (w ≠ .isRef (.static Bundle.tN "UNASSIGNED_STACK" Bundle.steD)) && decide (w ≠ .isRef (.static Bundle.tN "SUPPRESSED_SENTINEL" Bundle.listD)) && decide (w ≠ .laysStatic Bundle.tN "UNASSIGNED_STACK" Bundle.steD) && decide (w ≠ .laysStatic Bundle.tN "SUPPRESSED_SENTINEL" Bundle.listD)
def vx_at0 (own : String) (ic : Nat) (X : String) (names : List String) : List Cond := (Bundle.ownAtoms0 own ic X names).filter vx_no
def vx_atS (own : String) (ic : Nat) (X : String) (names : List String) : List Cond := (Bundle.ownAtoms own ic X names).filter vx_no
/-- a word that the tables alone decide, or a good one -/
def vx_ot (w : Cond) : Bool := w.onTables || goodWord w
theorem vx_ot_at {args a' : Array Value} {s U : State} {w : Cond} (hW : s.WarmedH U.vm) (hvm : s.vm = U.vm) (hg : vx_ot w = true) (h : w.before args s = true) : w.before a' U = true := by
  simp only [vx_ot, Bool.or_eq_true] at hg
  rcases hg with hg | hg
  · exact va_tabs hg hvm h
  · exact word_at hW (good_of_word hg) h
/-- a list's words: the good ones out of the method's own list, the others by premises of their own -/
theorem vx_hat {args : Array Value} {s : State} {L B : List Cond} (h1 : ∀ w ∈ L.filter goodWord, w.before args s = true) (h2 : ∀ w ∈ L.filter (fun w => !goodWord w), w ∈ B) (h3 : ∀ w ∈ B, w.before args s = true) : ∀ w ∈ L, w.before args s = true := by
  intro w hw
  by_cases g : goodWord w = true
  · exact h1 w (List.mem_filter.mpr ⟨hw, g⟩)
  · refine h3 w (h2 w (List.mem_filter.mpr ⟨hw, ?_⟩))
    show (!goodWord w) = true
    cases hgw : goodWord w
    · rfl
    · exact absurd hgw g
theorem vx_c {args : Array Value} {s : State} {w : Cond} {B : List Cond} (h : w.before args s = true) (t : ∀ w ∈ B, w.before args s = true) : ∀ w' ∈ w :: B, w'.before args s = true := fun w' h' => (List.mem_cons.mp h').elim (fun e => by rw [e]; exact h) (t w')
theorem vx_n {args : Array Value} {s : State} : ∀ w ∈ ([] : List Cond), w.before args s = true := fun _ h => nomatch h
theorem vx_own {args : Array Value} {s : State} {L : List Cond} (h1 : ∀ w ∈ L.filter vx_no, w.before args s = true)
    (hU : (Cond.isRef (.static Bundle.tN "UNASSIGNED_STACK" Bundle.steD)).before args s = true) (hN : (Cond.isRef (.static Bundle.tN "SUPPRESSED_SENTINEL" Bundle.listD)).before args s = true)
    (lU : (Cond.laysStatic Bundle.tN "UNASSIGNED_STACK" Bundle.steD).before args s = true) (lN : (Cond.laysStatic Bundle.tN "SUPPRESSED_SENTINEL" Bundle.listD).before args s = true) : ∀ w ∈ L, w.before args s = true := by
  intro w hw
  by_cases e1 : w = .isRef (.static Bundle.tN "UNASSIGNED_STACK" Bundle.steD)
  · rw [e1]; exact hU
  · by_cases e2 : w = .isRef (.static Bundle.tN "SUPPRESSED_SENTINEL" Bundle.listD)
    · rw [e2]; exact hN
    · by_cases e3 : w = .laysStatic Bundle.tN "UNASSIGNED_STACK" Bundle.steD
      · rw [e3]; exact lU
      · by_cases e4 : w = .laysStatic Bundle.tN "SUPPRESSED_SENTINEL" Bundle.listD
        · rw [e4]; exact lN
        · exact h1 w (List.mem_filter.mpr ⟨hw, by unfold vx_no; rw [decide_eq_true e1, decide_eq_true e2, decide_eq_true e3, decide_eq_true e4]; rfl⟩)
/-- where a static field lies, its class's statics cell in H -/
def vx_L (C n d : String) (A : Nat → Prop) (U : State) (H : Heap) : Prop := ∃ (c : ClassId) (k : Class) (i : Nat) (f : Field) (a : Nat) (cell : Cell), U.vm.findClass C = some c ∧ U.fieldFound? C n d = some (c, k, i, f) ∧ f.isStatic = true ∧ k.statics = some a ∧ H[a]? = some cell ∧ cell.vm.isStatics = true ∧ cell.cls = c ∧ f.slot < cell.slots.size ∧ k.staticTypes[f.slot]? = some f.type ∧ ¬ A a
theorem vx_L.moved {C n d : String} {A : Nat → Prop} {u U : State} {H : Heap} (hvm : u.vm.Alike U.vm) (h : vx_L C n d A u H) : vx_L C n d A U H := by
  obtain ⟨c, k, i, f, a, cell, h1, h2, h3, h4, h5, h6, h7, h8, h9, h10⟩ := h
  obtain ⟨k', hi', he⟩ := State.fieldFound?_setVm hvm h2
  exact ⟨c, k', i, f, a, cell, by rw [hvm.findClass]; exact h1, hi', h3, by rw [he]; exact h4, h5, h6, h7, h8, by rw [he]; exact h9, h10⟩
theorem vx_L.kept {C n d : String} {A : Nat → Prop} {U : State} {H H1 : Heap} (h : vx_L C n d A U H) (hq : ∀ a : Nat, a < H.size → ¬ A a → H1[a]? = H[a]?) : vx_L C n d A U H1 := by
  obtain ⟨c, k, i, f, a, cell, h1, h2, h3, h4, h5, h6, h7, h8, h9, h10⟩ := h
  exact ⟨c, k, i, f, a, cell, h1, h2, h3, h4, by rw [hq a (Array.getElem?_eq_some_iff.mp h5).1 h10]; exact h5, h6, h7, h8, h9, h10⟩
theorem vx_L.narrow {C n d : String} {A B : Nat → Prop} {U : State} {H : Heap} (h : vx_L C n d A U H) (hAB : ∀ q, B q → A q) : vx_L C n d B U H := by
  obtain ⟨c, k, i, f, a, cell, h1, h2, h3, h4, h5, h6, h7, h8, h9, h10⟩ := h
  exact ⟨c, k, i, f, a, cell, h1, h2, h3, h4, h5, h6, h7, h8, h9, fun z => h10 (hAB _ z)⟩
theorem vx_L.word {C n d : String} {A : Nat → Prop} {s : State} {args : Array Value} (h : vx_L C n d A s s.heap) : (Cond.laysStatic C n d).before args s = true := by
  obtain ⟨c, k, i, f, a, cell, h1, h2, h3, h4, h5, h6, h7, h8, h9, -⟩ := h
  show (Cond.laysStatic C n d).holds args s none s [] = true
  exact Cond.laysStatic_of h1 h2 h3 h4 h5 h6 h7 h8 h9
/-- .. and what it holds: null or some reference -/
def vx_Zq (C n d : String) (A : Nat → Prop) (U : State) (H : Heap) : Prop := va_Zq C n d A U H ∧ vx_L C n d A U H
theorem vx_Zq.moved {C n d : String} {A : Nat → Prop} {u U : State} {H : Heap} (hvm : u.vm.Alike U.vm) (h : vx_Zq C n d A u H) : vx_Zq C n d A U H := ⟨va_Zq.moved hvm h.1, vx_L.moved hvm h.2⟩
theorem vx_Zq.kept {C n d : String} {A : Nat → Prop} {U : State} {H H1 : Heap} (h : vx_Zq C n d A U H) (hq : ∀ a : Nat, a < H.size → ¬ A a → H1[a]? = H[a]?) : vx_Zq C n d A U H1 := ⟨va_Zq.kept h.1 hq, vx_L.kept h.2 hq⟩
theorem vx_Zq.narrow {C n d : String} {A B : Nat → Prop} {U : State} {H : Heap} (h : vx_Zq C n d A U H) (hAB : ∀ q, B q → A q) : vx_Zq C n d B U H := ⟨va_Zq.narrow h.1 hAB, vx_L.narrow h.2 hAB⟩
theorem vx_Zqof {args : Array Value} {s : State} {C n d : String} {A : Nat → Prop} (hl : (Cond.laysStatic C n d).before args s = true) (hini : (Cond.initialized C).before args s = true) (h : (Cond.isRef (.static C n d)).before args s = true) (hA : ∀ a : Nat, a < s.heap.size → ¬ A a) : vx_Zq C n d A s s.heap := by
  refine ⟨va_Zqof hl hini h hA, ?_⟩
  obtain ⟨c, k, i, f, a, cell, h1, h2, h3, h4, h5, h6, h7, h8, h9⟩ := Cond.laysStatic_spec hl
  exact ⟨c, k, i, f, a, cell, h1, h2, h3, h4, h5, h6, h7, h8, h9, hA a (Array.getElem?_eq_some_iff.mp h5).1⟩
theorem vx_isRef {C n d : String} {v : Value} {A : Nat → Prop} {s : State} {args : Array Value} (h : va_Z C n d v A s s.heap) (hv : v.isRef = true) : (Cond.isRef (.static C n d)).before args s = true := by
  obtain ⟨cf, kf, fi, f, a, cell, h1, h2, h3, h4, h5, h6, h7, -⟩ := h
  have he : (Term.static C n d).eval args s none [] s = some v := by
    simp [Term.eval, State.fieldNamed?, h1, h2, h4, h5, h6, h7]
  simp only [Cond.before, Cond.holds, Cond.value, he]
  cases v <;> simp_all [Value.isRef]
theorem vx_isRefq {C n d : String} {A : Nat → Prop} {s : State} {args : Array Value} (h : va_Zq C n d A s s.heap) : (Cond.isRef (.static C n d)).before args s = true := by
  rcases h with h | ⟨t, h⟩
  · exact vx_isRef h rfl
  · exact vx_isRef h rfl
/-- the same frame, seen from here: as if the method were called anew in this heap -/
theorem vx_rebase {T : State} (X : Stand p l e R s m args below meth c T locs cells slots) {R' : Room} (hf : R'.frames ≤ R.frames) (hl : R'.locals ≤ R.locals) (hc : cells + R'.cells ≤ R.cells) (hs : slots + R'.slots ≤ R.slots) :
    Stand p l e R' ((T.setVm s.vm).setFrames (.invoking m args :: below)) m args below meth c T [] 0 0 := by
  have htop : (T.setVm s.vm).topJava?.isSome := X.here.top
  have hF : ((T.setVm s.vm).setFrames (.invoking m args :: below)).frames = .invoking m args :: below := State.frames_setFrames _ (State.cur_lt_of_top htop)
  obtain ⟨g₀, hg0⟩ := Option.isSome_iff_exists.mp htop
  obtain ⟨r, hr⟩ := State.topJava?_eq_some.mp hg0
  have hl9 : e.platform.stackLimits (T.setVm s.vm).me = e.platform.stackLimits s.me := X.limits
  have hb9 : (T.setVm s.vm).me.stackBytes = s.me.stackBytes := X.bytes
  refine ⟨X.admits, X.cas, X.clock, hF, ?_, X.hears, X.method, X.code, X.here, X.tail, X.warmed, ?_, ?_, ?_⟩
  · have h := X.room
    have hU : ((T.setVm s.vm).setFrames (.invoking m args :: below)).localsInUse = s.localsInUse := by
      rw [State.localsInUse_invoking hF (meth := meth) (c := c) X.method X.code, State.localsInUse_invoking X.frames X.method X.code]
    simp only [State.hasRoom, Bool.and_eq_true, decide_eq_true_eq] at h ⊢
    obtain ⟨⟨⟨⟨h1, h2, h3, h4, h5, h6⟩, h7⟩, h8⟩, h9⟩ := h
    rw [X.frames, List.length_cons] at h2 h3
    have q1 := X.heapSize
    have q2 := X.used
    simp only [hF, hU, List.length_cons, State.stackLimits_setFrames, State.stackBytes_setFrames, hl9, hb9]
    refine ⟨⟨⟨⟨by omega, by omega, by omega, by omega, by omega, h6⟩, ?_⟩, ?_⟩, X.book⟩
    · show T.heap.size + R'.cells ≤ e.platform.maxCells
      omega
    · show T.slotsUsed + R'.slots ≤ e.platform.maxSlots
      omega
  · rw [State.stackLimits_setFrames]; rfl
  · rw [State.stackBytes_setFrames]; rfl
  · refine ⟨?_, Nat.le_refl _, Nat.le_refl _, ?_, ?_, fun a c9 h9 => ⟨c9, h9, rfl, rfl, fun _ _ => rfl⟩⟩
    · obtain ⟨t, ht, -⟩ := State.frames_cons hr
      show T.setVm s.vm = { ((T.setVm s.vm).setFrames (.invoking m args :: below)).setFrames (T.setVm s.vm).frames with heap := T.heap, slotsUsed := T.slotsUsed }
      rw [State.setFrames_setFrames, State.setFrames_self ht]
      rfl
    · show T.slotsUsed = T.slotsUsed + ((T.heap.toList.drop T.heap.size).map (·.slots.size)).sum
      rw [List.drop_eq_nil_of_le (Nat.le_of_eq Array.length_toList)]
      rfl
    · show ((T.heap.toList.drop T.heap.size).map (·.slots.size)).sum ≤ 0
      rw [List.drop_eq_nil_of_le (Nat.le_of_eq Array.length_toList)]
      exact Nat.le_refl _
/-- 'throw new E()': new; dup; invokespecial; athrow -/
theorem vx_throw0 {cc : ByteArray} {pc : Nat} (hexec : p.tables.exec = Jvm.exec) (hb : c.code = cc) (hl : l.stackTraces = false) {own cls : String} {names : List String} {ik ic mc ms : Nat} {A : Nat → Prop}
    (hown : s.vm.findClass own = some m.cls) (hcls : Bundle.fit cls = true) (hnames : ∀ n ∈ names, Bundle.fit n = true)
    (hk : (Cond.classLink own ik cls).before args s = true) (hini : (Cond.initialized cls).before args s = true) (hat : ∀ w ∈ vx_at0 own ic cls names, w.before args s = true)
    (hgood : ∀ w ∈ Cond.classLink own ik cls :: Cond.initialized cls :: vx_at0 own ic cls names, vx_ot w = true)
    (hU : vx_Zq Bundle.tN "UNASSIGNED_STACK" Bundle.steD A s s.heap) (hN : vx_Zq Bundle.tN "SUPPRESSED_SENTINEL" Bundle.listD A s s.heap) (hS : va_S A s.heap H locs) (hsize : ls.size = c.maxLocals)
    (d0 : decode cc pc = .ok (.new ik, 3)) (d3 : decode cc (pc + 3) = .ok (.dup, 1)) (d4 : decode cc (pc + 4) = .ok (.invokespecial ic, 3)) (d7 : decode cc (pc + 7) = .ok (.athrow, 1))
    (hout : ∀ x ∈ c.exceptionTable.toList, covers x (pc + 7) = false)
    (hRframes : names.length + 3 < R.frames) (hRlocals : (rest.map fun v => v.category).sum + (13 * (names.length + 1) + 42) ≤ R.locals) (hRcells : cells + 1 ≤ R.cells) (hRslots : slots + 6 ≤ R.slots) (hlocks : meth.locks = false)
    (hx : ∀ t : State, s.vm.Alike t.vm → H.size ≤ t.heap.size → (∀ q : Nat, q < H.size → t.heap[q]? = H[q]?) → XC cls s t)
    (hf : ∀ z ∈ locs, free z.base) (hc : cells + 1 ≤ mc) (hs : slots + 6 ≤ ms) :
    W p l e R s m args below meth c H locs cells slots (vx_MQ below Qc XC args s mc ms free) (F0 m pc ls rest) := by
  intro T hT X
  have htr : e.platform.stackTraces = false := (show e.platform.stackTraces = l.stackTraces by rw [X.admits.platform]).trans hl
  have Y := vx_rebase X (R' := { frames := R.frames, locals := R.locals, cells := 1, slots := 6 }) (Nat.le_refl _) (Nat.le_refl _) hRcells hRslots
  obtain ⟨s', hA⟩ : ∃ z, z = (T.setVm s.vm).setFrames (.invoking m args :: below) := ⟨_, rfl⟩
  rw [← hA] at Y
  have hvm : s'.vm = s.vm := by rw [hA]; rfl
  have hhp : s'.heap = H := by rw [hA]; exact hT
  have hW0 : s.WarmedH s'.vm := by rw [hvm]; exact State.WarmedH.refl s
  have hat' : ∀ w ∈ vx_at0 own ic cls names, w.before args s' = true := fun w hw => vx_ot_at hW0 hvm.symm (hgood w (List.mem_cons_of_mem _ (List.mem_cons_of_mem _ hw))) (hat w hw)
  have hk' : (Cond.classLink own ik cls).before args s' = true := vx_ot_at hW0 hvm.symm (hgood _ List.mem_cons_self) hk
  have hini' : (Cond.initialized cls).before args s' = true := vx_ot_at hW0 hvm.symm (hgood _ (List.mem_cons_of_mem _ List.mem_cons_self)) hini
  have hU' : vx_Zq Bundle.tN "UNASSIGNED_STACK" Bundle.steD A s' s'.heap := by rw [hhp]; exact vx_Zq.moved hW0.alike (hU.kept hS.2.1)
  have hN' : vx_Zq Bundle.tN "SUPPRESSED_SENTINEL" Bundle.listD A s' s'.heap := by rw [hhp]; exact vx_Zq.moved hW0.alike (hN.kept hS.2.1)
  have h : ∀ w ∈ Bundle.ownAtoms0 own ic cls names, w.before args s' = true := vx_own hat' (vx_isRefq hU'.1) (vx_isRefq hN'.1) hU'.2.word hN'.2.word
  have hown' : s'.vm.findClass own = some m.cls := by rw [hvm]; exact hown
  have hins : (Cond.instantiable cls 6).before args s' = true := h _ (by simp [Bundle.ownAtoms0])
  obtain ⟨vm₁, cX, kX, hfX, hkX, -, -, X₁, st1⟩ := Y.newCold hexec (own := own) (C := cls) (index := ik) (n := 6) hown' hk' hins hini'
    (g := F0 m pc ls rest) rfl (by rw [hb]; exact d0) (Nat.le_refl _) (Nat.le_refl _)
  generalize hT1 : (T.setVm vm₁).pushCell { cls := cX, slots := kX.instanceTypes.map defaultValue, vm := .none } = T1 at X₁ st1
  have hcat : (Value.ref T.heap.size).category = 1 := rfl
  have hcellA : T1.heap[T.heap.size]? = some (freshCell cX kX) := by rw [← hT1]; exact State.heap_pushCell_size _ _
  have d3' : decode c.code (pc + 3) = .ok (.dup, 1) := by rw [hb]; exact d3
  obtain ⟨U, hsteps, hrun, hend, hW, hsame, ce, hce, hO⟩ := X₁.ctorThrow0 hexec htr (own := own) (cls := cls) (names := names) (ic := ic) hown' hcls hnames h (fun x hx => nomatch hx) hfX hkX hcellA (by rw [hhp, hT]; exact Nat.le_refl _)
    (g := { method := m, pc := pc + 4, locals := ls, stack := .ref T.heap.size :: .ref T.heap.size :: rest, locked := none }) rfl hsize rfl rfl (rest := rest) rfl
    (by rw [hb]; exact d4) (by rw [hb]; exact d7) hout hRframes (by simp only [List.map_cons, List.sum_cons, hcat]; omega) hlocks
  obtain ⟨f1, f2⟩ := vx_frame hsame
  rw [hhp] at f1 f2
  have hWs : s.WarmedH U.vm := State.WarmedH.trans hW0 hW
  have hcl : s.vm.findClass cls = some ce.cls := by
    have h9 := hO.cls
    rw [hvm] at h9
    exact h9
  have hall : s.sameButNew ({ U with vm := s.vm } : State) locs mc ms := by
    subst hA
    obtain ⟨e1, e2⟩ := hsame
    rw [State.setFrames_setFrames] at e1
    have h2 : (T.setVm s.vm).sameButNew ({ U with vm := s.vm } : State) [] (0 + 1) (0 + 6) := ⟨e1, e2⟩
    have h3 := X.same.trans h2
    rw [List.append_nil] at h3
    exact h3.mono hc hs
  refine ⟨U, ?_, .threw T.heap.size, hrun, hend, Or.inr ⟨T.heap.size, rfl, cls, ce, locs, hx U hWs.alike f1 (fun q hq => f2 q hq (fun z hz => nomatch hz)), hce, hO.vm, hcl, hWs, hall, hf⟩⟩
  refine st1 _ ?_
  show Steps p.tables e below (T1.setTop { method := m, pc := pc + 3, locals := ls, stack := .ref T.heap.size :: rest, locked := none }) _
  jvm_step X₁.here [X₁.here.top, hexec, d3', Value.category]
  exact hsteps
/-- 'throw new E("text")': new; dup; ldc; invokespecial; athrow -/
theorem vx_throwS {cc : ByteArray} {pc : Nat} (hexec : p.tables.exec = Jvm.exec) (hb : c.code = cc) (hl : l.stackTraces = false) {own cls text : String} {names : List String} {ik is ic mc ms sa : Nat} {A : Nat → Prop}
    (hown : s.vm.findClass own = some m.cls) (hcls : Bundle.fit cls = true) (hnames : ∀ n ∈ names, Bundle.fit n = true)
    (hk : (Cond.classLink own ik cls).before args s = true) (hini : (Cond.initialized cls).before args s = true) (hstr : vk_R own is text sa s) (hat : ∀ w ∈ vx_atS own ic cls names, w.before args s = true)
    (hgood : ∀ w ∈ Cond.classLink own ik cls :: Cond.initialized cls :: vx_atS own ic cls names, vx_ot w = true)
    (hU : vx_Zq Bundle.tN "UNASSIGNED_STACK" Bundle.steD A s s.heap) (hN : vx_Zq Bundle.tN "SUPPRESSED_SENTINEL" Bundle.listD A s s.heap) (hS : va_S A s.heap H locs) (hsize : ls.size = c.maxLocals)
    (d0 : decode cc pc = .ok (.new ik, 3)) (d3 : decode cc (pc + 3) = .ok (.dup, 1)) (d4 : decode cc (pc + 4) = .ok (.ldc is, 2)) (d6 : decode cc (pc + 6) = .ok (.invokespecial ic, 3)) (d9 : decode cc (pc + 9) = .ok (.athrow, 1))
    (hout : ∀ x ∈ c.exceptionTable.toList, covers x (pc + 9) = false)
    (hRframes : names.length + 3 < R.frames) (hRlocals : (rest.map fun v => v.category).sum + (13 * (names.length + 1) + 43) ≤ R.locals) (hRcells : cells + 1 ≤ R.cells) (hRslots : slots + 6 ≤ R.slots) (hlocks : meth.locks = false)
    (hx : ∀ t : State, s.vm.Alike t.vm → H.size ≤ t.heap.size → (∀ q : Nat, q < H.size → t.heap[q]? = H[q]?) → XC cls s t)
    (hf : ∀ z ∈ locs, free z.base) (hc : cells + 1 ≤ mc) (hs : slots + 6 ≤ ms) :
    W p l e R s m args below meth c H locs cells slots (vx_MQ below Qc XC args s mc ms free) (F0 m pc ls rest) := by
  intro T hT X
  have htr : e.platform.stackTraces = false := (show e.platform.stackTraces = l.stackTraces by rw [X.admits.platform]).trans hl
  have Y := vx_rebase X (R' := { frames := R.frames, locals := R.locals, cells := 1, slots := 6 }) (Nat.le_refl _) (Nat.le_refl _) hRcells hRslots
  obtain ⟨s', hA⟩ : ∃ z, z = (T.setVm s.vm).setFrames (.invoking m args :: below) := ⟨_, rfl⟩
  rw [← hA] at Y
  have hvm : s'.vm = s.vm := by rw [hA]; rfl
  have hhp : s'.heap = H := by rw [hA]; exact hT
  have hW0 : s.WarmedH s'.vm := by rw [hvm]; exact State.WarmedH.refl s
  have hat' : ∀ w ∈ vx_atS own ic cls names, w.before args s' = true := fun w hw => vx_ot_at hW0 hvm.symm (hgood w (List.mem_cons_of_mem _ (List.mem_cons_of_mem _ hw))) (hat w hw)
  have hk' : (Cond.classLink own ik cls).before args s' = true := vx_ot_at hW0 hvm.symm (hgood _ List.mem_cons_self) hk
  have hini' : (Cond.initialized cls).before args s' = true := vx_ot_at hW0 hvm.symm (hgood _ (List.mem_cons_of_mem _ List.mem_cons_self)) hini
  have hU' : vx_Zq Bundle.tN "UNASSIGNED_STACK" Bundle.steD A s' s'.heap := by rw [hhp]; exact vx_Zq.moved hW0.alike (hU.kept hS.2.1)
  have hN' : vx_Zq Bundle.tN "SUPPRESSED_SENTINEL" Bundle.listD A s' s'.heap := by rw [hhp]; exact vx_Zq.moved hW0.alike (hN.kept hS.2.1)
  have h : ∀ w ∈ Bundle.ownAtoms own ic cls names, w.before args s' = true := vx_own hat' (vx_isRefq hU'.1) (vx_isRefq hN'.1) hU'.2.word hN'.2.word
  have hown' : s'.vm.findClass own = some m.cls := by rw [hvm]; exact hown
  have hins : (Cond.instantiable cls 6).before args s' = true := h _ (by simp [Bundle.ownAtoms])
  obtain ⟨vm₁, cX, kX, hfX, hkX, -, -, X₁, st1⟩ := Y.newCold hexec (own := own) (C := cls) (index := ik) (n := 6) hown' hk' hins hini'
    (g := F0 m pc ls rest) rfl (by rw [hb]; exact d0) (Nat.le_refl _) (Nat.le_refl _)
  generalize hT1 : (T.setVm vm₁).pushCell { cls := cX, slots := kX.instanceTypes.map defaultValue, vm := .none } = T1 at X₁ st1
  have hcat : (Value.ref T.heap.size).category = 1 := rfl
  have hcellA : T1.heap[T.heap.size]? = some (freshCell cX kX) := by rw [← hT1]; exact State.heap_pushCell_size _ _
  have d3' : decode c.code (pc + 3) = .ok (.dup, 1) := by rw [hb]; exact d3
  have d4' : decode c.code (pc + 4) = .ok (.ldc is, 2) := by rw [hb]; exact d4
  have hstr' : vk_R own is text sa s' := vk_R.warm hW0 hstr
  obtain ⟨U, hsteps, hrun, hend, hW, hsame, ce, hce, hO⟩ := X₁.ctorThrowS hexec htr (own := own) (cls := cls) (names := names) (ic := ic) hown' hcls hnames h (fun x hx => nomatch hx) hfX hkX hcellA (by rw [hhp, hT]; exact Nat.le_refl _) (msg := .ref sa) rfl
    (g := { method := m, pc := pc + 6, locals := ls, stack := .ref sa :: .ref T.heap.size :: .ref T.heap.size :: rest, locked := none }) rfl hsize rfl rfl (rest := rest) rfl
    (by rw [hb]; exact d6) (by rw [hb]; exact d9) hout hRframes (by simp only [List.map_cons, List.sum_cons, hcat]; omega) hlocks
  obtain ⟨f1, f2⟩ := vx_frame hsame
  rw [hhp] at f1 f2
  have hWs : s.WarmedH U.vm := State.WarmedH.trans hW0 hW
  have hcl : s.vm.findClass cls = some ce.cls := by
    have h9 := hO.cls
    rw [hvm] at h9
    exact h9
  have hall : s.sameButNew ({ U with vm := s.vm } : State) locs mc ms := by
    subst hA
    obtain ⟨e1, e2⟩ := hsame
    rw [State.setFrames_setFrames] at e1
    have h2 : (T.setVm s.vm).sameButNew ({ U with vm := s.vm } : State) [] (0 + 1) (0 + 6) := ⟨e1, e2⟩
    have h3 := X.same.trans h2
    rw [List.append_nil] at h3
    exact h3.mono hc hs
  refine ⟨U, ?_, .threw T.heap.size, hrun, hend, Or.inr ⟨T.heap.size, rfl, cls, ce, locs, hx U hWs.alike f1 (fun q hq => f2 q hq (fun z hz => nomatch hz)), hce, hO.vm, hcl, hWs, hall, hf⟩⟩
  refine st1 _ ?_
  show Steps p.tables e below (T1.setTop { method := m, pc := pc + 3, locals := ls, stack := .ref T.heap.size :: rest, locked := none }) _
  jvm_step X₁.here [X₁.here.top, hexec, d3', Value.category]
  exact X₁.ldcString hexec (own := own) (text := text) (index := is) (a := sa) hown' hstr'.1 hstr'.2
    (g := { method := m, pc := pc + 4, locals := ls, stack := .ref T.heap.size :: .ref T.heap.size :: rest, locked := none }) rfl d4' _ hsteps
/-- 'throw new E("text")', the text by a wide index -/
theorem vx_throwSW {cc : ByteArray} {pc : Nat} (hexec : p.tables.exec = Jvm.exec) (hb : c.code = cc) (hl : l.stackTraces = false) {own cls text : String} {names : List String} {ik is ic mc ms sa : Nat} {A : Nat → Prop}
    (hown : s.vm.findClass own = some m.cls) (hcls : Bundle.fit cls = true) (hnames : ∀ n ∈ names, Bundle.fit n = true)
    (hk : (Cond.classLink own ik cls).before args s = true) (hini : (Cond.initialized cls).before args s = true) (hstr : vk_R own is text sa s) (hat : ∀ w ∈ vx_atS own ic cls names, w.before args s = true)
    (hgood : ∀ w ∈ Cond.classLink own ik cls :: Cond.initialized cls :: vx_atS own ic cls names, vx_ot w = true)
    (hU : vx_Zq Bundle.tN "UNASSIGNED_STACK" Bundle.steD A s s.heap) (hN : vx_Zq Bundle.tN "SUPPRESSED_SENTINEL" Bundle.listD A s s.heap) (hS : va_S A s.heap H locs) (hsize : ls.size = c.maxLocals)
    (d0 : decode cc pc = .ok (.new ik, 3)) (d3 : decode cc (pc + 3) = .ok (.dup, 1)) (d4 : decode cc (pc + 4) = .ok (.ldc_w is, 3)) (d7 : decode cc (pc + 7) = .ok (.invokespecial ic, 3)) (d10 : decode cc (pc + 10) = .ok (.athrow, 1))
    (hout : ∀ x ∈ c.exceptionTable.toList, covers x (pc + 10) = false)
    (hRframes : names.length + 3 < R.frames) (hRlocals : (rest.map fun v => v.category).sum + (13 * (names.length + 1) + 43) ≤ R.locals) (hRcells : cells + 1 ≤ R.cells) (hRslots : slots + 6 ≤ R.slots) (hlocks : meth.locks = false)
    (hx : ∀ t : State, s.vm.Alike t.vm → H.size ≤ t.heap.size → (∀ q : Nat, q < H.size → t.heap[q]? = H[q]?) → XC cls s t)
    (hf : ∀ z ∈ locs, free z.base) (hc : cells + 1 ≤ mc) (hs : slots + 6 ≤ ms) :
    W p l e R s m args below meth c H locs cells slots (vx_MQ below Qc XC args s mc ms free) (F0 m pc ls rest) := by
  intro T hT X
  have htr : e.platform.stackTraces = false := (show e.platform.stackTraces = l.stackTraces by rw [X.admits.platform]).trans hl
  have Y := vx_rebase X (R' := { frames := R.frames, locals := R.locals, cells := 1, slots := 6 }) (Nat.le_refl _) (Nat.le_refl _) hRcells hRslots
  obtain ⟨s', hA⟩ : ∃ z, z = (T.setVm s.vm).setFrames (.invoking m args :: below) := ⟨_, rfl⟩
  rw [← hA] at Y
  have hvm : s'.vm = s.vm := by rw [hA]; rfl
  have hhp : s'.heap = H := by rw [hA]; exact hT
  have hW0 : s.WarmedH s'.vm := by rw [hvm]; exact State.WarmedH.refl s
  have hat' : ∀ w ∈ vx_atS own ic cls names, w.before args s' = true := fun w hw => vx_ot_at hW0 hvm.symm (hgood w (List.mem_cons_of_mem _ (List.mem_cons_of_mem _ hw))) (hat w hw)
  have hk' : (Cond.classLink own ik cls).before args s' = true := vx_ot_at hW0 hvm.symm (hgood _ List.mem_cons_self) hk
  have hini' : (Cond.initialized cls).before args s' = true := vx_ot_at hW0 hvm.symm (hgood _ (List.mem_cons_of_mem _ List.mem_cons_self)) hini
  have hU' : vx_Zq Bundle.tN "UNASSIGNED_STACK" Bundle.steD A s' s'.heap := by rw [hhp]; exact vx_Zq.moved hW0.alike (hU.kept hS.2.1)
  have hN' : vx_Zq Bundle.tN "SUPPRESSED_SENTINEL" Bundle.listD A s' s'.heap := by rw [hhp]; exact vx_Zq.moved hW0.alike (hN.kept hS.2.1)
  have h : ∀ w ∈ Bundle.ownAtoms own ic cls names, w.before args s' = true := vx_own hat' (vx_isRefq hU'.1) (vx_isRefq hN'.1) hU'.2.word hN'.2.word
  have hown' : s'.vm.findClass own = some m.cls := by rw [hvm]; exact hown
  have hins : (Cond.instantiable cls 6).before args s' = true := h _ (by simp [Bundle.ownAtoms])
  obtain ⟨vm₁, cX, kX, hfX, hkX, -, -, X₁, st1⟩ := Y.newCold hexec (own := own) (C := cls) (index := ik) (n := 6) hown' hk' hins hini'
    (g := F0 m pc ls rest) rfl (by rw [hb]; exact d0) (Nat.le_refl _) (Nat.le_refl _)
  generalize hT1 : (T.setVm vm₁).pushCell { cls := cX, slots := kX.instanceTypes.map defaultValue, vm := .none } = T1 at X₁ st1
  have hcat : (Value.ref T.heap.size).category = 1 := rfl
  have hcellA : T1.heap[T.heap.size]? = some (freshCell cX kX) := by rw [← hT1]; exact State.heap_pushCell_size _ _
  have d3' : decode c.code (pc + 3) = .ok (.dup, 1) := by rw [hb]; exact d3
  have d4' : decode c.code (pc + 4) = .ok (.ldc_w is, 3) := by rw [hb]; exact d4
  have hstr' : vk_R own is text sa s' := vk_R.warm hW0 hstr
  obtain ⟨U, hsteps, hrun, hend, hW, hsame, ce, hce, hO⟩ := X₁.ctorThrowS hexec htr (own := own) (cls := cls) (names := names) (ic := ic) hown' hcls hnames h (fun x hx => nomatch hx) hfX hkX hcellA (by rw [hhp, hT]; exact Nat.le_refl _) (msg := .ref sa) rfl
    (g := { method := m, pc := pc + 7, locals := ls, stack := .ref sa :: .ref T.heap.size :: .ref T.heap.size :: rest, locked := none }) rfl hsize rfl rfl (rest := rest) rfl
    (by rw [hb]; exact d7) (by rw [hb]; exact d10) hout hRframes (by simp only [List.map_cons, List.sum_cons, hcat]; omega) hlocks
  obtain ⟨f1, f2⟩ := vx_frame hsame
  rw [hhp] at f1 f2
  have hWs : s.WarmedH U.vm := State.WarmedH.trans hW0 hW
  have hcl : s.vm.findClass cls = some ce.cls := by
    have h9 := hO.cls
    rw [hvm] at h9
    exact h9
  have hall : s.sameButNew ({ U with vm := s.vm } : State) locs mc ms := by
    subst hA
    obtain ⟨e1, e2⟩ := hsame
    rw [State.setFrames_setFrames] at e1
    have h2 : (T.setVm s.vm).sameButNew ({ U with vm := s.vm } : State) [] (0 + 1) (0 + 6) := ⟨e1, e2⟩
    have h3 := X.same.trans h2
    rw [List.append_nil] at h3
    exact h3.mono hc hs
  refine ⟨U, ?_, .threw T.heap.size, hrun, hend, Or.inr ⟨T.heap.size, rfl, cls, ce, locs, hx U hWs.alike f1 (fun q hq => f2 q hq (fun z hz => nomatch hz)), hce, hO.vm, hcl, hWs, hall, hf⟩⟩
  refine st1 _ ?_
  show Steps p.tables e below (T1.setTop { method := m, pc := pc + 3, locals := ls, stack := .ref T.heap.size :: rest, locked := none }) _
  jvm_step X₁.here [X₁.here.top, hexec, d3', Value.category]
  exact X₁.ldcStringW hexec (own := own) (text := text) (index := is) (a := sa) hown' hstr'.1 hstr'.2
    (g := { method := m, pc := pc + 4, locals := ls, stack := .ref T.heap.size :: .ref T.heap.size :: rest, locked := none }) rfl d4' _ hsteps
end Ends
section Bodies
variable {l : Launch}
theorem vx_ofW {y : MethodName} {ws ws' : List Cond} {rm : Room} {Pc : Array Value → State → Prop} {Qc : Array Value → State → Outcome → State → Prop} {XC : String → State → State → Prop} {mc ms : Nat} {free : Addr → Prop} {cc : ByteArray} {maxL : Nat} {ret : Option FieldType}
    (hy : plainName y.cls = true) (hw : ws = Cond.code y cc maxL ret :: ws')
    (body : ∀ p e s m args below meth c s₁, BodyLoose p l y (headSpec ws rm) cc maxL ret e s m args below meth c s₁ → c.maxLocals = maxL → (∀ x ∈ c.exceptionTable.toList, False) → Pc args s →
      W p l e (headSpec ws rm).room s m args below meth c s.heap [] 0 0 (vx_MQ below Qc XC args s mc ms free) (entryFrame m args maxL)) : vx_Met l y ws rm Pc Qc XC mc ms free := by
  refine MetFree.of_bodyS (code := cc) (maxLocals := maxL) (ret := ret) hy ?_ ?_
  · intro args s m h hn
    obtain ⟨meth, c, h1, h2, h3, h4, h5, h6, -, -⟩ := Cond.code_spec hn (atoms_spec (ws := ws) h _ (by rw [hw]; exact List.mem_cons_self))
    exact ⟨meth, c, h1, h2, h3, h4, h5, h6⟩
  · intro p e s m args below meth c s₁ B hml hP _
    have hh0 : s₁.heap = s.heap := by rw [B.state]; rfl
    have ht : ∀ x ∈ c.exceptionTable.toList, False := by
      obtain ⟨meth9, c9, h1, h2, -, -, -, -, h7, -⟩ := Cond.code_spec B.named (atoms_spec (ws := ws) B.pre _ (by rw [hw]; exact List.mem_cons_self))
      cases Option.some.inj (h1.symm.trans B.method)
      cases Option.some.inj (h2.symm.trans (Stand.of_body B).code)
      intro x hx
      rw [Array.isEmpty_iff.mp h7] at hx
      cases hx
    obtain ⟨t, a1, o, b1, b2, b3⟩ := body p e s m args below meth c s₁ B hml ht hP s₁ hh0 (Stand.of_body B)
    exact ⟨t, o, a1, b1, b2, b3⟩
/-- the table of a body with handlers -/
theorem vx_table {p : Program} {x y : MethodName} {S : Spec} {cc bytes : ByteArray} {maxL maxL' : Nat} {ret ret' : Option FieldType} {e : Env} {s s₁ : State} {m : MethodId} {args : Array Value} {below : List Frame} {meth : Method} {c : Code} {hh : List (Nat × Nat × Nat × Nat)}
    (B : BodyLoose p l y S cc maxL ret e s m args below meth c s₁) (h : (Cond.codeWith y bytes maxL' ret' hh).before args s = true) : c.exceptionTable.toList = tableOf hh := by
  obtain ⟨m9, meth9, c9, hn9, h1, h2, -, -, h6, -⟩ := Cond.codeWith_spec h
  cases Option.some.inj (hn9.symm.trans B.named)
  cases Option.some.inj (h1.symm.trans B.method)
  cases Option.some.inj (h2.symm.trans (Stand.of_body B).code)
  rw [← h6, table_eq]
end Bodies
end VXA
/-! ===== END ===== -/
/-! ===== BEGIN a static call of a method with an exception table ===== -/
section VXS
variable {p : Program} {l : Launch} {e : Env} {R : Room} {s : State} {m : MethodId} {args : Array Value} {below : List Frame} {meth : Method} {c : Code} {T : State} {H : Heap} {locs : List Loc} {cells slots : Nat}
abbrev vx_CSW (R : Room) (s : State) (args : Array Value) (own : String) (index : Nat) (y : MethodName) (bytes : ByteArray) (maxL : Nat) (ret : Option FieldType) (hh : List (Nat × Nat × Nat × Nat)) (ws : List Cond) (rm : Room) (mc ms n : Nat) : Prop :=
  (rm.cells = mc ∧ rm.slots = ms ∧ rm.frames + 1 ≤ R.frames ∧ 8 + (maxL + 11) + rm.locals ≤ R.locals ∧ (∀ w ∈ ws, ∀ (a' : Array Value) (U : State), s.WarmedH U.vm → w.before a' U = true) ∧ Cond.codeWith y bytes maxL ret hh ∈ ws) ∧
  (Cond.codeWith y bytes maxL ret hh).before args s = true ∧ (Cond.initialized y.cls).before args s = true ∧ (y.cls ≠ "java/lang/invoke/MethodHandle" ∧ y.cls ≠ "java/lang/invoke/VarHandle") ∧
  (∀ sig, parseMethodDescriptor y.desc = some sig → n = sig.parameters.length) ∧ (Cond.methodLink own index y).before args s = true ∧ (Cond.static y).before args s = true
theorem vx_cwSW {own : String} {index maxL mc ms : Nat} {y : MethodName} {bytes : ByteArray} {ret : Option FieldType} {hh : List (Nat × Nat × Nat × Nat)} {Ts ws ws' : List Cond} {rm : Room} (n : Nat) (ht : ∀ w ∈ Ts, w.before args s = true) (hT : GoodIn Ts (va_wsS own index y ws)) (hw : ws = Cond.codeWith y bytes maxL ret hh :: ws') (hrc : rm.cells = mc) (hrs : rm.slots = ms)
    (hd : y.cls ≠ "java/lang/invoke/MethodHandle" ∧ y.cls ≠ "java/lang/invoke/VarHandle" ∧ (parseMethodDescriptor y.desc).map (fun d => d.parameters.length) = some n) (hR : rm.frames + 1 ≤ R.frames ∧ 8 + (maxL + 11) + rm.locals ≤ R.locals) :
    vx_CSW R s args own index y bytes maxL ret hh ws rm mc ms n := by
  have ok : ∀ w ∈ va_wsS own index y ws, w.before args s = true := fun w h => ht w (hT w h).1
  have hG : GoodIn Ts ws := fun w h => hT w (by unfold va_wsS; exact List.mem_append_right _ h)
  have hc : Cond.codeWith y bytes maxL ret hh ∈ ws := by rw [hw]; exact List.mem_cons_self
  refine ⟨⟨hrc, hrs, hR.1, hR.2, pay_in ht hG, hc⟩, ht _ (hG _ hc).1, ok _ (by simp [va_wsS]), ⟨hd.1, hd.2.1⟩, fun sig h => ?_, ok _ (by simp [va_wsS]), ok _ (by simp [va_wsS])⟩
  have h2 := hd.2.2
  rw [h] at h2
  exact (Option.some.inj h2).symm
theorem vx_callSW (X : Stand p l e R s m args below meth c T locs cells slots) (hexec : p.tables.exec = Jvm.exec) {own : String} {index : Nat} {y : MethodName} {bytes : ByteArray} {maxL : Nat} {ret : Option FieldType} {hh : List (Nat × Nat × Nat × Nat)}
    (hown : s.vm.findClass own = some m.cls) (hlink : (Cond.methodLink own index y).before args s = true) (hstat : (Cond.static y).before args s = true) (hinit : (Cond.initialized y.cls).before args s = true)
    (hcode : (Cond.codeWith y bytes maxL ret hh).before args s = true) (hy : y.cls ≠ "java/lang/invoke/MethodHandle" ∧ y.cls ≠ "java/lang/invoke/VarHandle")
    {W9 : Nat} {Pre : Pt → Array Value → Prop} {Post : Pt → Array Value → Option Value → Pt → Prop} (hK : Back l R p e below s args y 3 W9 Pre Post)
    {g : JFrame} (hg : g.method = m) (hsize : g.locals.size = c.maxLocals) {argsL rest : List Value} (hlen : ∀ sig, parseMethodDescriptor y.desc = some sig → argsL.length = sig.parameters.length)
    (hstack : g.stack = argsL.reverse ++ rest) (hW : 2 * g.monitorRoom + (rest.map fun v => v.category).sum ≤ W9) (hdg : decode c.code g.pc = .ok (.invokestatic index, 3))
    (hpre : ∀ vm₁, s.WarmedH vm₁ → Pre ⟨T.setVm vm₁, locs, cells, slots⟩ argsL.toArray) :
    ∃ (v : Option Value) (vm₁ : Vm) (B : Pt), s.WarmedH vm₁ ∧ Stand p l e R s m args below meth c B.U B.locs B.cells B.slots ∧ Post ⟨T.setVm vm₁, locs, cells, slots⟩ argsL.toArray v B ∧
      ∀ target, Steps p.tables e below (B.U.setTop { g with pc := g.pc + 3, stack := v.toList ++ rest }) target → Steps p.tables e below (T.setTop g) target := by
  obtain ⟨mk, methM, cM, hnamed, hmethM, -, -, -, -, -, -, hsigM⟩ := Cond.codeWith_spec hcode
  have hstatic : methM.isStatic = true := Cond.static_spec hnamed hmethM hstat
  obtain ⟨kP, hkP, -⟩ := className_of_methodNamed hnamed
  have hinitP : kP.init = .initialized := Cond.initialized_spec (findClass_of_methodNamed hnamed) hkP hinit
  obtain ⟨vm₁, X₁, hstep₁⟩ := X.invokestatic hexec hown hlink hnamed hmethM hstatic hkP hinitP hy (g := g) hg (argsL := argsL) (rest := rest) (hlen _ hsigM) hstack hdg
  obtain ⟨v, B, X', hpost, hsteps⟩ := hK m meth c ⟨T.setVm vm₁, locs, cells, slots⟩ { g with stack := rest } (.invokestatic index) mk argsL.toArray X₁ hg hsize hdg hW (X₁.named hnamed) (hpre vm₁ X₁.warmed)
  exact ⟨v, vm₁, B, X₁.warmed, X', hpost, fun target h => hstep₁ _ fun acts => by rw [doInvoke_state]; exact hsteps.trans h⟩
theorem vx_runSW {y : MethodName} {bytes cc : ByteArray} {maxL nL mc ms n index : Nat} {ret : Option FieldType} {hh : List (Nat × Nat × Nat × Nat)} {ws : List Cond} {rm : Room} {Pc : Array Value → State → Prop} {Qc : Array Value → State → Outcome → State → Prop} {free : Addr → Prop} {Ts : List Cond} {own : String} {As rest : List Value} {g : JFrame}
    (S : CallFix p m c cc nL s args Ts own) (hM : Met l y ws rm Pc Qc mc ms free) (cw : vx_CSW R s args own index y bytes maxL ret hh ws rm mc ms n) (hp : PreS s H Pc As)
    (hg : g.method = m) (hn : As.length = n) (hsize : g.locals.size = nL) (hstack : g.stack = As.reverse ++ rest) (hW : 2 * g.monitorRoom + (rest.map fun v => v.category).sum ≤ 8) (hdg : decode cc g.pc = .ok (.invokestatic index, 3)) (hf : cells + mc ≤ R.cells ∧ slots + ms ≤ R.slots) :
    va_Run p l e R s m args below meth c H locs cells slots mc ms g rest (Qc As.toArray) (free) := by
  obtain ⟨⟨hrc, hrs, hfr, hlo, hws, hcw⟩, hcode, hini, hy, hlen, hl, hstt⟩ := cw
  have hK : Back l R p e below s args y 3 8 (PreOf R mc ms Pc) (PostOf Qc mc ms free) := va_backW (hh := hh) (bytes := bytes) (maxL := maxL) (ret := ret) hM hp.1 hrc hrs hfr hlo hws hcw (fun a' U hW => word_at hW (Or.inl (by first | rfl | simp [Cond.onTables, Cond.keeps, Cond.steady])) hini)
  obtain ⟨hx, hb, hml, ho, -⟩ := S
  intro T hT X
  obtain ⟨v, vm₁, ⟨U', l2, c2, s2⟩, hW₁, X', ⟨g', mk, t, L, e1, e2, hq, h1, hL, h2, h3⟩, st⟩ := vx_callSW X hx (hh := hh) (bytes := bytes) (maxL := maxL) (ret := ret) ho hl hstt hini hcode hy hK hg (hsize.trans hml.symm) (argsL := As) (rest := rest) (fun sig h => hn.trans (hlen sig h)) hstack hW (by rw [hb]; exact hdg)
    (fun vm₁ hW₁ => ⟨hf.1, hf.2, hp.2 (T.setVm vm₁) hT hW₁⟩)
  dsimp only [Pt.U, Pt.locs, Pt.cells, Pt.slots] at X' e1 e2 h1 h2 h3 st
  subst h1; subst h2; subst h3
  exact ⟨v, (T.setVm vm₁).calling g' mk As.toArray, t, U', L, hT, X', hL, e1, e2, hq, st⟩
/-- not caught here, past rows that name other classes: it goes on to the caller -/
theorem vx_outP {p : Program} {l : Launch} {e : Env} {R : Room} {s : State} {m : MethodId} {args : Array Value} {below : List Frame} {meth : Method} {c : Code} {H : Heap} {locs : List Loc} {cells slots : Nat} {free : Addr → Prop} {ls : Array Slot} {rest : List Value} {Qc : Array Value → State → Outcome → State → Prop} {XC : String → State → State → Prop}
    {pc : Nat} {own E : String} {ce : Cell} {q : Addr} {mc ms : Nat} (hown : s.vm.findClass own = some m.cls) (hlocks : meth.locks = false)
    (hpass : ∀ z ∈ c.exceptionTable.toList, covers z pc = false ∨ (z.catchType ≠ 0 ∧ ∃ nm : String, (Cond.classLink own z.catchType nm).before args s = true ∧ va_Nc E nm s)) (hcell : H[q]? = some ce) (hv : ce.vm = .none) (hcl : s.vm.findClass E = some ce.cls)
    (hx : ∀ t : State, t.heap = H → s.vm.Alike t.vm → XC E s t) (hf : ∀ z ∈ locs, free z.base) (hc : cells ≤ mc) (hs : slots ≤ ms) :
    vx_W p l e R s m args below meth c H locs cells slots (vx_MQ below Qc XC args s mc ms free) (F0 m pc ls rest) q := by
  intro T hT X
  have hpl : e.platform.magicAccessors = ({} : Platform).magicAccessors := by rw [X.admits.platform]
  obtain ⟨vm', hW', X', st⟩ := X.outThrough hlocks q (g := F0 m pc ls rest) rfl rfl rfl (cell := ce) (by rw [hT]; exact hcell) (by rw [hv]; rfl)
    (by obtain ⟨k9, h9, -⟩ := Vm.findClass_spec hcl; exact ⟨k9, h9⟩) (fun z hz => by
      rcases hpass z hz with h | ⟨hz0, nm, hl1, hn1⟩
      · exact Or.inl h
      · obtain ⟨c6, hc6, hcl6⟩ := Cond.classLink_spec hown hl1 e.platform hpl
        obtain ⟨a8, b8, h1, h2, h3⟩ := hn1
        cases Option.some.inj (h1.symm.trans hcl)
        cases Option.some.inj (h2.symm.trans hc6)
        exact Or.inr ⟨hz0, _, hcl6, h3⟩)
  obtain ⟨g₀, hfr⟩ := X'.frames_eq
  have hcell9 : ((T.setVm vm').setFrames (.throwing q :: below)).heap[q]? = some ce := by
    show T.heap[q]? = some ce
    rw [hT]; exact hcell
  have hend : Ended ((T.setVm vm').setFrames (.throwing q :: below)) below (.threw q) := State.frames_setFrames _ (State.cur_lt_of_frames hfr)
  refine ⟨(T.setVm vm').setFrames (.throwing q :: below), ?_, .threw q, X'.here.running, hend, Or.inr ⟨q, rfl, E, ce, locs, hx _ hT (X'.ends _).1.alike, hcell9, hv, hcl, (X'.ends _).1, (X'.ends _).2.mono hc hs, hf⟩⟩
  rw [X.pushThrowing_eq]
  exact st
/-- a thing of a world lies in the heap -/
theorem vx_lt {D : va_G} {cl : List vw_C} {ws : va_W} {H1 : Heap} (h : va_P D cl ws H1) {k : Nat} {q : Nat × va_E} (hk : ws[k]? = some q) : q.1 < H1.size := (h k q hk).lt
end VXS
/-! ===== END ===== -/
/-! ===== BEGIN methods with a table of their own: called by a name, returning or throwing ===== -/
section VXH
/-! vx_backW, vx_callVX, vx_callSX, vx_callVW, vx_runVW, vx_runVX, vx_runSX, vx_ofWH follow the same proofs as their sisters above (Free/Laws.lean, Shelf42/LK1.lean); vx_outP calls Shelf42/NT130.lean (outThrough). -/
section
variable {l : Launch} {R : Room} {p : Program} {e : Env} {below : List Frame} {s : State} {sargs : Array Value} {y : MethodName} {len W9 : Nat}
theorem vx_backW {ws : List Cond} {rm : Room} {Pc : Array Value → State → Prop} {Qc : Array Value → State → Outcome → State → Prop} {XC : String → State → State → Prop} {mc ms : Nat} {free : Addr → Prop} {bytes : ByteArray} {maxL : Nat} {ret : Option FieldType} {hh : List (Nat × Nat × Nat × Nat)}
    (hM : vx_Met l y ws rm Pc Qc XC mc ms free) (hblind : FrameBlind Pc) (hrc : rm.cells = mc) (hrs : rm.slots = ms)
    (hframes : rm.frames + 1 ≤ R.frames) (hlocals : W9 + (maxL + 11) + rm.locals ≤ R.locals)
    (hws : ∀ w ∈ ws, ∀ a' U, s.WarmedH U.vm → w.before a' U = true) (hcode : Cond.codeWith y bytes maxL ret hh ∈ ws) (hinit : ∀ a' U, s.WarmedH U.vm → (Cond.initialized y.cls).before a' U = true) :
    vx_Back l R p e below s sargs y len W9 (PreOf R mc ms Pc) (PostOf Qc mc ms free) (vx_Post XC mc ms free) := by
  intro m meth c A g ig mk a X hg hsize hdg hW hn hp
  have h1 : (headSpec ws rm).pre.before a A.U = true := atoms_intro fun w hw => hws w hw _ _ X.warmed
  have h2 : (Cond.codeWith y bytes maxL ret hh).before a A.U = true := hws _ hcode _ _ X.warmed
  have h3 : (Cond.initialized y.cls).before a A.U = true := hinit _ _ X.warmed
  have h4 : A.cells + (headSpec ws rm).room.cells ≤ R.cells := by rw [show (headSpec ws rm).room.cells = mc from hrc]; exact hp.1
  have h5 : A.slots + (headSpec ws rm).room.slots ≤ R.slots := by rw [show (headSpec ws rm).room.slots = ms from hrs]; exact hp.2.1
  have hPc : Pc a (A.U.calling g mk a) := hblind _ _ _ _ hp.2.2
  obtain ⟨U, Ls, c0, s0⟩ := A
  dsimp only [Pt.U, Pt.locs, Pt.cells, Pt.slots] at h1 h2 h3 h4 h5 X hn hPc ⊢
  obtain ⟨m9, methY, cY, hn9, hmY, hcY, -, hlY, -⟩ := Cond.codeWith_spec h2
  cases Option.some.inj (hn9.symm.trans hn)
  obtain ⟨kY, hkY, -⟩ := className_of_methodNamed hn
  have hinitY : kY.init = .initialized := Cond.initialized_spec (findClass_of_methodNamed hn) hkY h3
  have h : At U g.method c below := by rw [hg]; exact X.here
  have hlocals9 : W9 + (maxL + 11) + (headSpec ws rm).room.locals ≤ R.locals := hlocals
  have happ : (headSpec ws rm).appliesLoose y e.platform (U.calling g mk a) = true :=
    Spec.appliesLoose_calling (g := g) h hdg hn hkY hinitY
      (X.room_calling (g := g) (R' := (headSpec ws rm).room) hsize hmY hcY hframes (by rw [hlY]; omega) h4 h5) h1
  obtain ⟨mid, hmid⟩ := h.above
  have hfr : (U.setTop g).frames = (.java g :: mid) ++ below := by rw [State.frames_setTop' g h.top, hmid]; rfl
  obtain ⟨o, s₂, hsteps, -, hend, hq⟩ := Steps.callFree hM p X.admits X.cas X.clock (acts := []) hfr happ hPc trivial
  have hq' : vx_Q Qc XC mc ms free a (U.calling g mk a) o s₂ := hq
  rw [State.frames_setTop' g h.top] at hend
  obtain ⟨g₀, hg0⟩ := Option.isSome_iff_exists.mp h.top
  obtain ⟨r, hr⟩ := State.topJava?_eq_some.mp hg0
  have hr' : (({ U with heap := s₂.heap, slotsUsed := s₂.slotsUsed } : State).setVm s₂.vm).frames = .java g₀ :: r := hr
  rcases hq' with ⟨hqc, L, hfe, hL⟩ | ⟨q, rfl, E, ce, L, hx, hce, hcv, hcl, hW₂, hsm, hL⟩
  · obtain ⟨⟨v, rfl⟩, hW₂, e2, q2, q3, q4, q5, q6⟩ := id hfe
    have e3 : s₂ = ({ (U.calling g mk a).setFrames s₂.frames with heap := s₂.heap, slotsUsed := s₂.slotsUsed } : State).setVm s₂.vm := by
      have : s₂ = ({ s₂ with vm := (U.calling g mk a).vm } : State).setVm s₂.vm := rfl
      rw [e2] at this
      exact this
    obtain ⟨c₂, i₂, len₂, hc₂, hd₂, hf₂⟩ := hend
    have hW' : U.WarmedH s₂.vm := hW₂
    have hcc : c₂ = c := by
      have h1 : s₂.code? g.method = U.code? g.method := by
        rw [State.code?_eq, State.code?_eq, hW'.alike.method?]
      exact Option.some.inj (hc₂.symm.trans (h1.trans h.code))
    subst hcc
    have hlen : len₂ = len := by rw [hdg] at hd₂; cases hd₂; rfl
    subst hlen
    have hs₂ : s₂ = (({ U with heap := s₂.heap, slotsUsed := s₂.slotsUsed } : State).setVm s₂.vm).setTop { g with pc := g.pc + len₂, stack := v.toList ++ g.stack } := by
      refine e3.trans ?_
      rw [hf₂, State.calling_eq h.top, State.setFrames_setFrames, State.setTop_of_frames _ hr', hr]
      rfl
    have hsame : U.sameButNew ({ U with heap := s₂.heap, slotsUsed := s₂.slotsUsed } : State) L mc ms := by
      refine ⟨?_, q2, q3, q4, q5, q6⟩
      obtain ⟨t, ht, -⟩ := State.frames_cons hr
      show ({ U with heap := s₂.heap, slotsUsed := s₂.slotsUsed } : State) = { U.setFrames U.frames with heap := s₂.heap, slotsUsed := s₂.slotsUsed }
      rw [State.setFrames_self ht]
    subst hg
    refine Or.inl ⟨v, ⟨(({ U with heap := s₂.heap, slotsUsed := s₂.slotsUsed } : State).setVm s₂.vm), Ls ++ L, c0 + mc, s0 + ms⟩,
      ⟨X.admits, X.cas, X.clock, X.frames, X.room, X.hears, X.method, X.code, (X.here.setHeapUsed s₂.heap s₂.slotsUsed).setVm hW'.alike, X.tail, State.WarmedH.trans X.warmed hW', X.limits, X.bytes, X.same.trans (hsame.setVm s.vm)⟩,
      ⟨g, mk, s₂, L, rfl, rfl, hqc, rfl, hL, rfl, rfl⟩, ?_⟩
    show Steps p.tables e below _ ((({ U with heap := s₂.heap, slotsUsed := s₂.slotsUsed } : State).setVm s₂.vm).setTop { g with pc := g.pc + len₂, stack := v.toList ++ g.stack })
    rw [← hs₂]
    exact hsteps
  · obtain ⟨e2, q2, q3, q4, q5, q6⟩ := id hsm
    have e3 : s₂ = ({ (U.calling g mk a).setFrames s₂.frames with heap := s₂.heap, slotsUsed := s₂.slotsUsed } : State).setVm s₂.vm := by
      have : s₂ = ({ s₂ with vm := (U.calling g mk a).vm } : State).setVm s₂.vm := rfl
      rw [e2] at this
      exact this
    have hf₂ : s₂.frames = .throwing q :: .java g :: U.frames.tail := hend
    have hW' : U.WarmedH s₂.vm := hW₂
    have hs₂ : s₂ = ((({ U with heap := s₂.heap, slotsUsed := s₂.slotsUsed } : State).setVm s₂.vm).setTop g).pushFrame (.throwing q) := by
      refine e3.trans ?_
      rw [hf₂, State.calling_eq h.top, State.setFrames_setFrames, State.pushFrame, State.frames_setTop _ hr', State.setTop_of_frames _ hr', State.setFrames_setFrames, hr]
      rfl
    have hsame : U.sameButNew ({ U with heap := s₂.heap, slotsUsed := s₂.slotsUsed } : State) L mc ms := by
      refine ⟨?_, q2, q3, q4, q5, q6⟩
      obtain ⟨t, ht, -⟩ := State.frames_cons hr
      show ({ U with heap := s₂.heap, slotsUsed := s₂.slotsUsed } : State) = { U.setFrames U.frames with heap := s₂.heap, slotsUsed := s₂.slotsUsed }
      rw [State.setFrames_self ht]
    subst hg
    refine Or.inr ⟨q, ⟨(({ U with heap := s₂.heap, slotsUsed := s₂.slotsUsed } : State).setVm s₂.vm), Ls ++ L, c0 + mc, s0 + ms⟩,
      ⟨X.admits, X.cas, X.clock, X.frames, X.room, X.hears, X.method, X.code, (X.here.setHeapUsed s₂.heap s₂.slotsUsed).setVm hW'.alike, X.tail, State.WarmedH.trans X.warmed hW', X.limits, X.bytes, X.same.trans (hsame.setVm s.vm)⟩,
      ⟨g, mk, s₂, L, E, ce, rfl, rfl, hx, hce, hcv, hcl, rfl, hL, rfl, rfl⟩, ?_⟩
    show Steps p.tables e below _ (((({ U with heap := s₂.heap, slotsUsed := s₂.slotsUsed } : State).setVm s₂.vm).setTop g).pushFrame (.throwing q))
    rw [← hs₂]
    exact hsteps
end
variable {p : Program} {l : Launch} {e : Env} {R : Room} {s : State} {m : MethodId} {args : Array Value} {below : List Frame} {meth : Method} {c : Code} {T : State} {H : Heap} {locs : List Loc} {cells slots : Nat}
theorem vx_callVX (X : Stand p l e R s m args below meth c T locs cells slots) (hexec : p.tables.exec = Jvm.exec) {own C : String} {index : Nat} {y : MethodName} {bytes : ByteArray} {maxL : Nat} {ret : Option FieldType} {hh : List (Nat × Nat × Nat × Nat)}
    (hown : s.vm.findClass own = some m.cls) (hlink : (Cond.methodLink own index y).before args s = true) (hinst : (Cond.instanceMethod y).before args s = true) (hsel : (Cond.selects C y y).before args s = true)
    (hcode : (Cond.codeWith y bytes maxL ret hh).before args s = true) (hy : y.cls ≠ "java/lang/invoke/MethodHandle" ∧ y.cls ≠ "java/lang/invoke/VarHandle")
    {W9 : Nat} {Pre : Pt → Array Value → Prop} {Post : Pt → Array Value → Option Value → Pt → Prop} {PostX : Pt → Array Value → Addr → Pt → Prop} (hK : vx_Back l R p e below s args y 3 W9 Pre Post PostX)
    {b : Addr} {cellB : Cell} (hcell : T.heap[b]? = some cellB) (hobj : cellB.vm.isStatics = false) (hcls : s.vm.findClass C = some cellB.cls)
    {g : JFrame} (hg : g.method = m) (hsize : g.locals.size = c.maxLocals) {argsL rest : List Value} (hlen : ∀ sig, parseMethodDescriptor y.desc = some sig → argsL.length = sig.parameters.length)
    (hstack : g.stack = argsL.reverse ++ .ref b :: rest) (hW : 2 * g.monitorRoom + (rest.map fun v => v.category).sum ≤ W9) (hdg : decode c.code g.pc = .ok (.invokevirtual index, 3))
    (hpre : ∀ vm₁, s.WarmedH vm₁ → Pre ⟨T.setVm vm₁, locs, cells, slots⟩ (Value.ref b :: argsL).toArray) :
    (∃ (v : Option Value) (vm₁ : Vm) (B : Pt), s.WarmedH vm₁ ∧ Stand p l e R s m args below meth c B.U B.locs B.cells B.slots ∧ Post ⟨T.setVm vm₁, locs, cells, slots⟩ (Value.ref b :: argsL).toArray v B ∧
      ∀ target, Steps p.tables e below (B.U.setTop { g with pc := g.pc + 3, stack := v.toList ++ rest }) target → Steps p.tables e below (T.setTop g) target) ∨
    (∃ (q : Addr) (vm₁ : Vm) (B : Pt), s.WarmedH vm₁ ∧ Stand p l e R s m args below meth c B.U B.locs B.cells B.slots ∧ PostX ⟨T.setVm vm₁, locs, cells, slots⟩ (Value.ref b :: argsL).toArray q B ∧
      Steps p.tables e below (T.setTop g) ((B.U.setTop { g with stack := rest }).pushFrame (.throwing q))) := by
  obtain ⟨mk, methM, hnamed, hmethM, hstM, habM⟩ := Cond.instanceMethod_spec hinst
  obtain ⟨m8, methM', cM, hn8, hmethM', -, -, -, -, -, -, hsigM⟩ := Cond.codeWith_spec hcode
  cases Option.some.inj (hn8.symm.trans hnamed)
  cases hmethM.symm.trans hmethM'
  obtain ⟨c2, r2, m2, q1, q2, q3, q4, kP, hkP, hkPi⟩ := Cond.selects_spec hsel
  cases hcls.symm.trans q1
  cases (State.methodFound?_of_named hnamed hy).symm.trans q2
  cases hnamed.symm.trans q3
  have hselP : selectMethod e.platform s.vm cellB.cls mk = .method mk := by rw [Launch.admits_selectMethod X.admits]; exact q4
  obtain ⟨vm₁, X₁, hstep₁⟩ := X.invokevirtual hexec hown hlink hnamed hmethM hstM hkP hkPi hy (a := b) (cell := cellB) hcell
    (fun z h => by rw [h] at hobj; cases hobj) hselP hmethM habM hkP hkPi (g := g) hg (argsL := argsL) (rest := rest) (hlen _ hsigM) hstack hdg
  rcases hK m meth c ⟨T.setVm vm₁, locs, cells, slots⟩ { g with stack := rest } (.invokevirtual index) mk (Value.ref b :: argsL).toArray X₁ hg hsize hdg hW (X₁.named hnamed) (hpre vm₁ X₁.warmed) with ⟨v, B, X', hpost, hsteps⟩ | ⟨q, B, X', hpost, hsteps⟩
  · exact Or.inl ⟨v, vm₁, B, X₁.warmed, X', hpost, fun target h => hstep₁ _ fun acts => by rw [doInvoke_state]; exact hsteps.trans h⟩
  · exact Or.inr ⟨q, vm₁, B, X₁.warmed, X', hpost, hstep₁ _ fun acts => by rw [doInvoke_state]; exact hsteps⟩
theorem vx_callSX (X : Stand p l e R s m args below meth c T locs cells slots) (hexec : p.tables.exec = Jvm.exec) {own : String} {index : Nat} {y : MethodName} {bytes : ByteArray} {maxL : Nat} {ret : Option FieldType} {hh : List (Nat × Nat × Nat × Nat)}
    (hown : s.vm.findClass own = some m.cls) (hlink : (Cond.methodLink own index y).before args s = true) (hstat : (Cond.static y).before args s = true) (hinit : (Cond.initialized y.cls).before args s = true)
    (hcode : (Cond.codeWith y bytes maxL ret hh).before args s = true) (hy : y.cls ≠ "java/lang/invoke/MethodHandle" ∧ y.cls ≠ "java/lang/invoke/VarHandle")
    {W9 : Nat} {Pre : Pt → Array Value → Prop} {Post : Pt → Array Value → Option Value → Pt → Prop} {PostX : Pt → Array Value → Addr → Pt → Prop} (hK : vx_Back l R p e below s args y 3 W9 Pre Post PostX)
    {g : JFrame} (hg : g.method = m) (hsize : g.locals.size = c.maxLocals) {argsL rest : List Value} (hlen : ∀ sig, parseMethodDescriptor y.desc = some sig → argsL.length = sig.parameters.length)
    (hstack : g.stack = argsL.reverse ++ rest) (hW : 2 * g.monitorRoom + (rest.map fun v => v.category).sum ≤ W9) (hdg : decode c.code g.pc = .ok (.invokestatic index, 3))
    (hpre : ∀ vm₁, s.WarmedH vm₁ → Pre ⟨T.setVm vm₁, locs, cells, slots⟩ argsL.toArray) :
    (∃ (v : Option Value) (vm₁ : Vm) (B : Pt), s.WarmedH vm₁ ∧ Stand p l e R s m args below meth c B.U B.locs B.cells B.slots ∧ Post ⟨T.setVm vm₁, locs, cells, slots⟩ argsL.toArray v B ∧
      ∀ target, Steps p.tables e below (B.U.setTop { g with pc := g.pc + 3, stack := v.toList ++ rest }) target → Steps p.tables e below (T.setTop g) target) ∨
    (∃ (q : Addr) (vm₁ : Vm) (B : Pt), s.WarmedH vm₁ ∧ Stand p l e R s m args below meth c B.U B.locs B.cells B.slots ∧ PostX ⟨T.setVm vm₁, locs, cells, slots⟩ argsL.toArray q B ∧
      Steps p.tables e below (T.setTop g) ((B.U.setTop { g with stack := rest }).pushFrame (.throwing q))) := by
  obtain ⟨mk, methM, cM, hnamed, hmethM, -, -, -, -, -, -, hsigM⟩ := Cond.codeWith_spec hcode
  have hstatic : methM.isStatic = true := Cond.static_spec hnamed hmethM hstat
  obtain ⟨kP, hkP, -⟩ := className_of_methodNamed hnamed
  have hinitP : kP.init = .initialized := Cond.initialized_spec (findClass_of_methodNamed hnamed) hkP hinit
  obtain ⟨vm₁, X₁, hstep₁⟩ := X.invokestatic hexec hown hlink hnamed hmethM hstatic hkP hinitP hy (g := g) hg (argsL := argsL) (rest := rest) (hlen _ hsigM) hstack hdg
  rcases hK m meth c ⟨T.setVm vm₁, locs, cells, slots⟩ { g with stack := rest } (.invokestatic index) mk argsL.toArray X₁ hg hsize hdg hW (X₁.named hnamed) (hpre vm₁ X₁.warmed) with ⟨v, B, X', hpost, hsteps⟩ | ⟨q, B, X', hpost, hsteps⟩
  · exact Or.inl ⟨v, vm₁, B, X₁.warmed, X', hpost, fun target h => hstep₁ _ fun acts => by rw [doInvoke_state]; exact hsteps.trans h⟩
  · exact Or.inr ⟨q, vm₁, B, X₁.warmed, X', hpost, hstep₁ _ fun acts => by rw [doInvoke_state]; exact hsteps⟩
theorem vx_callVW (X : Stand p l e R s m args below meth c T locs cells slots) (hexec : p.tables.exec = Jvm.exec) {own C : String} {index : Nat} {y : MethodName} {bytes : ByteArray} {maxL : Nat} {ret : Option FieldType} {hh : List (Nat × Nat × Nat × Nat)}
    (hown : s.vm.findClass own = some m.cls) (hlink : (Cond.methodLink own index y).before args s = true) (hinst : (Cond.instanceMethod y).before args s = true) (hsel : (Cond.selects C y y).before args s = true)
    (hcode : (Cond.codeWith y bytes maxL ret hh).before args s = true) (hy : y.cls ≠ "java/lang/invoke/MethodHandle" ∧ y.cls ≠ "java/lang/invoke/VarHandle")
    {W9 : Nat} {Pre : Pt → Array Value → Prop} {Post : Pt → Array Value → Option Value → Pt → Prop} (hK : Back l R p e below s args y 3 W9 Pre Post)
    {b : Addr} {cellB : Cell} (hcell : T.heap[b]? = some cellB) (hobj : cellB.vm.isStatics = false) (hcls : s.vm.findClass C = some cellB.cls)
    {g : JFrame} (hg : g.method = m) (hsize : g.locals.size = c.maxLocals) {argsL rest : List Value} (hlen : ∀ sig, parseMethodDescriptor y.desc = some sig → argsL.length = sig.parameters.length)
    (hstack : g.stack = argsL.reverse ++ .ref b :: rest) (hW : 2 * g.monitorRoom + (rest.map fun v => v.category).sum ≤ W9) (hdg : decode c.code g.pc = .ok (.invokevirtual index, 3))
    (hpre : ∀ vm₁, s.WarmedH vm₁ → Pre ⟨T.setVm vm₁, locs, cells, slots⟩ (Value.ref b :: argsL).toArray) :
    ∃ (v : Option Value) (vm₁ : Vm) (B : Pt), s.WarmedH vm₁ ∧ Stand p l e R s m args below meth c B.U B.locs B.cells B.slots ∧ Post ⟨T.setVm vm₁, locs, cells, slots⟩ (Value.ref b :: argsL).toArray v B ∧
      ∀ target, Steps p.tables e below (B.U.setTop { g with pc := g.pc + 3, stack := v.toList ++ rest }) target → Steps p.tables e below (T.setTop g) target := by
  obtain ⟨mk, methM, hnamed, hmethM, hstM, habM⟩ := Cond.instanceMethod_spec hinst
  obtain ⟨m8, methM', cM, hn8, hmethM', -, -, -, -, -, -, hsigM⟩ := Cond.codeWith_spec hcode
  cases Option.some.inj (hn8.symm.trans hnamed)
  cases hmethM.symm.trans hmethM'
  obtain ⟨c2, r2, m2, q1, q2, q3, q4, kP, hkP, hkPi⟩ := Cond.selects_spec hsel
  cases hcls.symm.trans q1
  cases (State.methodFound?_of_named hnamed hy).symm.trans q2
  cases hnamed.symm.trans q3
  have hselP : selectMethod e.platform s.vm cellB.cls mk = .method mk := by rw [Launch.admits_selectMethod X.admits]; exact q4
  obtain ⟨vm₁, X₁, hstep₁⟩ := X.invokevirtual hexec hown hlink hnamed hmethM hstM hkP hkPi hy (a := b) (cell := cellB) hcell
    (fun z h => by rw [h] at hobj; cases hobj) hselP hmethM habM hkP hkPi (g := g) hg (argsL := argsL) (rest := rest) (hlen _ hsigM) hstack hdg
  obtain ⟨v, B, X', hpost, hsteps⟩ := hK m meth c ⟨T.setVm vm₁, locs, cells, slots⟩ { g with stack := rest } (.invokevirtual index) mk (Value.ref b :: argsL).toArray X₁ hg hsize hdg hW (X₁.named hnamed) (hpre vm₁ X₁.warmed)
  exact ⟨v, vm₁, B, X₁.warmed, X', hpost, fun target h => hstep₁ _ fun acts => by rw [doInvoke_state]; exact hsteps.trans h⟩
abbrev vx_CVW (R : Room) (s : State) (args : Array Value) (own C : String) (index : Nat) (y : MethodName) (bytes : ByteArray) (maxL : Nat) (ret : Option FieldType) (hh : List (Nat × Nat × Nat × Nat)) (ws : List Cond) (rm : Room) (mc ms n : Nat) : Prop :=
  (rm.cells = mc ∧ rm.slots = ms ∧ rm.frames + 1 ≤ R.frames ∧ 8 + (maxL + 11) + rm.locals ≤ R.locals ∧ (∀ w ∈ ws, ∀ (a' : Array Value) (U : State), s.WarmedH U.vm → w.before a' U = true) ∧ Cond.codeWith y bytes maxL ret hh ∈ ws) ∧
  (Cond.codeWith y bytes maxL ret hh).before args s = true ∧ (Cond.initialized y.cls).before args s = true ∧ (y.cls ≠ "java/lang/invoke/MethodHandle" ∧ y.cls ≠ "java/lang/invoke/VarHandle") ∧
  (∀ sig, parseMethodDescriptor y.desc = some sig → n = sig.parameters.length) ∧ (Cond.methodLink own index y).before args s = true ∧ (Cond.instanceMethod y).before args s = true ∧ (Cond.selects C y y).before args s = true
theorem vx_cwVW {own C : String} {index maxL mc ms : Nat} {y : MethodName} {bytes : ByteArray} {ret : Option FieldType} {hh : List (Nat × Nat × Nat × Nat)} {Ts ws ws' : List Cond} {rm : Room} (n : Nat) (ht : ∀ w ∈ Ts, w.before args s = true) (hT : GoodIn Ts (wsV own index C y ws)) (hw : ws = Cond.codeWith y bytes maxL ret hh :: ws') (hrc : rm.cells = mc) (hrs : rm.slots = ms)
    (hd : y.cls = C ∧ y.cls ≠ "java/lang/invoke/MethodHandle" ∧ y.cls ≠ "java/lang/invoke/VarHandle" ∧ (parseMethodDescriptor y.desc).map (fun d => d.parameters.length) = some n) (hR : rm.frames + 1 ≤ R.frames ∧ 8 + (maxL + 11) + rm.locals ≤ R.locals) :
    vx_CVW R s args own C index y bytes maxL ret hh ws rm mc ms n := by
  obtain ⟨hC, hd⟩ := hd
  subst hC
  have ok : ∀ w ∈ wsV own index y.cls y ws, w.before args s = true := fun w h => ht w (hT w h).1
  have hG : GoodIn Ts ws := fun w h => hT w (by unfold wsV; exact List.mem_append_right _ h)
  have hc : Cond.codeWith y bytes maxL ret hh ∈ ws := by rw [hw]; exact List.mem_cons_self
  refine ⟨⟨hrc, hrs, hR.1, hR.2, pay_in ht hG, hc⟩, ht _ (hG _ hc).1, ok _ (by simp [wsV]), ⟨hd.1, hd.2.1⟩, fun sig h => ?_, ok _ (by simp [wsV]), ok _ (by simp [wsV]), ok _ (by simp [wsV])⟩
  have h2 := hd.2.2
  rw [h] at h2
  exact (Option.some.inj h2).symm
theorem vx_runVW {y : MethodName} {bytes cc : ByteArray} {maxL nL mc ms n index : Nat} {ret : Option FieldType} {hh : List (Nat × Nat × Nat × Nat)} {ws : List Cond} {rm : Room} {Pc : Array Value → State → Prop} {Qc : Array Value → State → Outcome → State → Prop} {free : Addr → Prop} {Ts : List Cond} {own C : String} {b : Addr} {As rest : List Value} {g : JFrame}
    (S : CallFix p m c cc nL s args Ts own) (hM : Met l y ws rm Pc Qc mc ms free) (cw : vx_CVW R s args own C index y bytes maxL ret hh ws rm mc ms n) (hp : PreV s H C b Pc As)
    (hg : g.method = m) (hn : As.length = n) (hsize : g.locals.size = nL) (hstack : g.stack = As.reverse ++ .ref b :: rest) (hW : 2 * g.monitorRoom + (rest.map fun v => v.category).sum ≤ 8) (hdg : decode cc g.pc = .ok (.invokevirtual index, 3)) (hf : cells + mc ≤ R.cells ∧ slots + ms ≤ R.slots) :
    va_Run p l e R s m args below meth c H locs cells slots mc ms g rest (Qc (Value.ref b :: As).toArray) free := by
  obtain ⟨⟨hrc, hrs, hfr, hlo, hws, hcw⟩, hcode, hini, hy, hlen, hl, hin, hse⟩ := cw
  have hK : Back l R p e below s args y 3 8 (PreOf R mc ms Pc) (PostOf Qc mc ms free) := va_backW (hh := hh) (bytes := bytes) (maxL := maxL) (ret := ret) hM hp.1 hrc hrs hfr hlo hws hcw (fun a' U hW => word_at hW (Or.inl (by first | rfl | simp [Cond.onTables, Cond.keeps, Cond.steady])) hini)
  obtain ⟨hx, hb, hml, ho, -⟩ := S
  obtain ⟨-, ⟨cellB, hcB, hoB, hclB⟩, hPc⟩ := hp
  intro T hT X
  obtain ⟨v, vm₁, ⟨U', l2, c2, s2⟩, hW₁, X', ⟨g', mk, t, L, e1, e2, hq, h1, hL, h2, h3⟩, st⟩ := vx_callVW X hx (C := C) (hh := hh) (bytes := bytes) (maxL := maxL) (ret := ret) ho hl hin hse hcode hy hK (by rw [hT]; exact hcB) hoB hclB hg (hsize.trans hml.symm) (argsL := As) (rest := rest) (fun sig h => hn.trans (hlen sig h)) hstack hW (by rw [hb]; exact hdg)
    (fun vm₁ hW₁ => ⟨hf.1, hf.2, hPc (T.setVm vm₁) hT hW₁⟩)
  dsimp only [Pt.U, Pt.locs, Pt.cells, Pt.slots] at X' e1 e2 h1 h2 h3 st
  subst h1; subst h2; subst h3
  exact ⟨v, (T.setVm vm₁).calling g' mk (Value.ref b :: As).toArray, t, U', L, hT, X', hL, e1, e2, hq, st⟩
section
variable {y : MethodName} {bytes cc : ByteArray} {maxL nL mc ms n index : Nat} {ret : Option FieldType} {ws : List Cond} {rm : Room} {Pc : Array Value → State → Prop} {Qc : Array Value → State → Outcome → State → Prop} {XC : String → State → State → Prop} {free : Addr → Prop} {Ts : List Cond} {own C : String} {b : Addr} {As rest : List Value} {g : JFrame}
theorem vx_runVX {hh : List (Nat × Nat × Nat × Nat)} (S : CallFix p m c cc nL s args Ts own) (hM : vx_Met l y ws rm Pc Qc XC mc ms free) (cw : vx_CVW R s args own C index y bytes maxL ret hh ws rm mc ms n) (hp : PreV s H C b Pc As)
    (hg : g.method = m) (hn : As.length = n) (hsize : g.locals.size = nL) (hstack : g.stack = As.reverse ++ .ref b :: rest) (hW : 2 * g.monitorRoom + (rest.map fun v => v.category).sum ≤ 8) (hdg : decode cc g.pc = .ok (.invokevirtual index, 3)) (hf : cells + mc ≤ R.cells ∧ slots + ms ≤ R.slots) :
    vx_Run p l e R s m args below meth c H locs cells slots mc ms g rest (Qc (Value.ref b :: As).toArray) XC free := by
  obtain ⟨⟨hrc, hrs, hfr, hlo, hws, hcw⟩, hcode, hini, hy, hlen, hl, hin, hse⟩ := cw
  have hK : vx_Back l R p e below s args y 3 8 (PreOf R mc ms Pc) (PostOf Qc mc ms free) (vx_Post XC mc ms free) := vx_backW (hh := hh) (bytes := bytes) (maxL := maxL) (ret := ret) hM hp.1 hrc hrs hfr hlo hws hcw (fun a' U hW => word_at hW (Or.inl (by first | rfl | simp [Cond.onTables, Cond.keeps, Cond.steady])) hini)
  obtain ⟨hx, hb, hml, ho, -⟩ := S
  obtain ⟨-, ⟨cellB, hcB, hoB, hclB⟩, hPc⟩ := hp
  intro T hT X
  rcases vx_callVX X hx (C := C) (hh := hh) (bytes := bytes) (maxL := maxL) (ret := ret) ho hl hin hse hcode hy hK (by rw [hT]; exact hcB) hoB hclB hg (hsize.trans hml.symm) (argsL := As) (rest := rest) (fun sig h => hn.trans (hlen sig h)) hstack hW (by rw [hb]; exact hdg)
    (fun vm₁ hW₁ => ⟨hf.1, hf.2, hPc (T.setVm vm₁) hT hW₁⟩) with ⟨v, vm₁, ⟨U', l2, c2, s2⟩, hW₁, X', ⟨g', mk, t, L, e1, e2, hq, h1, hL, h2, h3⟩, st⟩ | ⟨q, vm₁, ⟨U', l2, c2, s2⟩, hW₁, X', ⟨g', mk, t, L, E, ce, e1, e2, hq, hce, hcv, hcl, h1, hL, h2, h3⟩, st⟩
  · dsimp only [Pt.U, Pt.locs, Pt.cells, Pt.slots] at X' e1 e2 h1 h2 h3 st
    subst h1; subst h2; subst h3
    exact Or.inl ⟨v, (T.setVm vm₁).calling g' mk (Value.ref b :: As).toArray, t, U', L, hT, X', hL, e1, e2, hq, st⟩
  · dsimp only [Pt.U, Pt.locs, Pt.cells, Pt.slots] at X' e1 e2 h1 h2 h3 st hcl
    subst h1; subst h2; subst h3
    exact Or.inr ⟨q, (T.setVm vm₁).calling g' mk (Value.ref b :: As).toArray, t, U', L, E, ce, hT, X', hL, e1, e2, hq, hce, hcv, vx_cls hW₁ hcl, st⟩
theorem vx_runSX {hh : List (Nat × Nat × Nat × Nat)} (S : CallFix p m c cc nL s args Ts own) (hM : vx_Met l y ws rm Pc Qc XC mc ms free) (cw : vx_CSW R s args own index y bytes maxL ret hh ws rm mc ms n) (hp : PreS s H Pc As)
    (hg : g.method = m) (hn : As.length = n) (hsize : g.locals.size = nL) (hstack : g.stack = As.reverse ++ rest) (hW : 2 * g.monitorRoom + (rest.map fun v => v.category).sum ≤ 8) (hdg : decode cc g.pc = .ok (.invokestatic index, 3)) (hf : cells + mc ≤ R.cells ∧ slots + ms ≤ R.slots) :
    vx_Run p l e R s m args below meth c H locs cells slots mc ms g rest (Qc As.toArray) XC free := by
  obtain ⟨⟨hrc, hrs, hfr, hlo, hws, hcw⟩, hcode, hini, hy, hlen, hl, hstt⟩ := cw
  have hK : vx_Back l R p e below s args y 3 8 (PreOf R mc ms Pc) (PostOf Qc mc ms free) (vx_Post XC mc ms free) := vx_backW (hh := hh) (bytes := bytes) (maxL := maxL) (ret := ret) hM hp.1 hrc hrs hfr hlo hws hcw (fun a' U hW => word_at hW (Or.inl (by first | rfl | simp [Cond.onTables, Cond.keeps, Cond.steady])) hini)
  obtain ⟨hx, hb, hml, ho, -⟩ := S
  intro T hT X
  rcases vx_callSX X hx (hh := hh) (bytes := bytes) (maxL := maxL) (ret := ret) ho hl hstt hini hcode hy hK hg (hsize.trans hml.symm) (argsL := As) (rest := rest) (fun sig h => hn.trans (hlen sig h)) hstack hW (by rw [hb]; exact hdg)
    (fun vm₁ hW₁ => ⟨hf.1, hf.2, hp.2 (T.setVm vm₁) hT hW₁⟩) with ⟨v, vm₁, ⟨U', l2, c2, s2⟩, hW₁, X', ⟨g', mk, t, L, e1, e2, hq, h1, hL, h2, h3⟩, st⟩ | ⟨q, vm₁, ⟨U', l2, c2, s2⟩, hW₁, X', ⟨g', mk, t, L, E, ce, e1, e2, hq, hce, hcv, hcl, h1, hL, h2, h3⟩, st⟩
  · dsimp only [Pt.U, Pt.locs, Pt.cells, Pt.slots] at X' e1 e2 h1 h2 h3 st
    subst h1; subst h2; subst h3
    exact Or.inl ⟨v, (T.setVm vm₁).calling g' mk As.toArray, t, U', L, hT, X', hL, e1, e2, hq, st⟩
  · dsimp only [Pt.U, Pt.locs, Pt.cells, Pt.slots] at X' e1 e2 h1 h2 h3 st hcl
    subst h1; subst h2; subst h3
    exact Or.inr ⟨q, (T.setVm vm₁).calling g' mk As.toArray, t, U', L, E, ce, hT, X', hL, e1, e2, hq, hce, hcv, vx_cls hW₁ hcl, st⟩
end
end VXH
theorem vx_ofWH {l : Launch} {y : MethodName} {ws ws' : List Cond} {rm : Room} {Pc : Array Value → State → Prop} {Qc : Array Value → State → Outcome → State → Prop} {XC : String → State → State → Prop} {mc ms : Nat} {free : Addr → Prop} {cc : ByteArray} {maxL : Nat} {ret : Option FieldType} {hh : List (Nat × Nat × Nat × Nat)}
    (hy : plainName y.cls = true) (hw : ws = Cond.codeWith y cc maxL ret hh :: ws')
    (body : ∀ p e s m args below meth c s₁, BodyLoose p l y (headSpec ws rm) cc maxL ret e s m args below meth c s₁ → c.maxLocals = maxL → Pc args s →
      W p l e (headSpec ws rm).room s m args below meth c s.heap [] 0 0 (vx_MQ below Qc XC args s mc ms free) (entryFrame m args maxL)) : vx_Met l y ws rm Pc Qc XC mc ms free := by
  refine MetFree.of_bodyS (code := cc) (maxLocals := maxL) (ret := ret) hy ?_ ?_
  · intro args s m h hn
    obtain ⟨m9, meth, c, hn9, h1, h2, h3, h4, -, h5, h6, -⟩ := Cond.codeWith_spec (atoms_spec (ws := ws) h _ (by rw [hw]; exact List.mem_cons_self))
    cases hn.symm.trans hn9
    exact ⟨meth, c, h1, h2, h3, h4, h5, h6⟩
  · intro p e s m args below meth c s₁ B hml hP _
    have hh0 : s₁.heap = s.heap := by rw [B.state]; rfl
    obtain ⟨t, a1, o, b1, b2, b3⟩ := body p e s m args below meth c s₁ B hml hP s₁ hh0 (Stand.of_body B)
    exact ⟨t, o, a1, b1, b2, b3⟩
/-! ===== END ===== -/
end
section
-- ===== PART A: goes FIRST, ahead of the names: the tables' words, and 'selects' of the private methods out of them =====
/-- a private method of a class that the tables say can be made, by its rows of tables_1 -/
def lw_okq (q : MethodName × Nat) : Prop := (q.1.cls ≠ "java/lang/invoke/MethodHandle" ∧ q.1.cls ≠ "java/lang/invoke/VarHandle") ∧ Cond.instantiable q.1.cls q.2 ∈ tables_1 ∧ Cond.privateMethod q.1 ∈ tables_1 ∧ Cond.instanceMethod q.1 ∈ tables_1
theorem lw_p0 : lw_okq (⟨"NumberLeases$Orders", "readSign", "(I)V"⟩, 8) := ⟨⟨by decide +kernel, by decide +kernel⟩, List.mem_of_getElem? (i := 105) (by decide +kernel), List.mem_of_getElem? (i := 175) (by decide +kernel), List.mem_of_getElem? (i := 176) (by decide +kernel)⟩
theorem lw_p1 : lw_okq (⟨"NumberLeases$Orders", "readOrder", "()V"⟩, 8) := ⟨⟨by decide +kernel, by decide +kernel⟩, List.mem_of_getElem? (i := 105) (by decide +kernel), List.mem_of_getElem? (i := 183) (by decide +kernel), List.mem_of_getElem? (i := 184) (by decide +kernel)⟩
theorem lw_p2 : lw_okq (⟨"NumberLeases$Orders", "readNumber", "(II)I"⟩, 8) := ⟨⟨by decide +kernel, by decide +kernel⟩, List.mem_of_getElem? (i := 105) (by decide +kernel), List.mem_of_getElem? (i := 187) (by decide +kernel), List.mem_of_getElem? (i := 188) (by decide +kernel)⟩
theorem lw_p3 : lw_okq (⟨"NumberLeases$Orders", "digitAt", "(I)I"⟩, 8) := ⟨⟨by decide +kernel, by decide +kernel⟩, List.mem_of_getElem? (i := 105) (by decide +kernel), List.mem_of_getElem? (i := 191) (by decide +kernel), List.mem_of_getElem? (i := 192) (by decide +kernel)⟩
theorem lw_p4 : lw_okq (⟨"NumberLeases", "fullnessBits", "()I"⟩, 4) := ⟨⟨by decide +kernel, by decide +kernel⟩, List.mem_of_getElem? (i := 18) (by decide +kernel), List.mem_of_getElem? (i := 205) (by decide +kernel), List.mem_of_getElem? (i := 206) (by decide +kernel)⟩
theorem lw_p5 : lw_okq (⟨"NumberLeases$Pool", "numbersIn", "(I)I"⟩, 16) := ⟨⟨by decide +kernel, by decide +kernel⟩, List.mem_of_getElem? (i := 26) (by decide +kernel), List.mem_of_getElem? (i := 213) (by decide +kernel), List.mem_of_getElem? (i := 214) (by decide +kernel)⟩
theorem lw_p6 : lw_okq (⟨"NumberLeases$Pool", "stateOf", "(I)I"⟩, 16) := ⟨⟨by decide +kernel, by decide +kernel⟩, List.mem_of_getElem? (i := 26) (by decide +kernel), List.mem_of_getElem? (i := 217) (by decide +kernel), List.mem_of_getElem? (i := 218) (by decide +kernel)⟩
theorem lw_p7 : lw_okq (⟨"NumberLeases", "scatterBits", "()I"⟩, 4) := ⟨⟨by decide +kernel, by decide +kernel⟩, List.mem_of_getElem? (i := 18) (by decide +kernel), List.mem_of_getElem? (i := 229) (by decide +kernel), List.mem_of_getElem? (i := 230) (by decide +kernel)⟩
theorem lw_p8 : lw_okq (⟨"NumberLeases$Pool", "rowFrom", "(I)I"⟩, 16) := ⟨⟨by decide +kernel, by decide +kernel⟩, List.mem_of_getElem? (i := 26) (by decide +kernel), List.mem_of_getElem? (i := 237) (by decide +kernel), List.mem_of_getElem? (i := 238) (by decide +kernel)⟩
theorem lw_p9 : lw_okq (⟨"NumberLeases", "meanUnits", "()D"⟩, 4) := ⟨⟨by decide +kernel, by decide +kernel⟩, List.mem_of_getElem? (i := 18) (by decide +kernel), List.mem_of_getElem? (i := 248) (by decide +kernel), List.mem_of_getElem? (i := 249) (by decide +kernel)⟩
theorem lw_p10 : lw_okq (⟨"NumberLeases", "countOf", "(I)I"⟩, 4) := ⟨⟨by decide +kernel, by decide +kernel⟩, List.mem_of_getElem? (i := 18) (by decide +kernel), List.mem_of_getElem? (i := 261) (by decide +kernel), List.mem_of_getElem? (i := 262) (by decide +kernel)⟩
theorem lw_p11 : lw_okq (⟨"NumberLeases$Pool", "startsSpan", "(I)Z"⟩, 16) := ⟨⟨by decide +kernel, by decide +kernel⟩, List.mem_of_getElem? (i := 26) (by decide +kernel), List.mem_of_getElem? (i := 275) (by decide +kernel), List.mem_of_getElem? (i := 276) (by decide +kernel)⟩
theorem lw_p12 : lw_okq (⟨"NumberLeases", "addNumbers", "(J)J"⟩, 4) := ⟨⟨by decide +kernel, by decide +kernel⟩, List.mem_of_getElem? (i := 18) (by decide +kernel), List.mem_of_getElem? (i := 280) (by decide +kernel), List.mem_of_getElem? (i := 281) (by decide +kernel)⟩
theorem lw_p13 : lw_okq (⟨"NumberLeases", "addHolders", "(J)J"⟩, 4) := ⟨⟨by decide +kernel, by decide +kernel⟩, List.mem_of_getElem? (i := 18) (by decide +kernel), List.mem_of_getElem? (i := 288) (by decide +kernel), List.mem_of_getElem? (i := 289) (by decide +kernel)⟩
theorem lw_p14 : lw_okq (⟨"NumberLeases$Pool", "numbersOfIn", "(II)I"⟩, 16) := ⟨⟨by decide +kernel, by decide +kernel⟩, List.mem_of_getElem? (i := 26) (by decide +kernel), List.mem_of_getElem? (i := 296) (by decide +kernel), List.mem_of_getElem? (i := 297) (by decide +kernel)⟩
theorem lw_p15 : lw_okq (⟨"NumberLeases$Pool", "wishesOf", "(I)I"⟩, 16) := ⟨⟨by decide +kernel, by decide +kernel⟩, List.mem_of_getElem? (i := 26) (by decide +kernel), List.mem_of_getElem? (i := 300) (by decide +kernel), List.mem_of_getElem? (i := 301) (by decide +kernel)⟩
def lw_privs_1 : List (MethodName × Nat) := [(⟨"NumberLeases$Orders", "readSign", "(I)V"⟩, 8), (⟨"NumberLeases$Orders", "readOrder", "()V"⟩, 8), (⟨"NumberLeases$Orders", "readNumber", "(II)I"⟩, 8), (⟨"NumberLeases$Orders", "digitAt", "(I)I"⟩, 8), (⟨"NumberLeases", "fullnessBits", "()I"⟩, 4), (⟨"NumberLeases$Pool", "numbersIn", "(I)I"⟩, 16), (⟨"NumberLeases$Pool", "stateOf", "(I)I"⟩, 16), (⟨"NumberLeases", "scatterBits", "()I"⟩, 4), (⟨"NumberLeases$Pool", "rowFrom", "(I)I"⟩, 16), (⟨"NumberLeases", "meanUnits", "()D"⟩, 4), (⟨"NumberLeases", "countOf", "(I)I"⟩, 4), (⟨"NumberLeases$Pool", "startsSpan", "(I)Z"⟩, 16), (⟨"NumberLeases", "addNumbers", "(J)J"⟩, 4), (⟨"NumberLeases", "addHolders", "(J)J"⟩, 4), (⟨"NumberLeases$Pool", "numbersOfIn", "(II)I"⟩, 16), (⟨"NumberLeases$Pool", "wishesOf", "(I)I"⟩, 16)]
theorem lw_r1 : ∀ q ∈ lw_privs_1, lw_okq q := List.forall_mem_cons.mpr ⟨lw_p0, List.forall_mem_cons.mpr ⟨lw_p1, List.forall_mem_cons.mpr ⟨lw_p2, List.forall_mem_cons.mpr ⟨lw_p3, List.forall_mem_cons.mpr ⟨lw_p4, List.forall_mem_cons.mpr ⟨lw_p5, List.forall_mem_cons.mpr ⟨lw_p6, List.forall_mem_cons.mpr ⟨lw_p7, List.forall_mem_cons.mpr ⟨lw_p8, List.forall_mem_cons.mpr ⟨lw_p9, List.forall_mem_cons.mpr ⟨lw_p10, List.forall_mem_cons.mpr ⟨lw_p11, List.forall_mem_cons.mpr ⟨lw_p12, List.forall_mem_cons.mpr ⟨lw_p13, List.forall_mem_cons.mpr ⟨lw_p14, List.forall_mem_cons.mpr ⟨lw_p15, fun _ h => absurd h List.not_mem_nil⟩⟩⟩⟩⟩⟩⟩⟩⟩⟩⟩⟩⟩⟩⟩⟩
theorem lw_p16 : lw_okq (⟨"NumberLeases$Pool", "leastOf", "(I)I"⟩, 16) := ⟨⟨by decide +kernel, by decide +kernel⟩, List.mem_of_getElem? (i := 26) (by decide +kernel), List.mem_of_getElem? (i := 308) (by decide +kernel), List.mem_of_getElem? (i := 309) (by decide +kernel)⟩
theorem lw_p17 : lw_okq (⟨"NumberLeases$Pool", "leastEndOf", "(I)I"⟩, 16) := ⟨⟨by decide +kernel, by decide +kernel⟩, List.mem_of_getElem? (i := 26) (by decide +kernel), List.mem_of_getElem? (i := 312) (by decide +kernel), List.mem_of_getElem? (i := 313) (by decide +kernel)⟩
theorem lw_p18 : lw_okq (⟨"NumberLeases", "timeToWished", "(II)I"⟩, 4) := ⟨⟨by decide +kernel, by decide +kernel⟩, List.mem_of_getElem? (i := 18) (by decide +kernel), List.mem_of_getElem? (i := 316) (by decide +kernel), List.mem_of_getElem? (i := 317) (by decide +kernel)⟩
theorem lw_p19 : lw_okq (⟨"NumberLeases$Pool", "hasRoom", "(II)Z"⟩, 16) := ⟨⟨by decide +kernel, by decide +kernel⟩, List.mem_of_getElem? (i := 26) (by decide +kernel), List.mem_of_getElem? (i := 324) (by decide +kernel), List.mem_of_getElem? (i := 325) (by decide +kernel)⟩
theorem lw_p20 : lw_okq (⟨"NumberLeases$Pool", "numbersOf", "(I)I"⟩, 16) := ⟨⟨by decide +kernel, by decide +kernel⟩, List.mem_of_getElem? (i := 26) (by decide +kernel), List.mem_of_getElem? (i := 328) (by decide +kernel), List.mem_of_getElem? (i := 329) (by decide +kernel)⟩
theorem lw_p21 : lw_okq (⟨"NumberLeases$Pool", "lease", "(III)V"⟩, 16) := ⟨⟨by decide +kernel, by decide +kernel⟩, List.mem_of_getElem? (i := 26) (by decide +kernel), List.mem_of_getElem? (i := 349) (by decide +kernel), List.mem_of_getElem? (i := 350) (by decide +kernel)⟩
theorem lw_p22 : lw_okq (⟨"NumberLeases$Pool", "freeDue", "()V"⟩, 16) := ⟨⟨by decide +kernel, by decide +kernel⟩, List.mem_of_getElem? (i := 26) (by decide +kernel), List.mem_of_getElem? (i := 357) (by decide +kernel), List.mem_of_getElem? (i := 358) (by decide +kernel)⟩
theorem lw_p23 : lw_okq (⟨"NumberLeases$Pool", "free", "(I)V"⟩, 16) := ⟨⟨by decide +kernel, by decide +kernel⟩, List.mem_of_getElem? (i := 26) (by decide +kernel), List.mem_of_getElem? (i := 361) (by decide +kernel), List.mem_of_getElem? (i := 362) (by decide +kernel)⟩
theorem lw_p24 : lw_okq (⟨"NumberLeases", "addSpans", "(J)J"⟩, 4) := ⟨⟨by decide +kernel, by decide +kernel⟩, List.mem_of_getElem? (i := 18) (by decide +kernel), List.mem_of_getElem? (i := 369) (by decide +kernel), List.mem_of_getElem? (i := 370) (by decide +kernel)⟩
theorem lw_p25 : lw_okq (⟨"NumberLeases$Pool", "startOfSpan", "(I)I"⟩, 16) := ⟨⟨by decide +kernel, by decide +kernel⟩, List.mem_of_getElem? (i := 26) (by decide +kernel), List.mem_of_getElem? (i := 378) (by decide +kernel), List.mem_of_getElem? (i := 379) (by decide +kernel)⟩
theorem lw_p26 : lw_okq (⟨"NumberLeases", "holderAfter", "(II)I"⟩, 4) := ⟨⟨by decide +kernel, by decide +kernel⟩, List.mem_of_getElem? (i := 18) (by decide +kernel), List.mem_of_getElem? (i := 382) (by decide +kernel), List.mem_of_getElem? (i := 383) (by decide +kernel)⟩
theorem lw_p27 : lw_okq (⟨"NumberLeases", "timeToFree", "(I)I"⟩, 4) := ⟨⟨by decide +kernel, by decide +kernel⟩, List.mem_of_getElem? (i := 18) (by decide +kernel), List.mem_of_getElem? (i := 386) (by decide +kernel), List.mem_of_getElem? (i := 387) (by decide +kernel)⟩
theorem lw_p28 : lw_okq (⟨"NumberLeases", "addBuffer", "(J)J"⟩, 4) := ⟨⟨by decide +kernel, by decide +kernel⟩, List.mem_of_getElem? (i := 18) (by decide +kernel), List.mem_of_getElem? (i := 396) (by decide +kernel), List.mem_of_getElem? (i := 397) (by decide +kernel)⟩
theorem lw_p29 : lw_okq (⟨"NumberLeases", "leaseLowest", "(III)I"⟩, 4) := ⟨⟨by decide +kernel, by decide +kernel⟩, List.mem_of_getElem? (i := 18) (by decide +kernel), List.mem_of_getElem? (i := 411) (by decide +kernel), List.mem_of_getElem? (i := 412) (by decide +kernel)⟩
theorem lw_p30 : lw_okq (⟨"java/lang/Throwable", "fillInStackTrace", "(I)Ljava/lang/Throwable;"⟩, 6) := ⟨⟨by decide +kernel, by decide +kernel⟩, List.mem_of_getElem? (i := 456) (by decide +kernel), List.mem_of_getElem? (i := 454) (by decide +kernel), List.mem_of_getElem? (i := 455) (by decide +kernel)⟩
theorem lw_p31 : lw_okq (⟨"NumberLeases$Pool", "lowestRow", "(I)I"⟩, 16) := ⟨⟨by decide +kernel, by decide +kernel⟩, List.mem_of_getElem? (i := 26) (by decide +kernel), List.mem_of_getElem? (i := 503) (by decide +kernel), List.mem_of_getElem? (i := 504) (by decide +kernel)⟩
def lw_privs_2 : List (MethodName × Nat) := [(⟨"NumberLeases$Pool", "leastOf", "(I)I"⟩, 16), (⟨"NumberLeases$Pool", "leastEndOf", "(I)I"⟩, 16), (⟨"NumberLeases", "timeToWished", "(II)I"⟩, 4), (⟨"NumberLeases$Pool", "hasRoom", "(II)Z"⟩, 16), (⟨"NumberLeases$Pool", "numbersOf", "(I)I"⟩, 16), (⟨"NumberLeases$Pool", "lease", "(III)V"⟩, 16), (⟨"NumberLeases$Pool", "freeDue", "()V"⟩, 16), (⟨"NumberLeases$Pool", "free", "(I)V"⟩, 16), (⟨"NumberLeases", "addSpans", "(J)J"⟩, 4), (⟨"NumberLeases$Pool", "startOfSpan", "(I)I"⟩, 16), (⟨"NumberLeases", "holderAfter", "(II)I"⟩, 4), (⟨"NumberLeases", "timeToFree", "(I)I"⟩, 4), (⟨"NumberLeases", "addBuffer", "(J)J"⟩, 4), (⟨"NumberLeases", "leaseLowest", "(III)I"⟩, 4), (⟨"java/lang/Throwable", "fillInStackTrace", "(I)Ljava/lang/Throwable;"⟩, 6), (⟨"NumberLeases$Pool", "lowestRow", "(I)I"⟩, 16)]
theorem lw_r2 : ∀ q ∈ lw_privs_2, lw_okq q := List.forall_mem_cons.mpr ⟨lw_p16, List.forall_mem_cons.mpr ⟨lw_p17, List.forall_mem_cons.mpr ⟨lw_p18, List.forall_mem_cons.mpr ⟨lw_p19, List.forall_mem_cons.mpr ⟨lw_p20, List.forall_mem_cons.mpr ⟨lw_p21, List.forall_mem_cons.mpr ⟨lw_p22, List.forall_mem_cons.mpr ⟨lw_p23, List.forall_mem_cons.mpr ⟨lw_p24, List.forall_mem_cons.mpr ⟨lw_p25, List.forall_mem_cons.mpr ⟨lw_p26, List.forall_mem_cons.mpr ⟨lw_p27, List.forall_mem_cons.mpr ⟨lw_p28, List.forall_mem_cons.mpr ⟨lw_p29, List.forall_mem_cons.mpr ⟨lw_p30, List.forall_mem_cons.mpr ⟨lw_p31, fun _ h => absurd h List.not_mem_nil⟩⟩⟩⟩⟩⟩⟩⟩⟩⟩⟩⟩⟩⟩⟩⟩
theorem lw_p32 : lw_okq (⟨"NumberLeases$Saves", "dropOldest", "()V"⟩, 2) := ⟨⟨by decide +kernel, by decide +kernel⟩, List.mem_of_getElem? (i := 88) (by decide +kernel), List.mem_of_getElem? (i := 529) (by decide +kernel), List.mem_of_getElem? (i := 530) (by decide +kernel)⟩
theorem lw_p33 : lw_okq (⟨"NumberLeases", "needNumber", "(I)V"⟩, 4) := ⟨⟨by decide +kernel, by decide +kernel⟩, List.mem_of_getElem? (i := 18) (by decide +kernel), List.mem_of_getElem? (i := 552) (by decide +kernel), List.mem_of_getElem? (i := 553) (by decide +kernel)⟩
theorem lw_p34 : lw_okq (⟨"NumberLeases$Pool", "countUnits", "()V"⟩, 16) := ⟨⟨by decide +kernel, by decide +kernel⟩, List.mem_of_getElem? (i := 26) (by decide +kernel), List.mem_of_getElem? (i := 610) (by decide +kernel), List.mem_of_getElem? (i := 611) (by decide +kernel)⟩
theorem lw_p35 : lw_okq (⟨"NumberLeases", "carryOut", "()Z"⟩, 4) := ⟨⟨by decide +kernel, by decide +kernel⟩, List.mem_of_getElem? (i := 18) (by decide +kernel), List.mem_of_getElem? (i := 652) (by decide +kernel), List.mem_of_getElem? (i := 653) (by decide +kernel)⟩
theorem lw_p36 : lw_okq (⟨"NumberLeasesModel", "fails", "(I)I"⟩, 12) := ⟨⟨by decide +kernel, by decide +kernel⟩, List.mem_of_getElem? (i := 723) (by decide +kernel), List.mem_of_getElem? (i := 774) (by decide +kernel), List.mem_of_getElem? (i := 775) (by decide +kernel)⟩
theorem lw_p37 : lw_okq (⟨"NumberLeasesModel", "mayTake", "(I)Z"⟩, 12) := ⟨⟨by decide +kernel, by decide +kernel⟩, List.mem_of_getElem? (i := 723) (by decide +kernel), List.mem_of_getElem? (i := 791) (by decide +kernel), List.mem_of_getElem? (i := 792) (by decide +kernel)⟩
theorem lw_p38 : lw_okq (⟨"NumberLeasesModel", "saves", "()V"⟩, 12) := ⟨⟨by decide +kernel, by decide +kernel⟩, List.mem_of_getElem? (i := 723) (by decide +kernel), List.mem_of_getElem? (i := 810) (by decide +kernel), List.mem_of_getElem? (i := 811) (by decide +kernel)⟩
theorem lw_p39 : lw_okq (⟨"NumberLeasesModel", "takes", "(II)I"⟩, 12) := ⟨⟨by decide +kernel, by decide +kernel⟩, List.mem_of_getElem? (i := 723) (by decide +kernel), List.mem_of_getElem? (i := 814) (by decide +kernel), List.mem_of_getElem? (i := 815) (by decide +kernel)⟩
theorem lw_p40 : lw_okq (⟨"NumberLeasesModel", "isNumber", "(I)Z"⟩, 12) := ⟨⟨by decide +kernel, by decide +kernel⟩, List.mem_of_getElem? (i := 723) (by decide +kernel), List.mem_of_getElem? (i := 829) (by decide +kernel), List.mem_of_getElem? (i := 830) (by decide +kernel)⟩
theorem lw_p41 : lw_okq (⟨"NumberLeasesModel", "mayWish", "(II)Z"⟩, 12) := ⟨⟨by decide +kernel, by decide +kernel⟩, List.mem_of_getElem? (i := 723) (by decide +kernel), List.mem_of_getElem? (i := 833) (by decide +kernel), List.mem_of_getElem? (i := 834) (by decide +kernel)⟩
theorem lw_p42 : lw_okq (⟨"NumberLeasesModel", "wishes", "(III)I"⟩, 12) := ⟨⟨by decide +kernel, by decide +kernel⟩, List.mem_of_getElem? (i := 723) (by decide +kernel), List.mem_of_getElem? (i := 840) (by decide +kernel), List.mem_of_getElem? (i := 841) (by decide +kernel)⟩
theorem lw_p43 : lw_okq (⟨"NumberLeasesModel", "givesBack", "(III)I"⟩, 12) := ⟨⟨by decide +kernel, by decide +kernel⟩, List.mem_of_getElem? (i := 723) (by decide +kernel), List.mem_of_getElem? (i := 865) (by decide +kernel), List.mem_of_getElem? (i := 866) (by decide +kernel)⟩
theorem lw_p44 : lw_okq (⟨"NumberLeasesModel", "passesBy", "(I)I"⟩, 12) := ⟨⟨by decide +kernel, by decide +kernel⟩, List.mem_of_getElem? (i := 723) (by decide +kernel), List.mem_of_getElem? (i := 876) (by decide +kernel), List.mem_of_getElem? (i := 877) (by decide +kernel)⟩
theorem lw_p45 : lw_okq (⟨"NumberLeasesModel", "isFor", "(II)Z"⟩, 12) := ⟨⟨by decide +kernel, by decide +kernel⟩, List.mem_of_getElem? (i := 723) (by decide +kernel), List.mem_of_getElem? (i := 887) (by decide +kernel), List.mem_of_getElem? (i := 888) (by decide +kernel)⟩
theorem lw_p46 : lw_okq (⟨"NumberLeasesModel", "isText", "()Z"⟩, 12) := ⟨⟨by decide +kernel, by decide +kernel⟩, List.mem_of_getElem? (i := 723) (by decide +kernel), List.mem_of_getElem? (i := 903) (by decide +kernel), List.mem_of_getElem? (i := 904) (by decide +kernel)⟩
theorem lw_p47 : lw_okq (⟨"NumberLeasesModel", "isOrder", "()Z"⟩, 12) := ⟨⟨by decide +kernel, by decide +kernel⟩, List.mem_of_getElem? (i := 723) (by decide +kernel), List.mem_of_getElem? (i := 907) (by decide +kernel), List.mem_of_getElem? (i := 908) (by decide +kernel)⟩
def lw_privs_3 : List (MethodName × Nat) := [(⟨"NumberLeases$Saves", "dropOldest", "()V"⟩, 2), (⟨"NumberLeases", "needNumber", "(I)V"⟩, 4), (⟨"NumberLeases$Pool", "countUnits", "()V"⟩, 16), (⟨"NumberLeases", "carryOut", "()Z"⟩, 4), (⟨"NumberLeasesModel", "fails", "(I)I"⟩, 12), (⟨"NumberLeasesModel", "mayTake", "(I)Z"⟩, 12), (⟨"NumberLeasesModel", "saves", "()V"⟩, 12), (⟨"NumberLeasesModel", "takes", "(II)I"⟩, 12), (⟨"NumberLeasesModel", "isNumber", "(I)Z"⟩, 12), (⟨"NumberLeasesModel", "mayWish", "(II)Z"⟩, 12), (⟨"NumberLeasesModel", "wishes", "(III)I"⟩, 12), (⟨"NumberLeasesModel", "givesBack", "(III)I"⟩, 12), (⟨"NumberLeasesModel", "passesBy", "(I)I"⟩, 12), (⟨"NumberLeasesModel", "isFor", "(II)Z"⟩, 12), (⟨"NumberLeasesModel", "isText", "()Z"⟩, 12), (⟨"NumberLeasesModel", "isOrder", "()Z"⟩, 12)]
theorem lw_r3 : ∀ q ∈ lw_privs_3, lw_okq q := List.forall_mem_cons.mpr ⟨lw_p32, List.forall_mem_cons.mpr ⟨lw_p33, List.forall_mem_cons.mpr ⟨lw_p34, List.forall_mem_cons.mpr ⟨lw_p35, List.forall_mem_cons.mpr ⟨lw_p36, List.forall_mem_cons.mpr ⟨lw_p37, List.forall_mem_cons.mpr ⟨lw_p38, List.forall_mem_cons.mpr ⟨lw_p39, List.forall_mem_cons.mpr ⟨lw_p40, List.forall_mem_cons.mpr ⟨lw_p41, List.forall_mem_cons.mpr ⟨lw_p42, List.forall_mem_cons.mpr ⟨lw_p43, List.forall_mem_cons.mpr ⟨lw_p44, List.forall_mem_cons.mpr ⟨lw_p45, List.forall_mem_cons.mpr ⟨lw_p46, List.forall_mem_cons.mpr ⟨lw_p47, fun _ h => absurd h List.not_mem_nil⟩⟩⟩⟩⟩⟩⟩⟩⟩⟩⟩⟩⟩⟩⟩⟩
theorem lw_p48 : lw_okq (⟨"NumberLeasesModel", "isAt", "(II)Z"⟩, 12) := ⟨⟨by decide +kernel, by decide +kernel⟩, List.mem_of_getElem? (i := 723) (by decide +kernel), List.mem_of_getElem? (i := 911) (by decide +kernel), List.mem_of_getElem? (i := 912) (by decide +kernel)⟩
theorem lw_p49 : lw_okq (⟨"NumberLeasesModel", "stops", "()Z"⟩, 12) := ⟨⟨by decide +kernel, by decide +kernel⟩, List.mem_of_getElem? (i := 723) (by decide +kernel), List.mem_of_getElem? (i := 915) (by decide +kernel), List.mem_of_getElem? (i := 916) (by decide +kernel)⟩
theorem lw_p50 : lw_okq (⟨"NumberLeasesModel", "isTold", "(III)Z"⟩, 12) := ⟨⟨by decide +kernel, by decide +kernel⟩, List.mem_of_getElem? (i := 723) (by decide +kernel), List.mem_of_getElem? (i := 919) (by decide +kernel), List.mem_of_getElem? (i := 920) (by decide +kernel)⟩
theorem lw_p51 : lw_okq (⟨"NumberLeasesModel", "isWhole", "(II)Z"⟩, 12) := ⟨⟨by decide +kernel, by decide +kernel⟩, List.mem_of_getElem? (i := 723) (by decide +kernel), List.mem_of_getElem? (i := 923) (by decide +kernel), List.mem_of_getElem? (i := 924) (by decide +kernel)⟩
theorem lw_p52 : lw_okq (⟨"NumberLeasesModel", "isSign", "(I)Z"⟩, 12) := ⟨⟨by decide +kernel, by decide +kernel⟩, List.mem_of_getElem? (i := 723) (by decide +kernel), List.mem_of_getElem? (i := 930) (by decide +kernel), List.mem_of_getElem? (i := 931) (by decide +kernel)⟩
theorem lw_p53 : lw_okq (⟨"NumberLeasesModel", "isDone", "(I)Z"⟩, 12) := ⟨⟨by decide +kernel, by decide +kernel⟩, List.mem_of_getElem? (i := 723) (by decide +kernel), List.mem_of_getElem? (i := 938) (by decide +kernel), List.mem_of_getElem? (i := 939) (by decide +kernel)⟩
theorem lw_p54 : lw_okq (⟨"NumberLeasesModel", "ofNumber", "(II)I"⟩, 12) := ⟨⟨by decide +kernel, by decide +kernel⟩, List.mem_of_getElem? (i := 723) (by decide +kernel), List.mem_of_getElem? (i := 946) (by decide +kernel), List.mem_of_getElem? (i := 947) (by decide +kernel)⟩
theorem lw_p55 : lw_okq (⟨"NumberLeasesModel", "ofHolder", "(II)I"⟩, 12) := ⟨⟨by decide +kernel, by decide +kernel⟩, List.mem_of_getElem? (i := 723) (by decide +kernel), List.mem_of_getElem? (i := 954) (by decide +kernel), List.mem_of_getElem? (i := 955) (by decide +kernel)⟩
theorem lw_p56 : lw_okq (⟨"NumberLeasesModel", "spans", "(II)I"⟩, 12) := ⟨⟨by decide +kernel, by decide +kernel⟩, List.mem_of_getElem? (i := 723) (by decide +kernel), List.mem_of_getElem? (i := 962) (by decide +kernel), List.mem_of_getElem? (i := 963) (by decide +kernel)⟩
theorem lw_p57 : lw_okq (⟨"NumberLeasesModel", "counted", "(I)I"⟩, 12) := ⟨⟨by decide +kernel, by decide +kernel⟩, List.mem_of_getElem? (i := 723) (by decide +kernel), List.mem_of_getElem? (i := 970) (by decide +kernel), List.mem_of_getElem? (i := 971) (by decide +kernel)⟩
theorem lw_p58 : lw_okq (⟨"NumberLeasesModel", "sumOf", "(III)I"⟩, 12) := ⟨⟨by decide +kernel, by decide +kernel⟩, List.mem_of_getElem? (i := 723) (by decide +kernel), List.mem_of_getElem? (i := 977) (by decide +kernel), List.mem_of_getElem? (i := 978) (by decide +kernel)⟩
theorem lw_p59 : lw_okq (⟨"NumberLeasesModel", "whoThen", "(II)I"⟩, 12) := ⟨⟨by decide +kernel, by decide +kernel⟩, List.mem_of_getElem? (i := 723) (by decide +kernel), List.mem_of_getElem? (i := 989) (by decide +kernel), List.mem_of_getElem? (i := 990) (by decide +kernel)⟩
theorem lw_p60 : lw_okq (⟨"NumberLeasesModel", "tries", "()V"⟩, 12) := ⟨⟨by decide +kernel, by decide +kernel⟩, List.mem_of_getElem? (i := 723) (by decide +kernel), List.mem_of_getElem? (i := 993) (by decide +kernel), List.mem_of_getElem? (i := 994) (by decide +kernel)⟩
theorem lw_p61 : lw_okq (⟨"NumberLeasesModel", "freeThen", "(I)I"⟩, 12) := ⟨⟨by decide +kernel, by decide +kernel⟩, List.mem_of_getElem? (i := 723) (by decide +kernel), List.mem_of_getElem? (i := 1001) (by decide +kernel), List.mem_of_getElem? (i := 1002) (by decide +kernel)⟩
theorem lw_p62 : lw_okq (⟨"NumberLeasesModel", "wishedThen", "(II)I"⟩, 12) := ⟨⟨by decide +kernel, by decide +kernel⟩, List.mem_of_getElem? (i := 723) (by decide +kernel), List.mem_of_getElem? (i := 1009) (by decide +kernel), List.mem_of_getElem? (i := 1010) (by decide +kernel)⟩
def lw_privs_4 : List (MethodName × Nat) := [(⟨"NumberLeasesModel", "isAt", "(II)Z"⟩, 12), (⟨"NumberLeasesModel", "stops", "()Z"⟩, 12), (⟨"NumberLeasesModel", "isTold", "(III)Z"⟩, 12), (⟨"NumberLeasesModel", "isWhole", "(II)Z"⟩, 12), (⟨"NumberLeasesModel", "isSign", "(I)Z"⟩, 12), (⟨"NumberLeasesModel", "isDone", "(I)Z"⟩, 12), (⟨"NumberLeasesModel", "ofNumber", "(II)I"⟩, 12), (⟨"NumberLeasesModel", "ofHolder", "(II)I"⟩, 12), (⟨"NumberLeasesModel", "spans", "(II)I"⟩, 12), (⟨"NumberLeasesModel", "counted", "(I)I"⟩, 12), (⟨"NumberLeasesModel", "sumOf", "(III)I"⟩, 12), (⟨"NumberLeasesModel", "whoThen", "(II)I"⟩, 12), (⟨"NumberLeasesModel", "tries", "()V"⟩, 12), (⟨"NumberLeasesModel", "freeThen", "(I)I"⟩, 12), (⟨"NumberLeasesModel", "wishedThen", "(II)I"⟩, 12)]
theorem lw_r4 : ∀ q ∈ lw_privs_4, lw_okq q := List.forall_mem_cons.mpr ⟨lw_p48, List.forall_mem_cons.mpr ⟨lw_p49, List.forall_mem_cons.mpr ⟨lw_p50, List.forall_mem_cons.mpr ⟨lw_p51, List.forall_mem_cons.mpr ⟨lw_p52, List.forall_mem_cons.mpr ⟨lw_p53, List.forall_mem_cons.mpr ⟨lw_p54, List.forall_mem_cons.mpr ⟨lw_p55, List.forall_mem_cons.mpr ⟨lw_p56, List.forall_mem_cons.mpr ⟨lw_p57, List.forall_mem_cons.mpr ⟨lw_p58, List.forall_mem_cons.mpr ⟨lw_p59, List.forall_mem_cons.mpr ⟨lw_p60, List.forall_mem_cons.mpr ⟨lw_p61, List.forall_mem_cons.mpr ⟨lw_p62, fun _ h => absurd h List.not_mem_nil⟩⟩⟩⟩⟩⟩⟩⟩⟩⟩⟩⟩⟩⟩⟩
def lw_privs : List (MethodName × Nat) := lw_privs_1 ++ (lw_privs_2 ++ (lw_privs_3 ++ (lw_privs_4)))
def lw_tbl : List Cond := k2_sels lw_privs ++ tables_1
theorem lw_privs_ok : ∀ q ∈ lw_privs, lw_okq q := by
  show ∀ q ∈ lw_privs_1 ++ (lw_privs_2 ++ (lw_privs_3 ++ (lw_privs_4))), lw_okq q
  exact List.forall_mem_append.mpr ⟨lw_r1, List.forall_mem_append.mpr ⟨lw_r2, List.forall_mem_append.mpr ⟨lw_r3, lw_r4⟩⟩⟩
/-- the streams that the claim lets the run draw from -/
abbrev lw_cs : List Choice := [Jvm.Choice.named "NaN.bits"]
theorem lw_bits : nanBits ∈ lw_cs := by first | decide | exact List.mem_cons_self | simp [lw_cs, nanBits]

def RX0 : String := "NumberLeases$Bits"
def TX0 : u_T := fun k => match k with
  | _ => ("", "", "", false)
def tyX0 : Nat → FieldType := fun k => match k with
  | _ => .int
abbrev wsX00 : List Cond := u_ws RX0 TX0 0
theorem nmX0 : ∀ a, a < 0 → ∀ b, b < 0 → a ≠ b → (TX0 a).2.1 ≠ (TX0 b).2.1 := by decide +kernel
theorem tyX0_ok : ∀ k, k < 0 → parseFieldDescriptor (TX0 k).2.2.1 = some (tyX0 k) := by decide +kernel
abbrev cX0_ofFloat : ByteArray := prog_2_method_2_code
def yX0_ofFloat : MethodName := ⟨RX0, "ofFloat", "(F)I"⟩
abbrev cX0_ofDouble : ByteArray := prog_2_method_3_code
def yX0_ofDouble : MethodName := ⟨RX0, "ofDouble", "(D)J"⟩
def RX1 : String := "NumberLeases$Orders"
def TX1 : u_T := fun k => match k with
  | 0 => ("NumberLeases$Orders", "signs", "[I", true)
  | 1 => ("NumberLeases$Orders", "length", "I", false)
  | 2 => ("NumberLeases$Orders", "at", "I", false)
  | 3 => ("NumberLeases$Orders", "stopped", "Z", false)
  | 4 => ("NumberLeases$Orders", "kind", "I", false)
  | 5 => ("NumberLeases$Orders", "holder", "I", false)
  | 6 => ("NumberLeases$Orders", "first", "I", false)
  | _ => ("NumberLeases$Orders", "second", "I", false)
def tyX1 : Nat → FieldType := fun k => match k with
  | 0 => .array .int
  | 1 => .int
  | 2 => .int
  | 3 => .boolean
  | 4 => .int
  | 5 => .int
  | 6 => .int
  | _ => .int
abbrev wsX10 : List Cond := u_ws RX1 TX1 8
theorem nmX1 : ∀ a, a < 8 → ∀ b, b < 8 → a ≠ b → (TX1 a).2.1 ≠ (TX1 b).2.1 := by decide +kernel
theorem tyX1_ok : ∀ k, k < 8 → parseFieldDescriptor (TX1 k).2.2.1 = some (tyX1 k) := by decide +kernel
abbrev cX1_init : ByteArray := prog_3_method_1_code
def yX1_init : MethodName := ⟨RX1, "<init>", "()V"⟩
abbrev cX1_addSign : ByteArray := prog_3_method_2_code
def yX1_addSign : MethodName := ⟨RX1, "addSign", "(I)V"⟩
abbrev cX1_signAt : ByteArray := prog_3_method_3_code
def yX1_signAt : MethodName := ⟨RX1, "signAt", "(I)I"⟩
abbrev cX1_rewind : ByteArray := prog_3_method_4_code
def yX1_rewind : MethodName := ⟨RX1, "rewind", "()V"⟩
abbrev cX1_readAll : ByteArray := prog_3_method_5_code
def yX1_readAll : MethodName := ⟨RX1, "readAll", "()Z"⟩
abbrev cX1_readNext : ByteArray := prog_3_method_6_code
def yX1_readNext : MethodName := ⟨RX1, "readNext", "()V"⟩
abbrev cX1_readOrder : ByteArray := prog_3_method_7_code
def yX1_readOrder : MethodName := ⟨RX1, "readOrder", "()V"⟩
abbrev cX1_readSign : ByteArray := prog_3_method_8_code
def yX1_readSign : MethodName := ⟨RX1, "readSign", "(I)V"⟩
abbrev cX1_readNumber : ByteArray := prog_3_method_9_code
def yX1_readNumber : MethodName := ⟨RX1, "readNumber", "(II)I"⟩
abbrev cX1_digitAt : ByteArray := prog_3_method_10_code
def yX1_digitAt : MethodName := ⟨RX1, "digitAt", "(I)I"⟩
abbrev cX1_begins : ByteArray := prog_3_method_11_code
def yX1_begins : MethodName := ⟨RX1, "begins", "(III)Z"⟩
abbrev cX1_isWithin : ByteArray := prog_3_method_12_code
def yX1_isWithin : MethodName := ⟨RX1, "isWithin", "(III)Z"⟩
def RX2 : String := "NumberLeases$Pool"
def TX2 : u_T := fun k => match k with
  | 0 => ("NumberLeases$Pool", "time", "I", false)
  | 1 => ("NumberLeases$Pool", "renewals", "I", false)
  | 2 => ("NumberLeases$Pool", "graceRenewals", "I", false)
  | 3 => ("NumberLeases$Pool", "freed", "I", false)
  | 4 => ("NumberLeases$Pool", "settings", "[I", true)
  | 5 => ("NumberLeases$Pool", "whose", "[I", true)
  | 6 => ("NumberLeases$Pool", "begin", "[I", true)
  | 7 => ("NumberLeases$Pool", "end", "[I", true)
  | 8 => ("NumberLeases$Pool", "last", "[I", true)
  | 9 => ("NumberLeases$Pool", "given", "[I", true)
  | 10 => ("NumberLeases$Pool", "waiting", "[I", true)
  | 11 => ("NumberLeases$Pool", "wishers", "[I", true)
  | 12 => ("NumberLeases$Pool", "wishTerms", "[I", true)
  | 13 => ("NumberLeases$Pool", "leases", "[I", true)
  | 14 => ("NumberLeases$Pool", "lost", "[I", true)
  | _ => ("NumberLeases$Pool", "units", "[I", true)
def tyX2 : Nat → FieldType := fun k => match k with
  | 0 => .int
  | 1 => .int
  | 2 => .int
  | 3 => .int
  | 4 => .array .int
  | 5 => .array .int
  | 6 => .array .int
  | 7 => .array .int
  | 8 => .array .int
  | 9 => .array .int
  | 10 => .array .int
  | 11 => .array .int
  | 12 => .array .int
  | 13 => .array .int
  | 14 => .array .int
  | _ => .array .int
abbrev wsX20 : List Cond := u_ws RX2 TX2 16
theorem nmX2 : ∀ a, a < 16 → ∀ b, b < 16 → a ≠ b → (TX2 a).2.1 ≠ (TX2 b).2.1 := by decide +kernel
theorem tyX2_ok : ∀ k, k < 16 → parseFieldDescriptor (TX2 k).2.2.1 = some (tyX2 k) := by decide +kernel
abbrev cX2_init : ByteArray := prog_4_method_1_code
def yX2_init : MethodName := ⟨RX2, "<init>", "()V"⟩
abbrev cX2_copyFrom : ByteArray := prog_4_method_2_code
def yX2_copyFrom : MethodName := ⟨RX2, "copyFrom", "(LNumberLeases$Pool;)V"⟩
abbrev cX2_copyRow : ByteArray := prog_4_method_3_code
def yX2_copyRow : MethodName := ⟨RX2, "copyRow", "([I[I)V"⟩
abbrev cX2_hasNumber : ByteArray := prog_4_method_4_code
def yX2_hasNumber : MethodName := ⟨RX2, "hasNumber", "(I)Z"⟩
abbrev cX2_mayLease : ByteArray := prog_4_method_5_code
def yX2_mayLease : MethodName := ⟨RX2, "mayLease", "(II)Z"⟩
abbrev cX2_mayWish : ByteArray := prog_4_method_6_code
def yX2_mayWish : MethodName := ⟨RX2, "mayWish", "(II)Z"⟩
abbrev cX2_mayRenew : ByteArray := prog_4_method_7_code
def yX2_mayRenew : MethodName := ⟨RX2, "mayRenew", "(II)Z"⟩
abbrev cX2_hasTimeFor : ByteArray := prog_4_method_8_code
def yX2_hasTimeFor : MethodName := ⟨RX2, "hasTimeFor", "(I)Z"⟩
abbrev cX2_fitsIn : ByteArray := prog_4_method_9_code
def yX2_fitsIn : MethodName := ⟨RX2, "fitsIn", "(I)Z"⟩
abbrev cX2_hasRoom : ByteArray := prog_4_method_10_code
def yX2_hasRoom : MethodName := ⟨RX2, "hasRoom", "(II)Z"⟩
abbrev cX2_leaseRow : ByteArray := prog_4_method_11_code
def yX2_leaseRow : MethodName := ⟨RX2, "leaseRow", "(III)I"⟩
abbrev cX2_lease : ByteArray := prog_4_method_12_code
def yX2_lease : MethodName := ⟨RX2, "lease", "(III)V"⟩
abbrev cX2_prolong : ByteArray := prog_4_method_13_code
def yX2_prolong : MethodName := ⟨RX2, "prolong", "(II)I"⟩
abbrev cX2_freeSpan : ByteArray := prog_4_method_14_code
def yX2_freeSpan : MethodName := ⟨RX2, "freeSpan", "(III)I"⟩
abbrev cX2_free : ByteArray := prog_4_method_15_code
def yX2_free : MethodName := ⟨RX2, "free", "(I)V"⟩
abbrev cX2_addWish : ByteArray := prog_4_method_16_code
def yX2_addWish : MethodName := ⟨RX2, "addWish", "(III)I"⟩
abbrev cX2_placeOfWish : ByteArray := prog_4_method_17_code
def yX2_placeOfWish : MethodName := ⟨RX2, "placeOfWish", "(II)I"⟩
abbrev cX2_dropWish : ByteArray := prog_4_method_18_code
def yX2_dropWish : MethodName := ⟨RX2, "dropWish", "(II)V"⟩
abbrev cX2_passUnits : ByteArray := prog_4_method_19_code
def yX2_passUnits : MethodName := ⟨RX2, "passUnits", "(I)I"⟩
abbrev cX2_leap : ByteArray := prog_4_method_20_code
def yX2_leap : MethodName := ⟨RX2, "leap", "(I)Z"⟩
abbrev cX2_countUnits : ByteArray := prog_4_method_21_code
def yX2_countUnits : MethodName := ⟨RX2, "countUnits", "()V"⟩
abbrev cX2_freeDue : ByteArray := prog_4_method_22_code
def yX2_freeDue : MethodName := ⟨RX2, "freeDue", "()V"⟩
abbrev cX2_stateOf : ByteArray := prog_4_method_23_code
def yX2_stateOf : MethodName := ⟨RX2, "stateOf", "(I)I"⟩
abbrev cX2_ofNumber : ByteArray := prog_4_method_24_code
def yX2_ofNumber : MethodName := ⟨RX2, "ofNumber", "(II)I"⟩
abbrev cX2_ofHolder : ByteArray := prog_4_method_25_code
def yX2_ofHolder : MethodName := ⟨RX2, "ofHolder", "(II)I"⟩
abbrev cX2_ofSpan : ByteArray := prog_4_method_26_code
def yX2_ofSpan : MethodName := ⟨RX2, "ofSpan", "(II)I"⟩
abbrev cX2_ofAll : ByteArray := prog_4_method_27_code
def yX2_ofAll : MethodName := ⟨RX2, "ofAll", "(I)I"⟩
abbrev cX2_freeNumbers : ByteArray := prog_4_method_28_code
def yX2_freeNumbers : MethodName := ⟨RX2, "freeNumbers", "()I"⟩
abbrev cX2_numbersIn : ByteArray := prog_4_method_29_code
def yX2_numbersIn : MethodName := ⟨RX2, "numbersIn", "(I)I"⟩
abbrev cX2_numbersOf : ByteArray := prog_4_method_30_code
def yX2_numbersOf : MethodName := ⟨RX2, "numbersOf", "(I)I"⟩
abbrev cX2_numbersOfIn : ByteArray := prog_4_method_31_code
def yX2_numbersOfIn : MethodName := ⟨RX2, "numbersOfIn", "(II)I"⟩
abbrev cX2_wishesOf : ByteArray := prog_4_method_32_code
def yX2_wishesOf : MethodName := ⟨RX2, "wishesOf", "(I)I"⟩
abbrev cX2_leastOf : ByteArray := prog_4_method_33_code
def yX2_leastOf : MethodName := ⟨RX2, "leastOf", "(I)I"⟩
abbrev cX2_leastEndOf : ByteArray := prog_4_method_34_code
def yX2_leastEndOf : MethodName := ⟨RX2, "leastEndOf", "(I)I"⟩
abbrev cX2_rowFrom : ByteArray := prog_4_method_35_code
def yX2_rowFrom : MethodName := ⟨RX2, "rowFrom", "(I)I"⟩
abbrev cX2_lowestRow : ByteArray := prog_4_method_36_code
def yX2_lowestRow : MethodName := ⟨RX2, "lowestRow", "(I)I"⟩
abbrev cX2_longestRow : ByteArray := prog_4_method_37_code
def yX2_longestRow : MethodName := ⟨RX2, "longestRow", "()I"⟩
abbrev cX2_spans : ByteArray := prog_4_method_38_code
def yX2_spans : MethodName := ⟨RX2, "spans", "()I"⟩
abbrev cX2_startOfSpan : ByteArray := prog_4_method_39_code
def yX2_startOfSpan : MethodName := ⟨RX2, "startOfSpan", "(I)I"⟩
abbrev cX2_startsSpan : ByteArray := prog_4_method_40_code
def yX2_startsSpan : MethodName := ⟨RX2, "startsSpan", "(I)Z"⟩
def RX3 : String := "NumberLeases$Saves"
def TX3 : u_T := fun k => match k with
  | 0 => ("NumberLeases$Saves", "kept", "[LNumberLeases$Pool;", true)
  | _ => ("NumberLeases$Saves", "many", "I", false)
def tyX3 : Nat → FieldType := fun k => match k with
  | 0 => .array (.object "NumberLeases$Pool")
  | _ => .int
abbrev wsX30 : List Cond := u_ws RX3 TX3 2
theorem nmX3 : ∀ a, a < 2 → ∀ b, b < 2 → a ≠ b → (TX3 a).2.1 ≠ (TX3 b).2.1 := by decide +kernel
theorem tyX3_ok : ∀ k, k < 2 → parseFieldDescriptor (TX3 k).2.2.1 = some (tyX3 k) := by decide +kernel
abbrev cX3_init : ByteArray := prog_5_method_1_code
def yX3_init : MethodName := ⟨RX3, "<init>", "()V"⟩
abbrev cX3_keep : ByteArray := prog_5_method_2_code
def yX3_keep : MethodName := ⟨RX3, "keep", "(LNumberLeases$Pool;)V"⟩
abbrev cX3_restore : ByteArray := prog_5_method_3_code
def yX3_restore : MethodName := ⟨RX3, "restore", "(LNumberLeases$Pool;)V"⟩
abbrev cX3_dropOldest : ByteArray := prog_5_method_4_code
def yX3_dropOldest : MethodName := ⟨RX3, "dropOldest", "()V"⟩
def RX4 : String := "NumberLeases"
def TX4 : u_T := fun k => match k with
  | 0 => ("NumberLeases", "pool", "LNumberLeases$Pool;", true)
  | 1 => ("NumberLeases", "ahead", "LNumberLeases$Pool;", true)
  | 2 => ("NumberLeases", "saves", "LNumberLeases$Saves;", true)
  | _ => ("NumberLeases", "orders", "LNumberLeases$Orders;", true)
def tyX4 : Nat → FieldType := fun k => match k with
  | 0 => .object "NumberLeases$Pool"
  | 1 => .object "NumberLeases$Pool"
  | 2 => .object "NumberLeases$Saves"
  | _ => .object "NumberLeases$Orders"
abbrev wsX40 : List Cond := u_ws RX4 TX4 4
theorem nmX4 : ∀ a, a < 4 → ∀ b, b < 4 → a ≠ b → (TX4 a).2.1 ≠ (TX4 b).2.1 := by decide +kernel
theorem tyX4_ok : ∀ k, k < 4 → parseFieldDescriptor (TX4 k).2.2.1 = some (tyX4 k) := by decide +kernel
abbrev cX4_init : ByteArray := prog_1_method_1_code
def yX4_init : MethodName := ⟨RX4, "<init>", "()V"⟩
abbrev cX4_take : ByteArray := prog_1_method_2_code
def yX4_take : MethodName := ⟨RX4, "take", "(II)I"⟩
abbrev cX4_takeSpan : ByteArray := prog_1_method_3_code
def yX4_takeSpan : MethodName := ⟨RX4, "takeSpan", "(III)I"⟩
abbrev cX4_wish : ByteArray := prog_1_method_4_code
def yX4_wish : MethodName := ⟨RX4, "wish", "(III)I"⟩
abbrev cX4_unwish : ByteArray := prog_1_method_5_code
def yX4_unwish : MethodName := ⟨RX4, "unwish", "(II)I"⟩
abbrev cX4_renew : ByteArray := prog_1_method_6_code
def yX4_renew : MethodName := ⟨RX4, "renew", "(III)I"⟩
abbrev cX4_giveBack : ByteArray := prog_1_method_7_code
def yX4_giveBack : MethodName := ⟨RX4, "giveBack", "(III)I"⟩
abbrev cX4_pass : ByteArray := prog_1_method_8_code
def yX4_pass : MethodName := ⟨RX4, "pass", "(I)I"⟩
abbrev cX4_set : ByteArray := prog_1_method_9_code
def yX4_set : MethodName := ⟨RX4, "set", "(II)I"⟩
abbrev cX4_append : ByteArray := prog_1_method_10_code
def yX4_append : MethodName := ⟨RX4, "append", "(I)I"⟩
abbrev cX4_clearBuffer : ByteArray := prog_1_method_11_code
def yX4_clearBuffer : MethodName := ⟨RX4, "clearBuffer", "()I"⟩
abbrev cX4_firstError : ByteArray := prog_1_method_12_code
def yX4_firstError : MethodName := ⟨RX4, "firstError", "()I"⟩
abbrev cX4_run : ByteArray := prog_1_method_13_code
def yX4_run : MethodName := ⟨RX4, "run", "()I"⟩
abbrev cX4_undo : ByteArray := prog_1_method_14_code
def yX4_undo : MethodName := ⟨RX4, "undo", "()I"⟩
abbrev cX4_number : ByteArray := prog_1_method_15_code
def yX4_number : MethodName := ⟨RX4, "number", "(II)I"⟩
abbrev cX4_holder : ByteArray := prog_1_method_16_code
def yX4_holder : MethodName := ⟨RX4, "holder", "(II)I"⟩
abbrev cX4_span : ByteArray := prog_1_method_17_code
def yX4_span : MethodName := ⟨RX4, "span", "(II)I"⟩
abbrev cX4_count : ByteArray := prog_1_method_18_code
def yX4_count : MethodName := ⟨RX4, "count", "(I)I"⟩
abbrev cX4_setting : ByteArray := prog_1_method_19_code
def yX4_setting : MethodName := ⟨RX4, "setting", "(I)I"⟩
abbrev cX4_whoAfter : ByteArray := prog_1_method_20_code
def yX4_whoAfter : MethodName := ⟨RX4, "whoAfter", "(II)I"⟩
abbrev cX4_freeIn : ByteArray := prog_1_method_21_code
def yX4_freeIn : MethodName := ⟨RX4, "freeIn", "(I)I"⟩
abbrev cX4_wishedIn : ByteArray := prog_1_method_22_code
def yX4_wishedIn : MethodName := ⟨RX4, "wishedIn", "(II)I"⟩
abbrev cX4_fullness : ByteArray := prog_1_method_23_code
def yX4_fullness : MethodName := ⟨RX4, "fullness", "()I"⟩
abbrev cX4_scatter : ByteArray := prog_1_method_24_code
def yX4_scatter : MethodName := ⟨RX4, "scatter", "()I"⟩
abbrev cX4_meanHeld : ByteArray := prog_1_method_25_code
def yX4_meanHeld : MethodName := ⟨RX4, "meanHeld", "()D"⟩
abbrev cX4_digest : ByteArray := prog_1_method_26_code
def yX4_digest : MethodName := ⟨RX4, "digest", "()J"⟩
abbrev cX4_needHolder : ByteArray := prog_1_method_27_code
def yX4_needHolder : MethodName := ⟨RX4, "needHolder", "(I)V"⟩
abbrev cX4_needNumber : ByteArray := prog_1_method_28_code
def yX4_needNumber : MethodName := ⟨RX4, "needNumber", "(I)V"⟩
abbrev cX4_needSetting : ByteArray := prog_1_method_29_code
def yX4_needSetting : MethodName := ⟨RX4, "needSetting", "(I)V"⟩
abbrev cX4_needRange : ByteArray := prog_1_method_30_code
def yX4_needRange : MethodName := ⟨RX4, "needRange", "(III)V"⟩
abbrev cX4_needState : ByteArray := prog_1_method_31_code
def yX4_needState : MethodName := ⟨RX4, "needState", "(Z)V"⟩
abbrev cX4_leaseLowest : ByteArray := prog_1_method_32_code
def yX4_leaseLowest : MethodName := ⟨RX4, "leaseLowest", "(III)I"⟩
abbrev cX4_carryOut : ByteArray := prog_1_method_33_code
def yX4_carryOut : MethodName := ⟨RX4, "carryOut", "()Z"⟩
abbrev cX4_countOf : ByteArray := prog_1_method_34_code
def yX4_countOf : MethodName := ⟨RX4, "countOf", "(I)I"⟩
abbrev cX4_holderAfter : ByteArray := prog_1_method_35_code
def yX4_holderAfter : MethodName := ⟨RX4, "holderAfter", "(II)I"⟩
abbrev cX4_timeToFree : ByteArray := prog_1_method_36_code
def yX4_timeToFree : MethodName := ⟨RX4, "timeToFree", "(I)I"⟩
abbrev cX4_timeToWished : ByteArray := prog_1_method_37_code
def yX4_timeToWished : MethodName := ⟨RX4, "timeToWished", "(II)I"⟩
abbrev cX4_fullnessBits : ByteArray := prog_1_method_38_code
def yX4_fullnessBits : MethodName := ⟨RX4, "fullnessBits", "()I"⟩
abbrev cX4_scatterBits : ByteArray := prog_1_method_39_code
def yX4_scatterBits : MethodName := ⟨RX4, "scatterBits", "()I"⟩
abbrev cX4_meanUnits : ByteArray := prog_1_method_40_code
def yX4_meanUnits : MethodName := ⟨RX4, "meanUnits", "()D"⟩
abbrev cX4_addNumbers : ByteArray := prog_1_method_41_code
def yX4_addNumbers : MethodName := ⟨RX4, "addNumbers", "(J)J"⟩
abbrev cX4_addHolders : ByteArray := prog_1_method_42_code
def yX4_addHolders : MethodName := ⟨RX4, "addHolders", "(J)J"⟩
abbrev cX4_addSpans : ByteArray := prog_1_method_43_code
def yX4_addSpans : MethodName := ⟨RX4, "addSpans", "(J)J"⟩
abbrev cX4_addBuffer : ByteArray := prog_1_method_44_code
def yX4_addBuffer : MethodName := ⟨RX4, "addBuffer", "(J)J"⟩
abbrev cX4_sum : ByteArray := prog_1_method_45_code
def yX4_sum : MethodName := ⟨RX4, "sum", "([I)I"⟩
def RX5 : String := "NumberLeasesModel"
def TX5 : u_T := fun k => match k with
  | 0 => ("NumberLeasesModel", "now", "[I", true)
  | 1 => ("NumberLeasesModel", "then", "[I", true)
  | 2 => ("NumberLeasesModel", "past", "[I", true)
  | 3 => ("NumberLeasesModel", "kept", "I", false)
  | 4 => ("NumberLeasesModel", "text", "[I", true)
  | 5 => ("NumberLeasesModel", "typed", "I", false)
  | 6 => ("NumberLeasesModel", "thrown", "I", false)
  | 7 => ("NumberLeasesModel", "at", "I", false)
  | 8 => ("NumberLeasesModel", "isFault", "Z", false)
  | 9 => ("NumberLeasesModel", "value", "I", false)
  | 10 => ("NumberLeasesModel", "orders", "[I", true)
  | _ => ("NumberLeasesModel", "ordered", "I", false)
def tyX5 : Nat → FieldType := fun k => match k with
  | 0 => .array .int
  | 1 => .array .int
  | 2 => .array .int
  | 3 => .int
  | 4 => .array .int
  | 5 => .int
  | 6 => .int
  | 7 => .int
  | 8 => .boolean
  | 9 => .int
  | 10 => .array .int
  | _ => .int
abbrev wsX50 : List Cond := u_ws RX5 TX5 12
theorem nmX5 : ∀ a, a < 12 → ∀ b, b < 12 → a ≠ b → (TX5 a).2.1 ≠ (TX5 b).2.1 := by decide +kernel
theorem tyX5_ok : ∀ k, k < 12 → parseFieldDescriptor (TX5 k).2.2.1 = some (tyX5 k) := by decide +kernel
abbrev cX5_init : ByteArray := prog_7_method_1_code
def yX5_init : MethodName := ⟨RX5, "<init>", "()V"⟩
abbrev cX5_thrown : ByteArray := prog_7_method_2_code
def yX5_thrown : MethodName := ⟨RX5, "thrown", "()I"⟩
abbrev cX5_fails : ByteArray := prog_7_method_3_code
def yX5_fails : MethodName := ⟨RX5, "fails", "(I)I"⟩
abbrev cX5_in : ByteArray := prog_7_method_4_code
def yX5_in : MethodName := ⟨RX5, "in", "(III)Z"⟩
abbrev cX5_isHolder : ByteArray := prog_7_method_5_code
def yX5_isHolder : MethodName := ⟨RX5, "isHolder", "(I)Z"⟩
abbrev cX5_isNumber : ByteArray := prog_7_method_6_code
def yX5_isNumber : MethodName := ⟨RX5, "isNumber", "(I)Z"⟩
abbrev cX5_isTerm : ByteArray := prog_7_method_7_code
def yX5_isTerm : MethodName := ⟨RX5, "isTerm", "(I)Z"⟩
abbrev cX5_saves : ByteArray := prog_7_method_8_code
def yX5_saves : MethodName := ⟨RX5, "saves", "()V"⟩
abbrev cX5_undo : ByteArray := prog_7_method_9_code
def yX5_undo : MethodName := ⟨RX5, "undo", "()I"⟩
abbrev cX5_tries : ByteArray := prog_7_method_10_code
def yX5_tries : MethodName := ⟨RX5, "tries", "()V"⟩
abbrev cX5_row : ByteArray := prog_7_method_11_code
def yX5_row : MethodName := ⟨RX5, "row", "(I)I"⟩
abbrev cX5_isFree : ByteArray := prog_7_method_12_code
def yX5_isFree : MethodName := ⟨RX5, "isFree", "([II)Z"⟩
abbrev cX5_stageOf : ByteArray := prog_7_method_13_code
def yX5_stageOf : MethodName := ⟨RX5, "stageOf", "([II)I"⟩
abbrev cX5_has : ByteArray := prog_7_method_14_code
def yX5_has : MethodName := ⟨RX5, "has", "([II)I"⟩
abbrev cX5_hasRoom : ByteArray := prog_7_method_15_code
def yX5_hasRoom : MethodName := ⟨RX5, "hasRoom", "([III)Z"⟩
abbrev cX5_atStage : ByteArray := prog_7_method_16_code
def yX5_atStage : MethodName := ⟨RX5, "atStage", "([II)I"⟩
abbrev cX5_gives : ByteArray := prog_7_method_17_code
def yX5_gives : MethodName := ⟨RX5, "gives", "([IIII)V"⟩
abbrev cX5_drops : ByteArray := prog_7_method_18_code
def yX5_drops : MethodName := ⟨RX5, "drops", "([III)V"⟩
abbrev cX5_frees : ByteArray := prog_7_method_19_code
def yX5_frees : MethodName := ⟨RX5, "frees", "([II)V"⟩
abbrev cX5_passes : ByteArray := prog_7_method_20_code
def yX5_passes : MethodName := ⟨RX5, "passes", "([I)I"⟩
abbrev cX5_firstFree : ByteArray := prog_7_method_21_code
def yX5_firstFree : MethodName := ⟨RX5, "firstFree", "([II)I"⟩
abbrev cX5_wishOf : ByteArray := prog_7_method_22_code
def yX5_wishOf : MethodName := ⟨RX5, "wishOf", "([III)I"⟩
abbrev cX5_waits : ByteArray := prog_7_method_23_code
def yX5_waits : MethodName := ⟨RX5, "waits", "([IIII)V"⟩
abbrev cX5_mayTake : ByteArray := prog_7_method_24_code
def yX5_mayTake : MethodName := ⟨RX5, "mayTake", "(I)Z"⟩
abbrev cX5_takes : ByteArray := prog_7_method_25_code
def yX5_takes : MethodName := ⟨RX5, "takes", "(II)I"⟩
abbrev cX5_take : ByteArray := prog_7_method_26_code
def yX5_take : MethodName := ⟨RX5, "take", "(II)I"⟩
abbrev cX5_takeSpan : ByteArray := prog_7_method_27_code
def yX5_takeSpan : MethodName := ⟨RX5, "takeSpan", "(III)I"⟩
abbrev cX5_mayWish : ByteArray := prog_7_method_28_code
def yX5_mayWish : MethodName := ⟨RX5, "mayWish", "(II)Z"⟩
abbrev cX5_wishes : ByteArray := prog_7_method_29_code
def yX5_wishes : MethodName := ⟨RX5, "wishes", "(III)I"⟩
abbrev cX5_wish : ByteArray := prog_7_method_30_code
def yX5_wish : MethodName := ⟨RX5, "wish", "(III)I"⟩
abbrev cX5_unwish : ByteArray := prog_7_method_31_code
def yX5_unwish : MethodName := ⟨RX5, "unwish", "(II)I"⟩
abbrev cX5_renew : ByteArray := prog_7_method_32_code
def yX5_renew : MethodName := ⟨RX5, "renew", "(III)I"⟩
abbrev cX5_givesBack : ByteArray := prog_7_method_33_code
def yX5_givesBack : MethodName := ⟨RX5, "givesBack", "(III)I"⟩
abbrev cX5_giveBack : ByteArray := prog_7_method_34_code
def yX5_giveBack : MethodName := ⟨RX5, "giveBack", "(III)I"⟩
abbrev cX5_passesBy : ByteArray := prog_7_method_35_code
def yX5_passesBy : MethodName := ⟨RX5, "passesBy", "(I)I"⟩
abbrev cX5_pass : ByteArray := prog_7_method_36_code
def yX5_pass : MethodName := ⟨RX5, "pass", "(I)I"⟩
abbrev cX5_isFor : ByteArray := prog_7_method_37_code
def yX5_isFor : MethodName := ⟨RX5, "isFor", "(II)Z"⟩
abbrev cX5_set : ByteArray := prog_7_method_38_code
def yX5_set : MethodName := ⟨RX5, "set", "(II)I"⟩
abbrev cX5_append : ByteArray := prog_7_method_39_code
def yX5_append : MethodName := ⟨RX5, "append", "(I)I"⟩
abbrev cX5_clearBuffer : ByteArray := prog_7_method_40_code
def yX5_clearBuffer : MethodName := ⟨RX5, "clearBuffer", "()I"⟩
abbrev cX5_isAt : ByteArray := prog_7_method_41_code
def yX5_isAt : MethodName := ⟨RX5, "isAt", "(II)Z"⟩
abbrev cX5_stops : ByteArray := prog_7_method_42_code
def yX5_stops : MethodName := ⟨RX5, "stops", "()Z"⟩
abbrev cX5_isSign : ByteArray := prog_7_method_43_code
def yX5_isSign : MethodName := ⟨RX5, "isSign", "(I)Z"⟩
abbrev cX5_begins : ByteArray := prog_7_method_44_code
def yX5_begins : MethodName := ⟨RX5, "begins", "(III)Z"⟩
abbrev cX5_isWhole : ByteArray := prog_7_method_45_code
def yX5_isWhole : MethodName := ⟨RX5, "isWhole", "(II)Z"⟩
abbrev cX5_isTold : ByteArray := prog_7_method_46_code
def yX5_isTold : MethodName := ⟨RX5, "isTold", "(III)Z"⟩
abbrev cX5_isOrder : ByteArray := prog_7_method_47_code
def yX5_isOrder : MethodName := ⟨RX5, "isOrder", "()Z"⟩
abbrev cX5_isText : ByteArray := prog_7_method_48_code
def yX5_isText : MethodName := ⟨RX5, "isText", "()Z"⟩
abbrev cX5_firstError : ByteArray := prog_7_method_49_code
def yX5_firstError : MethodName := ⟨RX5, "firstError", "()I"⟩
abbrev cX5_isDone : ByteArray := prog_7_method_50_code
def yX5_isDone : MethodName := ⟨RX5, "isDone", "(I)Z"⟩
abbrev cX5_run : ByteArray := prog_7_method_51_code
def yX5_run : MethodName := ⟨RX5, "run", "()I"⟩
abbrev cX5_ofNumber : ByteArray := prog_7_method_52_code
def yX5_ofNumber : MethodName := ⟨RX5, "ofNumber", "(II)I"⟩
abbrev cX5_number : ByteArray := prog_7_method_53_code
def yX5_number : MethodName := ⟨RX5, "number", "(II)I"⟩
abbrev cX5_ofHolder : ByteArray := prog_7_method_54_code
def yX5_ofHolder : MethodName := ⟨RX5, "ofHolder", "(II)I"⟩
abbrev cX5_holder : ByteArray := prog_7_method_55_code
def yX5_holder : MethodName := ⟨RX5, "holder", "(II)I"⟩
abbrev cX5_spans : ByteArray := prog_7_method_56_code
def yX5_spans : MethodName := ⟨RX5, "spans", "(II)I"⟩
abbrev cX5_span : ByteArray := prog_7_method_57_code
def yX5_span : MethodName := ⟨RX5, "span", "(II)I"⟩
abbrev cX5_sumOf : ByteArray := prog_7_method_58_code
def yX5_sumOf : MethodName := ⟨RX5, "sumOf", "(III)I"⟩
abbrev cX5_counted : ByteArray := prog_7_method_59_code
def yX5_counted : MethodName := ⟨RX5, "counted", "(I)I"⟩
abbrev cX5_count : ByteArray := prog_7_method_60_code
def yX5_count : MethodName := ⟨RX5, "count", "(I)I"⟩
abbrev cX5_setting : ByteArray := prog_7_method_61_code
def yX5_setting : MethodName := ⟨RX5, "setting", "(I)I"⟩
abbrev cX5_whoThen : ByteArray := prog_7_method_62_code
def yX5_whoThen : MethodName := ⟨RX5, "whoThen", "(II)I"⟩
abbrev cX5_whoAfter : ByteArray := prog_7_method_63_code
def yX5_whoAfter : MethodName := ⟨RX5, "whoAfter", "(II)I"⟩
abbrev cX5_freeThen : ByteArray := prog_7_method_64_code
def yX5_freeThen : MethodName := ⟨RX5, "freeThen", "(I)I"⟩
abbrev cX5_freeIn : ByteArray := prog_7_method_65_code
def yX5_freeIn : MethodName := ⟨RX5, "freeIn", "(I)I"⟩
abbrev cX5_wishedThen : ByteArray := prog_7_method_66_code
def yX5_wishedThen : MethodName := ⟨RX5, "wishedThen", "(II)I"⟩
abbrev cX5_wishedIn : ByteArray := prog_7_method_67_code
def yX5_wishedIn : MethodName := ⟨RX5, "wishedIn", "(II)I"⟩
abbrev cX5_fullness : ByteArray := prog_7_method_68_code
def yX5_fullness : MethodName := ⟨RX5, "fullness", "()I"⟩
abbrev cX5_scatter : ByteArray := prog_7_method_69_code
def yX5_scatter : MethodName := ⟨RX5, "scatter", "()I"⟩
abbrev cX5_meanHeld : ByteArray := prog_7_method_70_code
def yX5_meanHeld : MethodName := ⟨RX5, "meanHeld", "()D"⟩
abbrev cX5_digest : ByteArray := prog_7_method_71_code
def yX5_digest : MethodName := ⟨RX5, "digest", "()J"⟩
def RJxe99ae : String := "java/lang/Double"
def TJxe99ae : u_T := fun k => match k with
  | _ => ("", "", "", false)
def tyJxe99ae : Nat → FieldType := fun k => match k with
  | _ => .int
abbrev wsJxe99ae0 : List Cond := u_ws RJxe99ae TJxe99ae 0
theorem nmJxe99ae : ∀ a, a < 0 → ∀ b, b < 0 → a ≠ b → (TJxe99ae a).2.1 ≠ (TJxe99ae b).2.1 := by decide +kernel
theorem tyJxe99ae_ok : ∀ k, k < 0 → parseFieldDescriptor (TJxe99ae k).2.2.1 = some (tyJxe99ae k) := by decide +kernel
abbrev cJxe99ae_isNaN_b9ae7 : ByteArray := prog_8_method_6_code
def yJxe99ae_isNaN_b9ae7 : MethodName := ⟨RJxe99ae, "isNaN", "(D)Z"⟩
abbrev cJxe99ae_doubleToLongBits_ccdee : ByteArray := prog_8_method_23_code
def yJxe99ae_doubleToLongBits_ccdee : MethodName := ⟨RJxe99ae, "doubleToLongBits", "(D)J"⟩
def RJxf58ca : String := "java/lang/Float"
def TJxf58ca : u_T := fun k => match k with
  | _ => ("", "", "", false)
def tyJxf58ca : Nat → FieldType := fun k => match k with
  | _ => .int
abbrev wsJxf58ca0 : List Cond := u_ws RJxf58ca TJxf58ca 0
theorem nmJxf58ca : ∀ a, a < 0 → ∀ b, b < 0 → a ≠ b → (TJxf58ca a).2.1 ≠ (TJxf58ca b).2.1 := by decide +kernel
theorem tyJxf58ca_ok : ∀ k, k < 0 → parseFieldDescriptor (TJxf58ca k).2.2.1 = some (tyJxf58ca k) := by decide +kernel
abbrev cJxf58ca_isNaN_12338 : ByteArray := prog_10_method_6_code
def yJxf58ca_isNaN_12338 : MethodName := ⟨RJxf58ca, "isNaN", "(F)Z"⟩
abbrev cJxf58ca_floatToIntBits_5c35a : ByteArray := prog_10_method_24_code
def yJxf58ca_floatToIntBits_5c35a : MethodName := ⟨RJxf58ca, "floatToIntBits", "(F)I"⟩
def RJ9 : String := "java/lang/Math"
def TJ9 : u_T := fun k => match k with
  | _ => ("", "", "", false)
def tyJ9 : Nat → FieldType := fun k => match k with
  | _ => .int
abbrev wsJ90 : List Cond := u_ws RJ9 TJ9 0
theorem nmJ9 : ∀ a, a < 0 → ∀ b, b < 0 → a ≠ b → (TJ9 a).2.1 ≠ (TJ9 b).2.1 := by decide +kernel
theorem tyJ9_ok : ∀ k, k < 0 → parseFieldDescriptor (TJ9 k).2.2.1 = some (tyJ9 k) := by decide +kernel
abbrev cJ9_max_7cf53 : ByteArray := prog_14_method_65_code
def yJ9_max_7cf53 : MethodName := ⟨RJ9, "max", "(II)I"⟩
abbrev cJ9_min_7cf53 : ByteArray := prog_14_method_69_code
def yJ9_min_7cf53 : MethodName := ⟨RJ9, "min", "(II)I"⟩
def RJ10 : String := "java/lang/System"
def TJ10 : u_T := fun k => match k with
  | _ => ("", "", "", false)
def tyJ10 : Nat → FieldType := fun k => match k with
  | _ => .int
abbrev wsJ100 : List Cond := u_ws RJ10 TJ10 0
theorem nmJ10 : ∀ a, a < 0 → ∀ b, b < 0 → a ≠ b → (TJ10 a).2.1 ≠ (TJ10 b).2.1 := by decide +kernel
theorem tyJ10_ok : ∀ k, k < 0 → parseFieldDescriptor (TJ10 k).2.2.1 = some (tyJ10 k) := by decide +kernel
def RL : String := "NumberLeasesLaw"
abbrev cL_take : ByteArray := method_3_code
def yL_take : MethodName := ⟨RL, "take", "(LNumberLeases;II[J)I"⟩
abbrev cL_takeSpan : ByteArray := method_4_code
def yL_takeSpan : MethodName := ⟨RL, "takeSpan", "(LNumberLeases;III[J)I"⟩
abbrev cL_wish : ByteArray := method_5_code
def yL_wish : MethodName := ⟨RL, "wish", "(LNumberLeases;III[J)I"⟩
abbrev cL_unwish : ByteArray := method_6_code
def yL_unwish : MethodName := ⟨RL, "unwish", "(LNumberLeases;II[J)I"⟩
abbrev cL_renew : ByteArray := method_7_code
def yL_renew : MethodName := ⟨RL, "renew", "(LNumberLeases;III[J)I"⟩
abbrev cL_giveBack : ByteArray := method_8_code
def yL_giveBack : MethodName := ⟨RL, "giveBack", "(LNumberLeases;III[J)I"⟩
abbrev cL_pass : ByteArray := method_9_code
def yL_pass : MethodName := ⟨RL, "pass", "(LNumberLeases;I[J)I"⟩
abbrev cL_set : ByteArray := method_10_code
def yL_set : MethodName := ⟨RL, "set", "(LNumberLeases;II[J)I"⟩
abbrev cL_append : ByteArray := method_11_code
def yL_append : MethodName := ⟨RL, "append", "(LNumberLeases;I[J)I"⟩
abbrev cL_run : ByteArray := method_12_code
def yL_run : MethodName := ⟨RL, "run", "(LNumberLeases;[J)I"⟩
abbrev cL_undo : ByteArray := method_13_code
def yL_undo : MethodName := ⟨RL, "undo", "(LNumberLeases;[J)I"⟩
abbrev cL_number : ByteArray := method_14_code
def yL_number : MethodName := ⟨RL, "number", "(LNumberLeases;II[J)I"⟩
abbrev cL_holder : ByteArray := method_15_code
def yL_holder : MethodName := ⟨RL, "holder", "(LNumberLeases;II[J)I"⟩
abbrev cL_span : ByteArray := method_16_code
def yL_span : MethodName := ⟨RL, "span", "(LNumberLeases;II[J)I"⟩
abbrev cL_count : ByteArray := method_17_code
def yL_count : MethodName := ⟨RL, "count", "(LNumberLeases;I[J)I"⟩
abbrev cL_setting : ByteArray := method_18_code
def yL_setting : MethodName := ⟨RL, "setting", "(LNumberLeases;I[J)I"⟩
abbrev cL_whoAfter : ByteArray := method_19_code
def yL_whoAfter : MethodName := ⟨RL, "whoAfter", "(LNumberLeases;II[J)I"⟩
abbrev cL_freeIn : ByteArray := method_20_code
def yL_freeIn : MethodName := ⟨RL, "freeIn", "(LNumberLeases;I[J)I"⟩
abbrev cL_wishedIn : ByteArray := method_21_code
def yL_wishedIn : MethodName := ⟨RL, "wishedIn", "(LNumberLeases;II[J)I"⟩
abbrev cL_law : ByteArray := code
def yL_law : MethodName := ⟨RL, "law", "([I)Z"⟩
abbrev vwCl : List vw_C := [(RX1, TX1, 8), (RX2, TX2, 16), (RX3, TX3, 2), (RX4, TX4, 4), (RX5, TX5, 12)]
end
section
theorem dX0_ofFloat_0 : decode cX0_ofFloat 0 = .ok (.fload_n 0, 1) := by decide +kernel
theorem dX0_ofFloat_1 : decode cX0_ofFloat 1 = .ok (.fconst 0, 1) := by decide +kernel
theorem dX0_ofFloat_2 : decode cX0_ofFloat 2 = .ok (.fcmp .l, 1) := by decide +kernel
theorem dX0_ofFloat_3 : decode cX0_ofFloat 3 = .ok (.ifCond .gt 5, 3) := by decide +kernel
theorem dX0_ofFloat_6 : decode cX0_ofFloat 6 = .ok (.iconst 0, 1) := by decide +kernel
theorem dX0_ofFloat_7 : decode cX0_ofFloat 7 = .ok (.ireturn, 1) := by decide +kernel
theorem dX0_ofFloat_8 : decode cX0_ofFloat 8 = .ok (.fload_n 0, 1) := by decide +kernel
theorem dX0_ofFloat_9 : decode cX0_ofFloat 9 = .ok (.fstore_n 1, 1) := by decide +kernel
theorem dX0_ofFloat_10 : decode cX0_ofFloat 10 = .ok (.bipush 127, 2) := by decide +kernel
theorem dX0_ofFloat_12 : decode cX0_ofFloat 12 = .ok (.istore_n 2, 1) := by decide +kernel
theorem dX0_ofFloat_13 : decode cX0_ofFloat 13 = .ok (.iconst 0, 1) := by decide +kernel
theorem dX0_ofFloat_14 : decode cX0_ofFloat 14 = .ok (.istore_n 3, 1) := by decide +kernel
theorem dX0_ofFloat_15 : decode cX0_ofFloat 15 = .ok (.iload_n 3, 1) := by decide +kernel
theorem dX0_ofFloat_16 : decode cX0_ofFloat 16 = .ok (.bipush 127, 2) := by decide +kernel
theorem dX0_ofFloat_18 : decode cX0_ofFloat 18 = .ok (.if_icmp .ge 22, 3) := by decide +kernel
theorem dX0_ofFloat_21 : decode cX0_ofFloat 21 = .ok (.fload_n 1, 1) := by decide +kernel
theorem dX0_ofFloat_22 : decode cX0_ofFloat 22 = .ok (.fconst 1, 1) := by decide +kernel
theorem dX0_ofFloat_23 : decode cX0_ofFloat 23 = .ok (.fcmp .g, 1) := by decide +kernel
theorem dX0_ofFloat_24 : decode cX0_ofFloat 24 = .ok (.ifCond .ge 16, 3) := by decide +kernel
theorem dX0_ofFloat_27 : decode cX0_ofFloat 27 = .ok (.fload_n 1, 1) := by decide +kernel
theorem dX0_ofFloat_28 : decode cX0_ofFloat 28 = .ok (.fconst 2, 1) := by decide +kernel
theorem dX0_ofFloat_29 : decode cX0_ofFloat 29 = .ok (.fmul, 1) := by decide +kernel
theorem dX0_ofFloat_30 : decode cX0_ofFloat 30 = .ok (.fstore_n 1, 1) := by decide +kernel
theorem dX0_ofFloat_31 : decode cX0_ofFloat 31 = .ok (.iinc 2 (-1), 3) := by decide +kernel
theorem dX0_ofFloat_34 : decode cX0_ofFloat 34 = .ok (.iinc 3 1, 3) := by decide +kernel
theorem dX0_ofFloat_37 : decode cX0_ofFloat 37 = .ok (.goto (-22), 3) := by decide +kernel
theorem dX0_ofFloat_40 : decode cX0_ofFloat 40 = .ok (.iconst 0, 1) := by decide +kernel
theorem dX0_ofFloat_41 : decode cX0_ofFloat 41 = .ok (.istore_n 3, 1) := by decide +kernel
theorem dX0_ofFloat_42 : decode cX0_ofFloat 42 = .ok (.iload_n 3, 1) := by decide +kernel
theorem dX0_ofFloat_43 : decode cX0_ofFloat 43 = .ok (.bipush 127, 2) := by decide +kernel
theorem dX0_ofFloat_45 : decode cX0_ofFloat 45 = .ok (.if_icmp .ge 22, 3) := by decide +kernel
theorem dX0_ofFloat_48 : decode cX0_ofFloat 48 = .ok (.fload_n 1, 1) := by decide +kernel
theorem dX0_ofFloat_49 : decode cX0_ofFloat 49 = .ok (.fconst 2, 1) := by decide +kernel
theorem dX0_ofFloat_50 : decode cX0_ofFloat 50 = .ok (.fcmp .l, 1) := by decide +kernel
theorem dX0_ofFloat_51 : decode cX0_ofFloat 51 = .ok (.ifCond .lt 16, 3) := by decide +kernel
theorem dX0_ofFloat_54 : decode cX0_ofFloat 54 = .ok (.fload_n 1, 1) := by decide +kernel
theorem dX0_ofFloat_55 : decode cX0_ofFloat 55 = .ok (.fconst 2, 1) := by decide +kernel
theorem dX0_ofFloat_56 : decode cX0_ofFloat 56 = .ok (.fdiv, 1) := by decide +kernel
theorem dX0_ofFloat_57 : decode cX0_ofFloat 57 = .ok (.fstore_n 1, 1) := by decide +kernel
theorem dX0_ofFloat_58 : decode cX0_ofFloat 58 = .ok (.iinc 2 1, 3) := by decide +kernel
theorem dX0_ofFloat_61 : decode cX0_ofFloat 61 = .ok (.iinc 3 1, 3) := by decide +kernel
theorem dX0_ofFloat_64 : decode cX0_ofFloat 64 = .ok (.goto (-22), 3) := by decide +kernel
theorem dX0_ofFloat_67 : decode cX0_ofFloat 67 = .ok (.iload_n 2, 1) := by decide +kernel
theorem dX0_ofFloat_68 : decode cX0_ofFloat 68 = .ok (.bipush 23, 2) := by decide +kernel
theorem dX0_ofFloat_70 : decode cX0_ofFloat 70 = .ok (.ishl, 1) := by decide +kernel
theorem dX0_ofFloat_71 : decode cX0_ofFloat 71 = .ok (.fload_n 1, 1) := by decide +kernel
theorem dX0_ofFloat_72 : decode cX0_ofFloat 72 = .ok (.fconst 1, 1) := by decide +kernel
theorem dX0_ofFloat_73 : decode cX0_ofFloat 73 = .ok (.fsub, 1) := by decide +kernel
theorem dX0_ofFloat_74 : decode cX0_ofFloat 74 = .ok (.ldc 7, 2) := by decide +kernel
theorem dX0_ofFloat_76 : decode cX0_ofFloat 76 = .ok (.fmul, 1) := by decide +kernel
theorem dX0_ofFloat_77 : decode cX0_ofFloat 77 = .ok (.f2i, 1) := by decide +kernel
theorem dX0_ofFloat_78 : decode cX0_ofFloat 78 = .ok (.iadd, 1) := by decide +kernel
theorem dX0_ofFloat_79 : decode cX0_ofFloat 79 = .ok (.ireturn, 1) := by decide +kernel
theorem dX0_ofDouble_0 : decode cX0_ofDouble 0 = .ok (.dload_n 0, 1) := by decide +kernel
theorem dX0_ofDouble_1 : decode cX0_ofDouble 1 = .ok (.dconst 0, 1) := by decide +kernel
theorem dX0_ofDouble_2 : decode cX0_ofDouble 2 = .ok (.dcmp .l, 1) := by decide +kernel
theorem dX0_ofDouble_3 : decode cX0_ofDouble 3 = .ok (.ifCond .gt 5, 3) := by decide +kernel
theorem dX0_ofDouble_6 : decode cX0_ofDouble 6 = .ok (.lconst 0, 1) := by decide +kernel
theorem dX0_ofDouble_7 : decode cX0_ofDouble 7 = .ok (.lreturn, 1) := by decide +kernel
theorem dX0_ofDouble_8 : decode cX0_ofDouble 8 = .ok (.dload_n 0, 1) := by decide +kernel
theorem dX0_ofDouble_9 : decode cX0_ofDouble 9 = .ok (.dstore_n 2, 1) := by decide +kernel
theorem dX0_ofDouble_10 : decode cX0_ofDouble 10 = .ok (.ldc2_w 8, 3) := by decide +kernel
theorem dX0_ofDouble_13 : decode cX0_ofDouble 13 = .ok (.lstore 4, 2) := by decide +kernel
theorem dX0_ofDouble_15 : decode cX0_ofDouble 15 = .ok (.iconst 0, 1) := by decide +kernel
theorem dX0_ofDouble_16 : decode cX0_ofDouble 16 = .ok (.istore 6, 2) := by decide +kernel
theorem dX0_ofDouble_18 : decode cX0_ofDouble 18 = .ok (.iload 6, 2) := by decide +kernel
theorem dX0_ofDouble_20 : decode cX0_ofDouble 20 = .ok (.sipush 1023, 3) := by decide +kernel
theorem dX0_ofDouble_23 : decode cX0_ofDouble 23 = .ok (.if_icmp .ge 27, 3) := by decide +kernel
theorem dX0_ofDouble_26 : decode cX0_ofDouble 26 = .ok (.dload_n 2, 1) := by decide +kernel
theorem dX0_ofDouble_27 : decode cX0_ofDouble 27 = .ok (.dconst 1, 1) := by decide +kernel
theorem dX0_ofDouble_28 : decode cX0_ofDouble 28 = .ok (.dcmp .g, 1) := by decide +kernel
theorem dX0_ofDouble_29 : decode cX0_ofDouble 29 = .ok (.ifCond .ge 21, 3) := by decide +kernel
theorem dX0_ofDouble_32 : decode cX0_ofDouble 32 = .ok (.dload_n 2, 1) := by decide +kernel
theorem dX0_ofDouble_33 : decode cX0_ofDouble 33 = .ok (.ldc2_w 10, 3) := by decide +kernel
theorem dX0_ofDouble_36 : decode cX0_ofDouble 36 = .ok (.dmul, 1) := by decide +kernel
theorem dX0_ofDouble_37 : decode cX0_ofDouble 37 = .ok (.dstore_n 2, 1) := by decide +kernel
theorem dX0_ofDouble_38 : decode cX0_ofDouble 38 = .ok (.lload 4, 2) := by decide +kernel
theorem dX0_ofDouble_40 : decode cX0_ofDouble 40 = .ok (.lconst 1, 1) := by decide +kernel
theorem dX0_ofDouble_41 : decode cX0_ofDouble 41 = .ok (.lsub, 1) := by decide +kernel
theorem dX0_ofDouble_42 : decode cX0_ofDouble 42 = .ok (.lstore 4, 2) := by decide +kernel
theorem dX0_ofDouble_44 : decode cX0_ofDouble 44 = .ok (.iinc 6 1, 3) := by decide +kernel
theorem dX0_ofDouble_47 : decode cX0_ofDouble 47 = .ok (.goto (-29), 3) := by decide +kernel
theorem dX0_ofDouble_50 : decode cX0_ofDouble 50 = .ok (.iconst 0, 1) := by decide +kernel
theorem dX0_ofDouble_51 : decode cX0_ofDouble 51 = .ok (.istore 6, 2) := by decide +kernel
theorem dX0_ofDouble_53 : decode cX0_ofDouble 53 = .ok (.iload 6, 2) := by decide +kernel
theorem dX0_ofDouble_55 : decode cX0_ofDouble 55 = .ok (.sipush 1023, 3) := by decide +kernel
theorem dX0_ofDouble_58 : decode cX0_ofDouble 58 = .ok (.if_icmp .ge 29, 3) := by decide +kernel
theorem dX0_ofDouble_61 : decode cX0_ofDouble 61 = .ok (.dload_n 2, 1) := by decide +kernel
theorem dX0_ofDouble_62 : decode cX0_ofDouble 62 = .ok (.ldc2_w 10, 3) := by decide +kernel
theorem dX0_ofDouble_65 : decode cX0_ofDouble 65 = .ok (.dcmp .l, 1) := by decide +kernel
theorem dX0_ofDouble_66 : decode cX0_ofDouble 66 = .ok (.ifCond .lt 21, 3) := by decide +kernel
theorem dX0_ofDouble_69 : decode cX0_ofDouble 69 = .ok (.dload_n 2, 1) := by decide +kernel
theorem dX0_ofDouble_70 : decode cX0_ofDouble 70 = .ok (.ldc2_w 10, 3) := by decide +kernel
theorem dX0_ofDouble_73 : decode cX0_ofDouble 73 = .ok (.ddiv, 1) := by decide +kernel
theorem dX0_ofDouble_74 : decode cX0_ofDouble 74 = .ok (.dstore_n 2, 1) := by decide +kernel
theorem dX0_ofDouble_75 : decode cX0_ofDouble 75 = .ok (.lload 4, 2) := by decide +kernel
theorem dX0_ofDouble_77 : decode cX0_ofDouble 77 = .ok (.lconst 1, 1) := by decide +kernel
theorem dX0_ofDouble_78 : decode cX0_ofDouble 78 = .ok (.ladd, 1) := by decide +kernel
theorem dX0_ofDouble_79 : decode cX0_ofDouble 79 = .ok (.lstore 4, 2) := by decide +kernel
theorem dX0_ofDouble_81 : decode cX0_ofDouble 81 = .ok (.iinc 6 1, 3) := by decide +kernel
theorem dX0_ofDouble_84 : decode cX0_ofDouble 84 = .ok (.goto (-31), 3) := by decide +kernel
theorem dX0_ofDouble_87 : decode cX0_ofDouble 87 = .ok (.lload 4, 2) := by decide +kernel
theorem dX0_ofDouble_89 : decode cX0_ofDouble 89 = .ok (.bipush 52, 2) := by decide +kernel
theorem dX0_ofDouble_91 : decode cX0_ofDouble 91 = .ok (.lshl, 1) := by decide +kernel
theorem dX0_ofDouble_92 : decode cX0_ofDouble 92 = .ok (.dload_n 2, 1) := by decide +kernel
theorem dX0_ofDouble_93 : decode cX0_ofDouble 93 = .ok (.dconst 1, 1) := by decide +kernel
theorem dX0_ofDouble_94 : decode cX0_ofDouble 94 = .ok (.dsub, 1) := by decide +kernel
theorem dX0_ofDouble_95 : decode cX0_ofDouble 95 = .ok (.ldc2_w 12, 3) := by decide +kernel
theorem dX0_ofDouble_98 : decode cX0_ofDouble 98 = .ok (.dmul, 1) := by decide +kernel
theorem dX0_ofDouble_99 : decode cX0_ofDouble 99 = .ok (.d2l, 1) := by decide +kernel
theorem dX0_ofDouble_100 : decode cX0_ofDouble 100 = .ok (.ladd, 1) := by decide +kernel
theorem dX0_ofDouble_101 : decode cX0_ofDouble 101 = .ok (.lreturn, 1) := by decide +kernel
theorem dX1_init_0 : decode cX1_init 0 = .ok (.aload_n 0, 1) := by decide +kernel
theorem dX1_init_1 : decode cX1_init 1 = .ok (.invokespecial 3, 3) := by decide +kernel
theorem dX1_init_4 : decode cX1_init 4 = .ok (.aload_n 0, 1) := by decide +kernel
theorem dX1_init_5 : decode cX1_init 5 = .ok (.bipush 60, 2) := by decide +kernel
theorem dX1_init_7 : decode cX1_init 7 = .ok (.newarray .int, 2) := by decide +kernel
theorem dX1_init_9 : decode cX1_init 9 = .ok (.putfield 9, 3) := by decide +kernel
theorem dX1_init_12 : decode cX1_init 12 = .ok (.return_, 1) := by decide +kernel
theorem dX1_addSign_0 : decode cX1_addSign 0 = .ok (.aload_n 0, 1) := by decide +kernel
theorem dX1_addSign_1 : decode cX1_addSign 1 = .ok (.getfield 15, 3) := by decide +kernel
theorem dX1_addSign_4 : decode cX1_addSign 4 = .ok (.bipush 60, 2) := by decide +kernel
theorem dX1_addSign_6 : decode cX1_addSign 6 = .ok (.if_icmp .ge 23, 3) := by decide +kernel
theorem dX1_addSign_9 : decode cX1_addSign 9 = .ok (.aload_n 0, 1) := by decide +kernel
theorem dX1_addSign_10 : decode cX1_addSign 10 = .ok (.getfield 9, 3) := by decide +kernel
theorem dX1_addSign_13 : decode cX1_addSign 13 = .ok (.aload_n 0, 1) := by decide +kernel
theorem dX1_addSign_14 : decode cX1_addSign 14 = .ok (.getfield 15, 3) := by decide +kernel
theorem dX1_addSign_17 : decode cX1_addSign 17 = .ok (.iload_n 1, 1) := by decide +kernel
theorem dX1_addSign_18 : decode cX1_addSign 18 = .ok (.iastore, 1) := by decide +kernel
theorem dX1_addSign_19 : decode cX1_addSign 19 = .ok (.aload_n 0, 1) := by decide +kernel
theorem dX1_addSign_20 : decode cX1_addSign 20 = .ok (.dup, 1) := by decide +kernel
theorem dX1_addSign_21 : decode cX1_addSign 21 = .ok (.getfield 15, 3) := by decide +kernel
theorem dX1_addSign_24 : decode cX1_addSign 24 = .ok (.iconst 1, 1) := by decide +kernel
theorem dX1_addSign_25 : decode cX1_addSign 25 = .ok (.iadd, 1) := by decide +kernel
theorem dX1_addSign_26 : decode cX1_addSign 26 = .ok (.putfield 15, 3) := by decide +kernel
theorem dX1_addSign_29 : decode cX1_addSign 29 = .ok (.return_, 1) := by decide +kernel
theorem dX1_signAt_0 : decode cX1_signAt 0 = .ok (.iload_n 1, 1) := by decide +kernel
theorem dX1_signAt_1 : decode cX1_signAt 1 = .ok (.ifCond .lt 20, 3) := by decide +kernel
theorem dX1_signAt_4 : decode cX1_signAt 4 = .ok (.iload_n 1, 1) := by decide +kernel
theorem dX1_signAt_5 : decode cX1_signAt 5 = .ok (.aload_n 0, 1) := by decide +kernel
theorem dX1_signAt_6 : decode cX1_signAt 6 = .ok (.getfield 15, 3) := by decide +kernel
theorem dX1_signAt_9 : decode cX1_signAt 9 = .ok (.if_icmp .ge 12, 3) := by decide +kernel
theorem dX1_signAt_12 : decode cX1_signAt 12 = .ok (.aload_n 0, 1) := by decide +kernel
theorem dX1_signAt_13 : decode cX1_signAt 13 = .ok (.getfield 9, 3) := by decide +kernel
theorem dX1_signAt_16 : decode cX1_signAt 16 = .ok (.iload_n 1, 1) := by decide +kernel
theorem dX1_signAt_17 : decode cX1_signAt 17 = .ok (.iaload, 1) := by decide +kernel
theorem dX1_signAt_18 : decode cX1_signAt 18 = .ok (.goto 4, 3) := by decide +kernel
theorem dX1_signAt_21 : decode cX1_signAt 21 = .ok (.iconst (-1), 1) := by decide +kernel
theorem dX1_signAt_22 : decode cX1_signAt 22 = .ok (.ireturn, 1) := by decide +kernel
theorem dX1_rewind_0 : decode cX1_rewind 0 = .ok (.aload_n 0, 1) := by decide +kernel
theorem dX1_rewind_1 : decode cX1_rewind 1 = .ok (.iconst 0, 1) := by decide +kernel
theorem dX1_rewind_2 : decode cX1_rewind 2 = .ok (.putfield 19, 3) := by decide +kernel
theorem dX1_rewind_5 : decode cX1_rewind 5 = .ok (.aload_n 0, 1) := by decide +kernel
theorem dX1_rewind_6 : decode cX1_rewind 6 = .ok (.iconst 0, 1) := by decide +kernel
theorem dX1_rewind_7 : decode cX1_rewind 7 = .ok (.putfield 22, 3) := by decide +kernel
theorem dX1_rewind_10 : decode cX1_rewind 10 = .ok (.return_, 1) := by decide +kernel
theorem dX1_readAll_0 : decode cX1_readAll 0 = .ok (.aload_n 0, 1) := by decide +kernel
theorem dX1_readAll_1 : decode cX1_readAll 1 = .ok (.invokevirtual 26, 3) := by decide +kernel
theorem dX1_readAll_4 : decode cX1_readAll 4 = .ok (.aload_n 0, 1) := by decide +kernel
theorem dX1_readAll_5 : decode cX1_readAll 5 = .ok (.invokevirtual 29, 3) := by decide +kernel
theorem dX1_readAll_8 : decode cX1_readAll 8 = .ok (.iconst 0, 1) := by decide +kernel
theorem dX1_readAll_9 : decode cX1_readAll 9 = .ok (.istore_n 1, 1) := by decide +kernel
theorem dX1_readAll_10 : decode cX1_readAll 10 = .ok (.iload_n 1, 1) := by decide +kernel
theorem dX1_readAll_11 : decode cX1_readAll 11 = .ok (.bipush 60, 2) := by decide +kernel
theorem dX1_readAll_13 : decode cX1_readAll 13 = .ok (.if_icmp .ge 31, 3) := by decide +kernel
theorem dX1_readAll_16 : decode cX1_readAll 16 = .ok (.aload_n 0, 1) := by decide +kernel
theorem dX1_readAll_17 : decode cX1_readAll 17 = .ok (.getfield 22, 3) := by decide +kernel
theorem dX1_readAll_20 : decode cX1_readAll 20 = .ok (.ifCond .ne 24, 3) := by decide +kernel
theorem dX1_readAll_23 : decode cX1_readAll 23 = .ok (.aload_n 0, 1) := by decide +kernel
theorem dX1_readAll_24 : decode cX1_readAll 24 = .ok (.getfield 19, 3) := by decide +kernel
theorem dX1_readAll_27 : decode cX1_readAll 27 = .ok (.aload_n 0, 1) := by decide +kernel
theorem dX1_readAll_28 : decode cX1_readAll 28 = .ok (.getfield 15, 3) := by decide +kernel
theorem dX1_readAll_31 : decode cX1_readAll 31 = .ok (.if_icmp .ge 13, 3) := by decide +kernel
theorem dX1_readAll_34 : decode cX1_readAll 34 = .ok (.aload_n 0, 1) := by decide +kernel
theorem dX1_readAll_35 : decode cX1_readAll 35 = .ok (.invokevirtual 29, 3) := by decide +kernel
theorem dX1_readAll_38 : decode cX1_readAll 38 = .ok (.iinc 1 1, 3) := by decide +kernel
theorem dX1_readAll_41 : decode cX1_readAll 41 = .ok (.goto (-31), 3) := by decide +kernel
theorem dX1_readAll_44 : decode cX1_readAll 44 = .ok (.aload_n 0, 1) := by decide +kernel
theorem dX1_readAll_45 : decode cX1_readAll 45 = .ok (.getfield 22, 3) := by decide +kernel
theorem dX1_readAll_48 : decode cX1_readAll 48 = .ok (.ifCond .ne 7, 3) := by decide +kernel
theorem dX1_readAll_51 : decode cX1_readAll 51 = .ok (.iconst 1, 1) := by decide +kernel
theorem dX1_readAll_52 : decode cX1_readAll 52 = .ok (.goto 4, 3) := by decide +kernel
theorem dX1_readAll_55 : decode cX1_readAll 55 = .ok (.iconst 0, 1) := by decide +kernel
theorem dX1_readAll_56 : decode cX1_readAll 56 = .ok (.ireturn, 1) := by decide +kernel
theorem dX1_readNext_0 : decode cX1_readNext 0 = .ok (.aload_n 0, 1) := by decide +kernel
theorem dX1_readNext_1 : decode cX1_readNext 1 = .ok (.getfield 19, 3) := by decide +kernel
theorem dX1_readNext_4 : decode cX1_readNext 4 = .ok (.ifCond .le 9, 3) := by decide +kernel
theorem dX1_readNext_7 : decode cX1_readNext 7 = .ok (.aload_n 0, 1) := by decide +kernel
theorem dX1_readNext_8 : decode cX1_readNext 8 = .ok (.bipush 59, 2) := by decide +kernel
theorem dX1_readNext_10 : decode cX1_readNext 10 = .ok (.invokevirtual 32, 3) := by decide +kernel
theorem dX1_readNext_13 : decode cX1_readNext 13 = .ok (.aload_n 0, 1) := by decide +kernel
theorem dX1_readNext_14 : decode cX1_readNext 14 = .ok (.getfield 22, 3) := by decide +kernel
theorem dX1_readNext_17 : decode cX1_readNext 17 = .ok (.ifCond .ne 7, 3) := by decide +kernel
theorem dX1_readNext_20 : decode cX1_readNext 20 = .ok (.aload_n 0, 1) := by decide +kernel
theorem dX1_readNext_21 : decode cX1_readNext 21 = .ok (.invokevirtual 36, 3) := by decide +kernel
theorem dX1_readNext_24 : decode cX1_readNext 24 = .ok (.return_, 1) := by decide +kernel
theorem dX1_readOrder_0 : decode cX1_readOrder 0 = .ok (.aload_n 0, 1) := by decide +kernel
theorem dX1_readOrder_1 : decode cX1_readOrder 1 = .ok (.aload_n 0, 1) := by decide +kernel
theorem dX1_readOrder_2 : decode cX1_readOrder 2 = .ok (.aload_n 0, 1) := by decide +kernel
theorem dX1_readOrder_3 : decode cX1_readOrder 3 = .ok (.getfield 19, 3) := by decide +kernel
theorem dX1_readOrder_6 : decode cX1_readOrder 6 = .ok (.invokevirtual 39, 3) := by decide +kernel
theorem dX1_readOrder_9 : decode cX1_readOrder 9 = .ok (.putfield 43, 3) := by decide +kernel
theorem dX1_readOrder_12 : decode cX1_readOrder 12 = .ok (.aload_n 0, 1) := by decide +kernel
theorem dX1_readOrder_13 : decode cX1_readOrder 13 = .ok (.getfield 43, 3) := by decide +kernel
theorem dX1_readOrder_16 : decode cX1_readOrder 16 = .ok (.bipush 116, 2) := by decide +kernel
theorem dX1_readOrder_18 : decode cX1_readOrder 18 = .ok (.if_icmp .eq 36, 3) := by decide +kernel
theorem dX1_readOrder_21 : decode cX1_readOrder 21 = .ok (.aload_n 0, 1) := by decide +kernel
theorem dX1_readOrder_22 : decode cX1_readOrder 22 = .ok (.getfield 43, 3) := by decide +kernel
theorem dX1_readOrder_25 : decode cX1_readOrder 25 = .ok (.bipush 119, 2) := by decide +kernel
theorem dX1_readOrder_27 : decode cX1_readOrder 27 = .ok (.if_icmp .eq 27, 3) := by decide +kernel
theorem dX1_readOrder_30 : decode cX1_readOrder 30 = .ok (.aload_n 0, 1) := by decide +kernel
theorem dX1_readOrder_31 : decode cX1_readOrder 31 = .ok (.getfield 43, 3) := by decide +kernel
theorem dX1_readOrder_34 : decode cX1_readOrder 34 = .ok (.bipush 103, 2) := by decide +kernel
theorem dX1_readOrder_36 : decode cX1_readOrder 36 = .ok (.if_icmp .eq 18, 3) := by decide +kernel
theorem dX1_readOrder_39 : decode cX1_readOrder 39 = .ok (.aload_n 0, 1) := by decide +kernel
theorem dX1_readOrder_40 : decode cX1_readOrder 40 = .ok (.getfield 43, 3) := by decide +kernel
theorem dX1_readOrder_43 : decode cX1_readOrder 43 = .ok (.bipush 100, 2) := by decide +kernel
theorem dX1_readOrder_45 : decode cX1_readOrder 45 = .ok (.if_icmp .eq 9, 3) := by decide +kernel
theorem dX1_readOrder_48 : decode cX1_readOrder 48 = .ok (.aload_n 0, 1) := by decide +kernel
theorem dX1_readOrder_49 : decode cX1_readOrder 49 = .ok (.iconst 1, 1) := by decide +kernel
theorem dX1_readOrder_50 : decode cX1_readOrder 50 = .ok (.putfield 22, 3) := by decide +kernel
theorem dX1_readOrder_53 : decode cX1_readOrder 53 = .ok (.return_, 1) := by decide +kernel
theorem dX1_readOrder_54 : decode cX1_readOrder 54 = .ok (.aload_n 0, 1) := by decide +kernel
theorem dX1_readOrder_55 : decode cX1_readOrder 55 = .ok (.dup, 1) := by decide +kernel
theorem dX1_readOrder_56 : decode cX1_readOrder 56 = .ok (.getfield 19, 3) := by decide +kernel
theorem dX1_readOrder_59 : decode cX1_readOrder 59 = .ok (.iconst 1, 1) := by decide +kernel
theorem dX1_readOrder_60 : decode cX1_readOrder 60 = .ok (.iadd, 1) := by decide +kernel
theorem dX1_readOrder_61 : decode cX1_readOrder 61 = .ok (.putfield 19, 3) := by decide +kernel
theorem dX1_readOrder_64 : decode cX1_readOrder 64 = .ok (.aload_n 0, 1) := by decide +kernel
theorem dX1_readOrder_65 : decode cX1_readOrder 65 = .ok (.getfield 43, 3) := by decide +kernel
theorem dX1_readOrder_68 : decode cX1_readOrder 68 = .ok (.lookupswitch 166 #[(103, 115), (116, 36), (119, 67)], 36) := by decide +kernel
theorem dX1_readOrder_104 : decode cX1_readOrder 104 = .ok (.aload_n 0, 1) := by decide +kernel
theorem dX1_readOrder_105 : decode cX1_readOrder 105 = .ok (.aload_n 0, 1) := by decide +kernel
theorem dX1_readOrder_106 : decode cX1_readOrder 106 = .ok (.iconst 0, 1) := by decide +kernel
theorem dX1_readOrder_107 : decode cX1_readOrder 107 = .ok (.bipush 7, 2) := by decide +kernel
theorem dX1_readOrder_109 : decode cX1_readOrder 109 = .ok (.invokevirtual 46, 3) := by decide +kernel
theorem dX1_readOrder_112 : decode cX1_readOrder 112 = .ok (.putfield 50, 3) := by decide +kernel
theorem dX1_readOrder_115 : decode cX1_readOrder 115 = .ok (.aload_n 0, 1) := by decide +kernel
theorem dX1_readOrder_116 : decode cX1_readOrder 116 = .ok (.bipush 42, 2) := by decide +kernel
theorem dX1_readOrder_118 : decode cX1_readOrder 118 = .ok (.invokevirtual 32, 3) := by decide +kernel
theorem dX1_readOrder_121 : decode cX1_readOrder 121 = .ok (.aload_n 0, 1) := by decide +kernel
theorem dX1_readOrder_122 : decode cX1_readOrder 122 = .ok (.aload_n 0, 1) := by decide +kernel
theorem dX1_readOrder_123 : decode cX1_readOrder 123 = .ok (.iconst 1, 1) := by decide +kernel
theorem dX1_readOrder_124 : decode cX1_readOrder 124 = .ok (.bipush 99, 2) := by decide +kernel
theorem dX1_readOrder_126 : decode cX1_readOrder 126 = .ok (.invokevirtual 46, 3) := by decide +kernel
theorem dX1_readOrder_129 : decode cX1_readOrder 129 = .ok (.putfield 53, 3) := by decide +kernel
theorem dX1_readOrder_132 : decode cX1_readOrder 132 = .ok (.goto 113, 3) := by decide +kernel
theorem dX1_readOrder_135 : decode cX1_readOrder 135 = .ok (.aload_n 0, 1) := by decide +kernel
theorem dX1_readOrder_136 : decode cX1_readOrder 136 = .ok (.aload_n 0, 1) := by decide +kernel
theorem dX1_readOrder_137 : decode cX1_readOrder 137 = .ok (.iconst 0, 1) := by decide +kernel
theorem dX1_readOrder_138 : decode cX1_readOrder 138 = .ok (.bipush 7, 2) := by decide +kernel
theorem dX1_readOrder_140 : decode cX1_readOrder 140 = .ok (.invokevirtual 46, 3) := by decide +kernel
theorem dX1_readOrder_143 : decode cX1_readOrder 143 = .ok (.putfield 50, 3) := by decide +kernel
theorem dX1_readOrder_146 : decode cX1_readOrder 146 = .ok (.aload_n 0, 1) := by decide +kernel
theorem dX1_readOrder_147 : decode cX1_readOrder 147 = .ok (.bipush 64, 2) := by decide +kernel
theorem dX1_readOrder_149 : decode cX1_readOrder 149 = .ok (.invokevirtual 32, 3) := by decide +kernel
theorem dX1_readOrder_152 : decode cX1_readOrder 152 = .ok (.aload_n 0, 1) := by decide +kernel
theorem dX1_readOrder_153 : decode cX1_readOrder 153 = .ok (.aload_n 0, 1) := by decide +kernel
theorem dX1_readOrder_154 : decode cX1_readOrder 154 = .ok (.iconst 0, 1) := by decide +kernel
theorem dX1_readOrder_155 : decode cX1_readOrder 155 = .ok (.bipush 63, 2) := by decide +kernel
theorem dX1_readOrder_157 : decode cX1_readOrder 157 = .ok (.invokevirtual 46, 3) := by decide +kernel
theorem dX1_readOrder_160 : decode cX1_readOrder 160 = .ok (.putfield 56, 3) := by decide +kernel
theorem dX1_readOrder_163 : decode cX1_readOrder 163 = .ok (.aload_n 0, 1) := by decide +kernel
theorem dX1_readOrder_164 : decode cX1_readOrder 164 = .ok (.bipush 42, 2) := by decide +kernel
theorem dX1_readOrder_166 : decode cX1_readOrder 166 = .ok (.invokevirtual 32, 3) := by decide +kernel
theorem dX1_readOrder_169 : decode cX1_readOrder 169 = .ok (.aload_n 0, 1) := by decide +kernel
theorem dX1_readOrder_170 : decode cX1_readOrder 170 = .ok (.aload_n 0, 1) := by decide +kernel
theorem dX1_readOrder_171 : decode cX1_readOrder 171 = .ok (.iconst 1, 1) := by decide +kernel
theorem dX1_readOrder_172 : decode cX1_readOrder 172 = .ok (.bipush 99, 2) := by decide +kernel
theorem dX1_readOrder_174 : decode cX1_readOrder 174 = .ok (.invokevirtual 46, 3) := by decide +kernel
theorem dX1_readOrder_177 : decode cX1_readOrder 177 = .ok (.putfield 53, 3) := by decide +kernel
theorem dX1_readOrder_180 : decode cX1_readOrder 180 = .ok (.goto 65, 3) := by decide +kernel
theorem dX1_readOrder_183 : decode cX1_readOrder 183 = .ok (.aload_n 0, 1) := by decide +kernel
theorem dX1_readOrder_184 : decode cX1_readOrder 184 = .ok (.aload_n 0, 1) := by decide +kernel
theorem dX1_readOrder_185 : decode cX1_readOrder 185 = .ok (.iconst 0, 1) := by decide +kernel
theorem dX1_readOrder_186 : decode cX1_readOrder 186 = .ok (.bipush 7, 2) := by decide +kernel
theorem dX1_readOrder_188 : decode cX1_readOrder 188 = .ok (.invokevirtual 46, 3) := by decide +kernel
theorem dX1_readOrder_191 : decode cX1_readOrder 191 = .ok (.putfield 50, 3) := by decide +kernel
theorem dX1_readOrder_194 : decode cX1_readOrder 194 = .ok (.aload_n 0, 1) := by decide +kernel
theorem dX1_readOrder_195 : decode cX1_readOrder 195 = .ok (.bipush 58, 2) := by decide +kernel
theorem dX1_readOrder_197 : decode cX1_readOrder 197 = .ok (.invokevirtual 32, 3) := by decide +kernel
theorem dX1_readOrder_200 : decode cX1_readOrder 200 = .ok (.aload_n 0, 1) := by decide +kernel
theorem dX1_readOrder_201 : decode cX1_readOrder 201 = .ok (.aload_n 0, 1) := by decide +kernel
theorem dX1_readOrder_202 : decode cX1_readOrder 202 = .ok (.iconst 0, 1) := by decide +kernel
theorem dX1_readOrder_203 : decode cX1_readOrder 203 = .ok (.bipush 63, 2) := by decide +kernel
theorem dX1_readOrder_205 : decode cX1_readOrder 205 = .ok (.invokevirtual 46, 3) := by decide +kernel
theorem dX1_readOrder_208 : decode cX1_readOrder 208 = .ok (.putfield 56, 3) := by decide +kernel
theorem dX1_readOrder_211 : decode cX1_readOrder 211 = .ok (.aload_n 0, 1) := by decide +kernel
theorem dX1_readOrder_212 : decode cX1_readOrder 212 = .ok (.bipush 45, 2) := by decide +kernel
theorem dX1_readOrder_214 : decode cX1_readOrder 214 = .ok (.invokevirtual 32, 3) := by decide +kernel
theorem dX1_readOrder_217 : decode cX1_readOrder 217 = .ok (.aload_n 0, 1) := by decide +kernel
theorem dX1_readOrder_218 : decode cX1_readOrder 218 = .ok (.aload_n 0, 1) := by decide +kernel
theorem dX1_readOrder_219 : decode cX1_readOrder 219 = .ok (.aload_n 0, 1) := by decide +kernel
theorem dX1_readOrder_220 : decode cX1_readOrder 220 = .ok (.getfield 56, 3) := by decide +kernel
theorem dX1_readOrder_223 : decode cX1_readOrder 223 = .ok (.bipush 63, 2) := by decide +kernel
theorem dX1_readOrder_225 : decode cX1_readOrder 225 = .ok (.invokevirtual 46, 3) := by decide +kernel
theorem dX1_readOrder_228 : decode cX1_readOrder 228 = .ok (.putfield 53, 3) := by decide +kernel
theorem dX1_readOrder_231 : decode cX1_readOrder 231 = .ok (.goto 14, 3) := by decide +kernel
theorem dX1_readOrder_234 : decode cX1_readOrder 234 = .ok (.aload_n 0, 1) := by decide +kernel
theorem dX1_readOrder_235 : decode cX1_readOrder 235 = .ok (.aload_n 0, 1) := by decide +kernel
theorem dX1_readOrder_236 : decode cX1_readOrder 236 = .ok (.iconst 1, 1) := by decide +kernel
theorem dX1_readOrder_237 : decode cX1_readOrder 237 = .ok (.bipush 99, 2) := by decide +kernel
theorem dX1_readOrder_239 : decode cX1_readOrder 239 = .ok (.invokevirtual 46, 3) := by decide +kernel
theorem dX1_readOrder_242 : decode cX1_readOrder 242 = .ok (.putfield 53, 3) := by decide +kernel
theorem dX1_readOrder_245 : decode cX1_readOrder 245 = .ok (.return_, 1) := by decide +kernel
theorem dX1_readSign_0 : decode cX1_readSign 0 = .ok (.aload_n 0, 1) := by decide +kernel
theorem dX1_readSign_1 : decode cX1_readSign 1 = .ok (.getfield 22, 3) := by decide +kernel
theorem dX1_readSign_4 : decode cX1_readSign 4 = .ok (.ifCond .ne 15, 3) := by decide +kernel
theorem dX1_readSign_7 : decode cX1_readSign 7 = .ok (.aload_n 0, 1) := by decide +kernel
theorem dX1_readSign_8 : decode cX1_readSign 8 = .ok (.aload_n 0, 1) := by decide +kernel
theorem dX1_readSign_9 : decode cX1_readSign 9 = .ok (.getfield 19, 3) := by decide +kernel
theorem dX1_readSign_12 : decode cX1_readSign 12 = .ok (.invokevirtual 39, 3) := by decide +kernel
theorem dX1_readSign_15 : decode cX1_readSign 15 = .ok (.iload_n 1, 1) := by decide +kernel
theorem dX1_readSign_16 : decode cX1_readSign 16 = .ok (.if_icmp .eq 11, 3) := by decide +kernel
theorem dX1_readSign_19 : decode cX1_readSign 19 = .ok (.aload_n 0, 1) := by decide +kernel
theorem dX1_readSign_20 : decode cX1_readSign 20 = .ok (.iconst 1, 1) := by decide +kernel
theorem dX1_readSign_21 : decode cX1_readSign 21 = .ok (.putfield 22, 3) := by decide +kernel
theorem dX1_readSign_24 : decode cX1_readSign 24 = .ok (.goto 13, 3) := by decide +kernel
theorem dX1_readSign_27 : decode cX1_readSign 27 = .ok (.aload_n 0, 1) := by decide +kernel
theorem dX1_readSign_28 : decode cX1_readSign 28 = .ok (.dup, 1) := by decide +kernel
theorem dX1_readSign_29 : decode cX1_readSign 29 = .ok (.getfield 19, 3) := by decide +kernel
theorem dX1_readSign_32 : decode cX1_readSign 32 = .ok (.iconst 1, 1) := by decide +kernel
theorem dX1_readSign_33 : decode cX1_readSign 33 = .ok (.iadd, 1) := by decide +kernel
theorem dX1_readSign_34 : decode cX1_readSign 34 = .ok (.putfield 19, 3) := by decide +kernel
theorem dX1_readSign_37 : decode cX1_readSign 37 = .ok (.return_, 1) := by decide +kernel
theorem dX1_readNumber_0 : decode cX1_readNumber 0 = .ok (.aload_n 0, 1) := by decide +kernel
theorem dX1_readNumber_1 : decode cX1_readNumber 1 = .ok (.aload_n 0, 1) := by decide +kernel
theorem dX1_readNumber_2 : decode cX1_readNumber 2 = .ok (.getfield 19, 3) := by decide +kernel
theorem dX1_readNumber_5 : decode cX1_readNumber 5 = .ok (.invokevirtual 59, 3) := by decide +kernel
theorem dX1_readNumber_8 : decode cX1_readNumber 8 = .ok (.istore_n 3, 1) := by decide +kernel
theorem dX1_readNumber_9 : decode cX1_readNumber 9 = .ok (.aload_n 0, 1) := by decide +kernel
theorem dX1_readNumber_10 : decode cX1_readNumber 10 = .ok (.getfield 22, 3) := by decide +kernel
theorem dX1_readNumber_13 : decode cX1_readNumber 13 = .ok (.ifCond .ne 17, 3) := by decide +kernel
theorem dX1_readNumber_16 : decode cX1_readNumber 16 = .ok (.iload_n 3, 1) := by decide +kernel
theorem dX1_readNumber_17 : decode cX1_readNumber 17 = .ok (.iconst (-1), 1) := by decide +kernel
theorem dX1_readNumber_18 : decode cX1_readNumber 18 = .ok (.if_icmp .eq 12, 3) := by decide +kernel
theorem dX1_readNumber_21 : decode cX1_readNumber 21 = .ok (.iload_n 3, 1) := by decide +kernel
theorem dX1_readNumber_22 : decode cX1_readNumber 22 = .ok (.iload_n 1, 1) := by decide +kernel
theorem dX1_readNumber_23 : decode cX1_readNumber 23 = .ok (.iload_n 2, 1) := by decide +kernel
theorem dX1_readNumber_24 : decode cX1_readNumber 24 = .ok (.invokestatic 62, 3) := by decide +kernel
theorem dX1_readNumber_27 : decode cX1_readNumber 27 = .ok (.ifCond .ne 10, 3) := by decide +kernel
theorem dX1_readNumber_30 : decode cX1_readNumber 30 = .ok (.aload_n 0, 1) := by decide +kernel
theorem dX1_readNumber_31 : decode cX1_readNumber 31 = .ok (.iconst 1, 1) := by decide +kernel
theorem dX1_readNumber_32 : decode cX1_readNumber 32 = .ok (.putfield 22, 3) := by decide +kernel
theorem dX1_readNumber_35 : decode cX1_readNumber 35 = .ok (.iconst (-1), 1) := by decide +kernel
theorem dX1_readNumber_36 : decode cX1_readNumber 36 = .ok (.ireturn, 1) := by decide +kernel
theorem dX1_readNumber_37 : decode cX1_readNumber 37 = .ok (.aload_n 0, 1) := by decide +kernel
theorem dX1_readNumber_38 : decode cX1_readNumber 38 = .ok (.dup, 1) := by decide +kernel
theorem dX1_readNumber_39 : decode cX1_readNumber 39 = .ok (.getfield 19, 3) := by decide +kernel
theorem dX1_readNumber_42 : decode cX1_readNumber 42 = .ok (.iconst 1, 1) := by decide +kernel
theorem dX1_readNumber_43 : decode cX1_readNumber 43 = .ok (.iadd, 1) := by decide +kernel
theorem dX1_readNumber_44 : decode cX1_readNumber 44 = .ok (.putfield 19, 3) := by decide +kernel
theorem dX1_readNumber_47 : decode cX1_readNumber 47 = .ok (.aload_n 0, 1) := by decide +kernel
theorem dX1_readNumber_48 : decode cX1_readNumber 48 = .ok (.aload_n 0, 1) := by decide +kernel
theorem dX1_readNumber_49 : decode cX1_readNumber 49 = .ok (.getfield 19, 3) := by decide +kernel
theorem dX1_readNumber_52 : decode cX1_readNumber 52 = .ok (.invokevirtual 59, 3) := by decide +kernel
theorem dX1_readNumber_55 : decode cX1_readNumber 55 = .ok (.istore 4, 2) := by decide +kernel
theorem dX1_readNumber_57 : decode cX1_readNumber 57 = .ok (.iload_n 3, 1) := by decide +kernel
theorem dX1_readNumber_58 : decode cX1_readNumber 58 = .ok (.ifCond .le 42, 3) := by decide +kernel
theorem dX1_readNumber_61 : decode cX1_readNumber 61 = .ok (.iload 4, 2) := by decide +kernel
theorem dX1_readNumber_63 : decode cX1_readNumber 63 = .ok (.iconst (-1), 1) := by decide +kernel
theorem dX1_readNumber_64 : decode cX1_readNumber 64 = .ok (.if_icmp .eq 36, 3) := by decide +kernel
theorem dX1_readNumber_67 : decode cX1_readNumber 67 = .ok (.bipush 10, 2) := by decide +kernel
theorem dX1_readNumber_69 : decode cX1_readNumber 69 = .ok (.iload_n 3, 1) := by decide +kernel
theorem dX1_readNumber_70 : decode cX1_readNumber 70 = .ok (.imul, 1) := by decide +kernel
theorem dX1_readNumber_71 : decode cX1_readNumber 71 = .ok (.iload 4, 2) := by decide +kernel
theorem dX1_readNumber_73 : decode cX1_readNumber 73 = .ok (.iadd, 1) := by decide +kernel
theorem dX1_readNumber_74 : decode cX1_readNumber 74 = .ok (.iload_n 1, 1) := by decide +kernel
theorem dX1_readNumber_75 : decode cX1_readNumber 75 = .ok (.iload_n 2, 1) := by decide +kernel
theorem dX1_readNumber_76 : decode cX1_readNumber 76 = .ok (.invokestatic 66, 3) := by decide +kernel
theorem dX1_readNumber_79 : decode cX1_readNumber 79 = .ok (.ifCond .eq 21, 3) := by decide +kernel
theorem dX1_readNumber_82 : decode cX1_readNumber 82 = .ok (.bipush 10, 2) := by decide +kernel
theorem dX1_readNumber_84 : decode cX1_readNumber 84 = .ok (.iload_n 3, 1) := by decide +kernel
theorem dX1_readNumber_85 : decode cX1_readNumber 85 = .ok (.imul, 1) := by decide +kernel
theorem dX1_readNumber_86 : decode cX1_readNumber 86 = .ok (.iload 4, 2) := by decide +kernel
theorem dX1_readNumber_88 : decode cX1_readNumber 88 = .ok (.iadd, 1) := by decide +kernel
theorem dX1_readNumber_89 : decode cX1_readNumber 89 = .ok (.istore_n 3, 1) := by decide +kernel
theorem dX1_readNumber_90 : decode cX1_readNumber 90 = .ok (.aload_n 0, 1) := by decide +kernel
theorem dX1_readNumber_91 : decode cX1_readNumber 91 = .ok (.dup, 1) := by decide +kernel
theorem dX1_readNumber_92 : decode cX1_readNumber 92 = .ok (.getfield 19, 3) := by decide +kernel
theorem dX1_readNumber_95 : decode cX1_readNumber 95 = .ok (.iconst 1, 1) := by decide +kernel
theorem dX1_readNumber_96 : decode cX1_readNumber 96 = .ok (.iadd, 1) := by decide +kernel
theorem dX1_readNumber_97 : decode cX1_readNumber 97 = .ok (.putfield 19, 3) := by decide +kernel
theorem dX1_readNumber_100 : decode cX1_readNumber 100 = .ok (.iload_n 3, 1) := by decide +kernel
theorem dX1_readNumber_101 : decode cX1_readNumber 101 = .ok (.iload_n 1, 1) := by decide +kernel
theorem dX1_readNumber_102 : decode cX1_readNumber 102 = .ok (.iload_n 2, 1) := by decide +kernel
theorem dX1_readNumber_103 : decode cX1_readNumber 103 = .ok (.invokestatic 66, 3) := by decide +kernel
theorem dX1_readNumber_106 : decode cX1_readNumber 106 = .ok (.ifCond .ne 8, 3) := by decide +kernel
theorem dX1_readNumber_109 : decode cX1_readNumber 109 = .ok (.aload_n 0, 1) := by decide +kernel
theorem dX1_readNumber_110 : decode cX1_readNumber 110 = .ok (.iconst 1, 1) := by decide +kernel
theorem dX1_readNumber_111 : decode cX1_readNumber 111 = .ok (.putfield 22, 3) := by decide +kernel
theorem dX1_readNumber_114 : decode cX1_readNumber 114 = .ok (.iload_n 3, 1) := by decide +kernel
theorem dX1_readNumber_115 : decode cX1_readNumber 115 = .ok (.ireturn, 1) := by decide +kernel
theorem dX1_digitAt_0 : decode cX1_digitAt 0 = .ok (.aload_n 0, 1) := by decide +kernel
theorem dX1_digitAt_1 : decode cX1_digitAt 1 = .ok (.iload_n 1, 1) := by decide +kernel
theorem dX1_digitAt_2 : decode cX1_digitAt 2 = .ok (.invokevirtual 39, 3) := by decide +kernel
theorem dX1_digitAt_5 : decode cX1_digitAt 5 = .ok (.istore_n 2, 1) := by decide +kernel
theorem dX1_digitAt_6 : decode cX1_digitAt 6 = .ok (.iload_n 2, 1) := by decide +kernel
theorem dX1_digitAt_7 : decode cX1_digitAt 7 = .ok (.bipush 48, 2) := by decide +kernel
theorem dX1_digitAt_9 : decode cX1_digitAt 9 = .ok (.if_icmp .lt 16, 3) := by decide +kernel
theorem dX1_digitAt_12 : decode cX1_digitAt 12 = .ok (.iload_n 2, 1) := by decide +kernel
theorem dX1_digitAt_13 : decode cX1_digitAt 13 = .ok (.bipush 57, 2) := by decide +kernel
theorem dX1_digitAt_15 : decode cX1_digitAt 15 = .ok (.if_icmp .gt 10, 3) := by decide +kernel
theorem dX1_digitAt_18 : decode cX1_digitAt 18 = .ok (.iload_n 2, 1) := by decide +kernel
theorem dX1_digitAt_19 : decode cX1_digitAt 19 = .ok (.bipush 48, 2) := by decide +kernel
theorem dX1_digitAt_21 : decode cX1_digitAt 21 = .ok (.isub, 1) := by decide +kernel
theorem dX1_digitAt_22 : decode cX1_digitAt 22 = .ok (.goto 4, 3) := by decide +kernel
theorem dX1_digitAt_25 : decode cX1_digitAt 25 = .ok (.iconst (-1), 1) := by decide +kernel
theorem dX1_digitAt_26 : decode cX1_digitAt 26 = .ok (.ireturn, 1) := by decide +kernel
theorem dX1_begins_0 : decode cX1_begins 0 = .ok (.iload_n 0, 1) := by decide +kernel
theorem dX1_begins_1 : decode cX1_begins 1 = .ok (.ifCond .le 26, 3) := by decide +kernel
theorem dX1_begins_4 : decode cX1_begins 4 = .ok (.bipush 10, 2) := by decide +kernel
theorem dX1_begins_6 : decode cX1_begins 6 = .ok (.iload_n 0, 1) := by decide +kernel
theorem dX1_begins_7 : decode cX1_begins 7 = .ok (.imul, 1) := by decide +kernel
theorem dX1_begins_8 : decode cX1_begins 8 = .ok (.iload_n 2, 1) := by decide +kernel
theorem dX1_begins_9 : decode cX1_begins 9 = .ok (.if_icmp .gt 18, 3) := by decide +kernel
theorem dX1_begins_12 : decode cX1_begins 12 = .ok (.bipush 10, 2) := by decide +kernel
theorem dX1_begins_14 : decode cX1_begins 14 = .ok (.iload_n 0, 1) := by decide +kernel
theorem dX1_begins_15 : decode cX1_begins 15 = .ok (.imul, 1) := by decide +kernel
theorem dX1_begins_16 : decode cX1_begins 16 = .ok (.bipush 9, 2) := by decide +kernel
theorem dX1_begins_18 : decode cX1_begins 18 = .ok (.iadd, 1) := by decide +kernel
theorem dX1_begins_19 : decode cX1_begins 19 = .ok (.iload_n 1, 1) := by decide +kernel
theorem dX1_begins_20 : decode cX1_begins 20 = .ok (.if_icmp .lt 7, 3) := by decide +kernel
theorem dX1_begins_23 : decode cX1_begins 23 = .ok (.iconst 1, 1) := by decide +kernel
theorem dX1_begins_24 : decode cX1_begins 24 = .ok (.goto 4, 3) := by decide +kernel
theorem dX1_begins_27 : decode cX1_begins 27 = .ok (.iconst 0, 1) := by decide +kernel
theorem dX1_begins_28 : decode cX1_begins 28 = .ok (.istore_n 3, 1) := by decide +kernel
theorem dX1_begins_29 : decode cX1_begins 29 = .ok (.iload_n 3, 1) := by decide +kernel
theorem dX1_begins_30 : decode cX1_begins 30 = .ok (.ifCond .ne 12, 3) := by decide +kernel
theorem dX1_begins_33 : decode cX1_begins 33 = .ok (.iload_n 0, 1) := by decide +kernel
theorem dX1_begins_34 : decode cX1_begins 34 = .ok (.iload_n 1, 1) := by decide +kernel
theorem dX1_begins_35 : decode cX1_begins 35 = .ok (.iload_n 2, 1) := by decide +kernel
theorem dX1_begins_36 : decode cX1_begins 36 = .ok (.invokestatic 66, 3) := by decide +kernel
theorem dX1_begins_39 : decode cX1_begins 39 = .ok (.ifCond .eq 7, 3) := by decide +kernel
theorem dX1_begins_42 : decode cX1_begins 42 = .ok (.iconst 1, 1) := by decide +kernel
theorem dX1_begins_43 : decode cX1_begins 43 = .ok (.goto 4, 3) := by decide +kernel
theorem dX1_begins_46 : decode cX1_begins 46 = .ok (.iconst 0, 1) := by decide +kernel
theorem dX1_begins_47 : decode cX1_begins 47 = .ok (.ireturn, 1) := by decide +kernel
theorem dX1_isWithin_0 : decode cX1_isWithin 0 = .ok (.iload_n 0, 1) := by decide +kernel
theorem dX1_isWithin_1 : decode cX1_isWithin 1 = .ok (.iload_n 1, 1) := by decide +kernel
theorem dX1_isWithin_2 : decode cX1_isWithin 2 = .ok (.if_icmp .lt 12, 3) := by decide +kernel
theorem dX1_isWithin_5 : decode cX1_isWithin 5 = .ok (.iload_n 0, 1) := by decide +kernel
theorem dX1_isWithin_6 : decode cX1_isWithin 6 = .ok (.iload_n 2, 1) := by decide +kernel
theorem dX1_isWithin_7 : decode cX1_isWithin 7 = .ok (.if_icmp .gt 7, 3) := by decide +kernel
theorem dX1_isWithin_10 : decode cX1_isWithin 10 = .ok (.iconst 1, 1) := by decide +kernel
theorem dX1_isWithin_11 : decode cX1_isWithin 11 = .ok (.goto 4, 3) := by decide +kernel
theorem dX1_isWithin_14 : decode cX1_isWithin 14 = .ok (.iconst 0, 1) := by decide +kernel
theorem dX1_isWithin_15 : decode cX1_isWithin 15 = .ok (.ireturn, 1) := by decide +kernel
theorem dX2_init_0 : decode cX2_init 0 = .ok (.aload_n 0, 1) := by decide +kernel
theorem dX2_init_1 : decode cX2_init 1 = .ok (.invokespecial 3, 3) := by decide +kernel
theorem dX2_init_4 : decode cX2_init 4 = .ok (.aload_n 0, 1) := by decide +kernel
theorem dX2_init_5 : decode cX2_init 5 = .ok (.iconst 4, 1) := by decide +kernel
theorem dX2_init_6 : decode cX2_init 6 = .ok (.newarray .int, 2) := by decide +kernel
theorem dX2_init_8 : decode cX2_init 8 = .ok (.dup, 1) := by decide +kernel
theorem dX2_init_9 : decode cX2_init 9 = .ok (.iconst 0, 1) := by decide +kernel
theorem dX2_init_10 : decode cX2_init 10 = .ok (.iconst 5, 1) := by decide +kernel
theorem dX2_init_11 : decode cX2_init 11 = .ok (.iastore, 1) := by decide +kernel
theorem dX2_init_12 : decode cX2_init 12 = .ok (.dup, 1) := by decide +kernel
theorem dX2_init_13 : decode cX2_init 13 = .ok (.iconst 1, 1) := by decide +kernel
theorem dX2_init_14 : decode cX2_init 14 = .ok (.bipush 16, 2) := by decide +kernel
theorem dX2_init_16 : decode cX2_init 16 = .ok (.iastore, 1) := by decide +kernel
theorem dX2_init_17 : decode cX2_init 17 = .ok (.dup, 1) := by decide +kernel
theorem dX2_init_18 : decode cX2_init 18 = .ok (.iconst 2, 1) := by decide +kernel
theorem dX2_init_19 : decode cX2_init 19 = .ok (.iconst 0, 1) := by decide +kernel
theorem dX2_init_20 : decode cX2_init 20 = .ok (.iastore, 1) := by decide +kernel
theorem dX2_init_21 : decode cX2_init 21 = .ok (.dup, 1) := by decide +kernel
theorem dX2_init_22 : decode cX2_init 22 = .ok (.iconst 3, 1) := by decide +kernel
theorem dX2_init_23 : decode cX2_init 23 = .ok (.bipush 32, 2) := by decide +kernel
theorem dX2_init_25 : decode cX2_init 25 = .ok (.iastore, 1) := by decide +kernel
theorem dX2_init_26 : decode cX2_init 26 = .ok (.putfield 9, 3) := by decide +kernel
theorem dX2_init_29 : decode cX2_init 29 = .ok (.aload_n 0, 1) := by decide +kernel
theorem dX2_init_30 : decode cX2_init 30 = .ok (.bipush 64, 2) := by decide +kernel
theorem dX2_init_32 : decode cX2_init 32 = .ok (.newarray .int, 2) := by decide +kernel
theorem dX2_init_34 : decode cX2_init 34 = .ok (.putfield 15, 3) := by decide +kernel
theorem dX2_init_37 : decode cX2_init 37 = .ok (.aload_n 0, 1) := by decide +kernel
theorem dX2_init_38 : decode cX2_init 38 = .ok (.bipush 64, 2) := by decide +kernel
theorem dX2_init_40 : decode cX2_init 40 = .ok (.newarray .int, 2) := by decide +kernel
theorem dX2_init_42 : decode cX2_init 42 = .ok (.putfield 18, 3) := by decide +kernel
theorem dX2_init_45 : decode cX2_init 45 = .ok (.aload_n 0, 1) := by decide +kernel
theorem dX2_init_46 : decode cX2_init 46 = .ok (.bipush 64, 2) := by decide +kernel
theorem dX2_init_48 : decode cX2_init 48 = .ok (.newarray .int, 2) := by decide +kernel
theorem dX2_init_50 : decode cX2_init 50 = .ok (.putfield 21, 3) := by decide +kernel
theorem dX2_init_53 : decode cX2_init 53 = .ok (.aload_n 0, 1) := by decide +kernel
theorem dX2_init_54 : decode cX2_init 54 = .ok (.bipush 64, 2) := by decide +kernel
theorem dX2_init_56 : decode cX2_init 56 = .ok (.newarray .int, 2) := by decide +kernel
theorem dX2_init_58 : decode cX2_init 58 = .ok (.putfield 24, 3) := by decide +kernel
theorem dX2_init_61 : decode cX2_init 61 = .ok (.aload_n 0, 1) := by decide +kernel
theorem dX2_init_62 : decode cX2_init 62 = .ok (.bipush 64, 2) := by decide +kernel
theorem dX2_init_64 : decode cX2_init 64 = .ok (.newarray .int, 2) := by decide +kernel
theorem dX2_init_66 : decode cX2_init 66 = .ok (.putfield 27, 3) := by decide +kernel
theorem dX2_init_69 : decode cX2_init 69 = .ok (.aload_n 0, 1) := by decide +kernel
theorem dX2_init_70 : decode cX2_init 70 = .ok (.bipush 64, 2) := by decide +kernel
theorem dX2_init_72 : decode cX2_init 72 = .ok (.newarray .int, 2) := by decide +kernel
theorem dX2_init_74 : decode cX2_init 74 = .ok (.putfield 30, 3) := by decide +kernel
theorem dX2_init_77 : decode cX2_init 77 = .ok (.aload_n 0, 1) := by decide +kernel
theorem dX2_init_78 : decode cX2_init 78 = .ok (.sipush 192, 3) := by decide +kernel
theorem dX2_init_81 : decode cX2_init 81 = .ok (.newarray .int, 2) := by decide +kernel
theorem dX2_init_83 : decode cX2_init 83 = .ok (.putfield 33, 3) := by decide +kernel
theorem dX2_init_86 : decode cX2_init 86 = .ok (.aload_n 0, 1) := by decide +kernel
theorem dX2_init_87 : decode cX2_init 87 = .ok (.sipush 192, 3) := by decide +kernel
theorem dX2_init_90 : decode cX2_init 90 = .ok (.newarray .int, 2) := by decide +kernel
theorem dX2_init_92 : decode cX2_init 92 = .ok (.putfield 36, 3) := by decide +kernel
theorem dX2_init_95 : decode cX2_init 95 = .ok (.aload_n 0, 1) := by decide +kernel
theorem dX2_init_96 : decode cX2_init 96 = .ok (.bipush 8, 2) := by decide +kernel
theorem dX2_init_98 : decode cX2_init 98 = .ok (.newarray .int, 2) := by decide +kernel
theorem dX2_init_100 : decode cX2_init 100 = .ok (.putfield 39, 3) := by decide +kernel
theorem dX2_init_103 : decode cX2_init 103 = .ok (.aload_n 0, 1) := by decide +kernel
theorem dX2_init_104 : decode cX2_init 104 = .ok (.bipush 8, 2) := by decide +kernel
theorem dX2_init_106 : decode cX2_init 106 = .ok (.newarray .int, 2) := by decide +kernel
theorem dX2_init_108 : decode cX2_init 108 = .ok (.putfield 42, 3) := by decide +kernel
theorem dX2_init_111 : decode cX2_init 111 = .ok (.aload_n 0, 1) := by decide +kernel
theorem dX2_init_112 : decode cX2_init 112 = .ok (.bipush 8, 2) := by decide +kernel
theorem dX2_init_114 : decode cX2_init 114 = .ok (.newarray .int, 2) := by decide +kernel
theorem dX2_init_116 : decode cX2_init 116 = .ok (.putfield 45, 3) := by decide +kernel
theorem dX2_init_119 : decode cX2_init 119 = .ok (.iconst 0, 1) := by decide +kernel
theorem dX2_init_120 : decode cX2_init 120 = .ok (.istore_n 1, 1) := by decide +kernel
theorem dX2_init_121 : decode cX2_init 121 = .ok (.iload_n 1, 1) := by decide +kernel
theorem dX2_init_122 : decode cX2_init 122 = .ok (.bipush 64, 2) := by decide +kernel
theorem dX2_init_124 : decode cX2_init 124 = .ok (.if_icmp .ge 16, 3) := by decide +kernel
theorem dX2_init_127 : decode cX2_init 127 = .ok (.aload_n 0, 1) := by decide +kernel
theorem dX2_init_128 : decode cX2_init 128 = .ok (.getfield 15, 3) := by decide +kernel
theorem dX2_init_131 : decode cX2_init 131 = .ok (.iload_n 1, 1) := by decide +kernel
theorem dX2_init_132 : decode cX2_init 132 = .ok (.iconst (-1), 1) := by decide +kernel
theorem dX2_init_133 : decode cX2_init 133 = .ok (.iastore, 1) := by decide +kernel
theorem dX2_init_134 : decode cX2_init 134 = .ok (.iinc 1 1, 3) := by decide +kernel
theorem dX2_init_137 : decode cX2_init 137 = .ok (.goto (-16), 3) := by decide +kernel
theorem dX2_init_140 : decode cX2_init 140 = .ok (.return_, 1) := by decide +kernel
theorem dX2_copyFrom_0 : decode cX2_copyFrom 0 = .ok (.aload_n 0, 1) := by decide +kernel
theorem dX2_copyFrom_1 : decode cX2_copyFrom 1 = .ok (.aload_n 1, 1) := by decide +kernel
theorem dX2_copyFrom_2 : decode cX2_copyFrom 2 = .ok (.getfield 48, 3) := by decide +kernel
theorem dX2_copyFrom_5 : decode cX2_copyFrom 5 = .ok (.putfield 48, 3) := by decide +kernel
theorem dX2_copyFrom_8 : decode cX2_copyFrom 8 = .ok (.aload_n 0, 1) := by decide +kernel
theorem dX2_copyFrom_9 : decode cX2_copyFrom 9 = .ok (.aload_n 1, 1) := by decide +kernel
theorem dX2_copyFrom_10 : decode cX2_copyFrom 10 = .ok (.getfield 52, 3) := by decide +kernel
theorem dX2_copyFrom_13 : decode cX2_copyFrom 13 = .ok (.putfield 52, 3) := by decide +kernel
theorem dX2_copyFrom_16 : decode cX2_copyFrom 16 = .ok (.aload_n 0, 1) := by decide +kernel
theorem dX2_copyFrom_17 : decode cX2_copyFrom 17 = .ok (.aload_n 1, 1) := by decide +kernel
theorem dX2_copyFrom_18 : decode cX2_copyFrom 18 = .ok (.getfield 55, 3) := by decide +kernel
theorem dX2_copyFrom_21 : decode cX2_copyFrom 21 = .ok (.putfield 55, 3) := by decide +kernel
theorem dX2_copyFrom_24 : decode cX2_copyFrom 24 = .ok (.aload_n 0, 1) := by decide +kernel
theorem dX2_copyFrom_25 : decode cX2_copyFrom 25 = .ok (.aload_n 1, 1) := by decide +kernel
theorem dX2_copyFrom_26 : decode cX2_copyFrom 26 = .ok (.getfield 58, 3) := by decide +kernel
theorem dX2_copyFrom_29 : decode cX2_copyFrom 29 = .ok (.putfield 58, 3) := by decide +kernel
theorem dX2_copyFrom_32 : decode cX2_copyFrom 32 = .ok (.aload_n 1, 1) := by decide +kernel
theorem dX2_copyFrom_33 : decode cX2_copyFrom 33 = .ok (.getfield 9, 3) := by decide +kernel
theorem dX2_copyFrom_36 : decode cX2_copyFrom 36 = .ok (.aload_n 0, 1) := by decide +kernel
theorem dX2_copyFrom_37 : decode cX2_copyFrom 37 = .ok (.getfield 9, 3) := by decide +kernel
theorem dX2_copyFrom_40 : decode cX2_copyFrom 40 = .ok (.invokestatic 61, 3) := by decide +kernel
theorem dX2_copyFrom_43 : decode cX2_copyFrom 43 = .ok (.aload_n 1, 1) := by decide +kernel
theorem dX2_copyFrom_44 : decode cX2_copyFrom 44 = .ok (.getfield 15, 3) := by decide +kernel
theorem dX2_copyFrom_47 : decode cX2_copyFrom 47 = .ok (.aload_n 0, 1) := by decide +kernel
theorem dX2_copyFrom_48 : decode cX2_copyFrom 48 = .ok (.getfield 15, 3) := by decide +kernel
theorem dX2_copyFrom_51 : decode cX2_copyFrom 51 = .ok (.invokestatic 61, 3) := by decide +kernel
theorem dX2_copyFrom_54 : decode cX2_copyFrom 54 = .ok (.aload_n 1, 1) := by decide +kernel
theorem dX2_copyFrom_55 : decode cX2_copyFrom 55 = .ok (.getfield 18, 3) := by decide +kernel
theorem dX2_copyFrom_58 : decode cX2_copyFrom 58 = .ok (.aload_n 0, 1) := by decide +kernel
theorem dX2_copyFrom_59 : decode cX2_copyFrom 59 = .ok (.getfield 18, 3) := by decide +kernel
theorem dX2_copyFrom_62 : decode cX2_copyFrom 62 = .ok (.invokestatic 61, 3) := by decide +kernel
theorem dX2_copyFrom_65 : decode cX2_copyFrom 65 = .ok (.aload_n 1, 1) := by decide +kernel
theorem dX2_copyFrom_66 : decode cX2_copyFrom 66 = .ok (.getfield 21, 3) := by decide +kernel
theorem dX2_copyFrom_69 : decode cX2_copyFrom 69 = .ok (.aload_n 0, 1) := by decide +kernel
theorem dX2_copyFrom_70 : decode cX2_copyFrom 70 = .ok (.getfield 21, 3) := by decide +kernel
theorem dX2_copyFrom_73 : decode cX2_copyFrom 73 = .ok (.invokestatic 61, 3) := by decide +kernel
theorem dX2_copyFrom_76 : decode cX2_copyFrom 76 = .ok (.aload_n 1, 1) := by decide +kernel
theorem dX2_copyFrom_77 : decode cX2_copyFrom 77 = .ok (.getfield 24, 3) := by decide +kernel
theorem dX2_copyFrom_80 : decode cX2_copyFrom 80 = .ok (.aload_n 0, 1) := by decide +kernel
theorem dX2_copyFrom_81 : decode cX2_copyFrom 81 = .ok (.getfield 24, 3) := by decide +kernel
theorem dX2_copyFrom_84 : decode cX2_copyFrom 84 = .ok (.invokestatic 61, 3) := by decide +kernel
theorem dX2_copyFrom_87 : decode cX2_copyFrom 87 = .ok (.aload_n 1, 1) := by decide +kernel
theorem dX2_copyFrom_88 : decode cX2_copyFrom 88 = .ok (.getfield 27, 3) := by decide +kernel
theorem dX2_copyFrom_91 : decode cX2_copyFrom 91 = .ok (.aload_n 0, 1) := by decide +kernel
theorem dX2_copyFrom_92 : decode cX2_copyFrom 92 = .ok (.getfield 27, 3) := by decide +kernel
theorem dX2_copyFrom_95 : decode cX2_copyFrom 95 = .ok (.invokestatic 61, 3) := by decide +kernel
theorem dX2_copyFrom_98 : decode cX2_copyFrom 98 = .ok (.aload_n 1, 1) := by decide +kernel
theorem dX2_copyFrom_99 : decode cX2_copyFrom 99 = .ok (.getfield 30, 3) := by decide +kernel
theorem dX2_copyFrom_102 : decode cX2_copyFrom 102 = .ok (.aload_n 0, 1) := by decide +kernel
theorem dX2_copyFrom_103 : decode cX2_copyFrom 103 = .ok (.getfield 30, 3) := by decide +kernel
theorem dX2_copyFrom_106 : decode cX2_copyFrom 106 = .ok (.invokestatic 61, 3) := by decide +kernel
theorem dX2_copyFrom_109 : decode cX2_copyFrom 109 = .ok (.aload_n 1, 1) := by decide +kernel
theorem dX2_copyFrom_110 : decode cX2_copyFrom 110 = .ok (.getfield 33, 3) := by decide +kernel
theorem dX2_copyFrom_113 : decode cX2_copyFrom 113 = .ok (.aload_n 0, 1) := by decide +kernel
theorem dX2_copyFrom_114 : decode cX2_copyFrom 114 = .ok (.getfield 33, 3) := by decide +kernel
theorem dX2_copyFrom_117 : decode cX2_copyFrom 117 = .ok (.invokestatic 61, 3) := by decide +kernel
theorem dX2_copyFrom_120 : decode cX2_copyFrom 120 = .ok (.aload_n 1, 1) := by decide +kernel
theorem dX2_copyFrom_121 : decode cX2_copyFrom 121 = .ok (.getfield 36, 3) := by decide +kernel
theorem dX2_copyFrom_124 : decode cX2_copyFrom 124 = .ok (.aload_n 0, 1) := by decide +kernel
theorem dX2_copyFrom_125 : decode cX2_copyFrom 125 = .ok (.getfield 36, 3) := by decide +kernel
theorem dX2_copyFrom_128 : decode cX2_copyFrom 128 = .ok (.invokestatic 61, 3) := by decide +kernel
theorem dX2_copyFrom_131 : decode cX2_copyFrom 131 = .ok (.aload_n 1, 1) := by decide +kernel
theorem dX2_copyFrom_132 : decode cX2_copyFrom 132 = .ok (.getfield 39, 3) := by decide +kernel
theorem dX2_copyFrom_135 : decode cX2_copyFrom 135 = .ok (.aload_n 0, 1) := by decide +kernel
theorem dX2_copyFrom_136 : decode cX2_copyFrom 136 = .ok (.getfield 39, 3) := by decide +kernel
theorem dX2_copyFrom_139 : decode cX2_copyFrom 139 = .ok (.invokestatic 61, 3) := by decide +kernel
theorem dX2_copyFrom_142 : decode cX2_copyFrom 142 = .ok (.aload_n 1, 1) := by decide +kernel
theorem dX2_copyFrom_143 : decode cX2_copyFrom 143 = .ok (.getfield 42, 3) := by decide +kernel
theorem dX2_copyFrom_146 : decode cX2_copyFrom 146 = .ok (.aload_n 0, 1) := by decide +kernel
theorem dX2_copyFrom_147 : decode cX2_copyFrom 147 = .ok (.getfield 42, 3) := by decide +kernel
theorem dX2_copyFrom_150 : decode cX2_copyFrom 150 = .ok (.invokestatic 61, 3) := by decide +kernel
theorem dX2_copyFrom_153 : decode cX2_copyFrom 153 = .ok (.aload_n 1, 1) := by decide +kernel
theorem dX2_copyFrom_154 : decode cX2_copyFrom 154 = .ok (.getfield 45, 3) := by decide +kernel
theorem dX2_copyFrom_157 : decode cX2_copyFrom 157 = .ok (.aload_n 0, 1) := by decide +kernel
theorem dX2_copyFrom_158 : decode cX2_copyFrom 158 = .ok (.getfield 45, 3) := by decide +kernel
theorem dX2_copyFrom_161 : decode cX2_copyFrom 161 = .ok (.invokestatic 61, 3) := by decide +kernel
theorem dX2_copyFrom_164 : decode cX2_copyFrom 164 = .ok (.return_, 1) := by decide +kernel
theorem dX2_copyRow_0 : decode cX2_copyRow 0 = .ok (.aload_n 0, 1) := by decide +kernel
theorem dX2_copyRow_1 : decode cX2_copyRow 1 = .ok (.iconst 0, 1) := by decide +kernel
theorem dX2_copyRow_2 : decode cX2_copyRow 2 = .ok (.aload_n 1, 1) := by decide +kernel
theorem dX2_copyRow_3 : decode cX2_copyRow 3 = .ok (.iconst 0, 1) := by decide +kernel
theorem dX2_copyRow_4 : decode cX2_copyRow 4 = .ok (.aload_n 0, 1) := by decide +kernel
theorem dX2_copyRow_5 : decode cX2_copyRow 5 = .ok (.arraylength, 1) := by decide +kernel
theorem dX2_copyRow_6 : decode cX2_copyRow 6 = .ok (.aload_n 1, 1) := by decide +kernel
theorem dX2_copyRow_7 : decode cX2_copyRow 7 = .ok (.arraylength, 1) := by decide +kernel
theorem dX2_copyRow_8 : decode cX2_copyRow 8 = .ok (.invokestatic 65, 3) := by decide +kernel
theorem dX2_copyRow_11 : decode cX2_copyRow 11 = .ok (.invokestatic 71, 3) := by decide +kernel
theorem dX2_copyRow_14 : decode cX2_copyRow 14 = .ok (.return_, 1) := by decide +kernel
theorem dX2_hasNumber_0 : decode cX2_hasNumber 0 = .ok (.iload_n 1, 1) := by decide +kernel
theorem dX2_hasNumber_1 : decode cX2_hasNumber 1 = .ok (.ifCond .lt 17, 3) := by decide +kernel
theorem dX2_hasNumber_4 : decode cX2_hasNumber 4 = .ok (.iload_n 1, 1) := by decide +kernel
theorem dX2_hasNumber_5 : decode cX2_hasNumber 5 = .ok (.aload_n 0, 1) := by decide +kernel
theorem dX2_hasNumber_6 : decode cX2_hasNumber 6 = .ok (.getfield 9, 3) := by decide +kernel
theorem dX2_hasNumber_9 : decode cX2_hasNumber 9 = .ok (.iconst 3, 1) := by decide +kernel
theorem dX2_hasNumber_10 : decode cX2_hasNumber 10 = .ok (.iaload, 1) := by decide +kernel
theorem dX2_hasNumber_11 : decode cX2_hasNumber 11 = .ok (.if_icmp .ge 7, 3) := by decide +kernel
theorem dX2_hasNumber_14 : decode cX2_hasNumber 14 = .ok (.iconst 1, 1) := by decide +kernel
theorem dX2_hasNumber_15 : decode cX2_hasNumber 15 = .ok (.goto 4, 3) := by decide +kernel
theorem dX2_hasNumber_18 : decode cX2_hasNumber 18 = .ok (.iconst 0, 1) := by decide +kernel
theorem dX2_hasNumber_19 : decode cX2_hasNumber 19 = .ok (.ireturn, 1) := by decide +kernel
theorem dX2_mayLease_0 : decode cX2_mayLease 0 = .ok (.aload_n 0, 1) := by decide +kernel
theorem dX2_mayLease_1 : decode cX2_mayLease 1 = .ok (.iload_n 1, 1) := by decide +kernel
theorem dX2_mayLease_2 : decode cX2_mayLease 2 = .ok (.iload_n 2, 1) := by decide +kernel
theorem dX2_mayLease_3 : decode cX2_mayLease 3 = .ok (.invokevirtual 77, 3) := by decide +kernel
theorem dX2_mayLease_6 : decode cX2_mayLease 6 = .ok (.ifCond .eq 16, 3) := by decide +kernel
theorem dX2_mayLease_9 : decode cX2_mayLease 9 = .ok (.aload_n 0, 1) := by decide +kernel
theorem dX2_mayLease_10 : decode cX2_mayLease 10 = .ok (.iload_n 2, 1) := by decide +kernel
theorem dX2_mayLease_11 : decode cX2_mayLease 11 = .ok (.invokevirtual 81, 3) := by decide +kernel
theorem dX2_mayLease_14 : decode cX2_mayLease 14 = .ok (.iconst (-1), 1) := by decide +kernel
theorem dX2_mayLease_15 : decode cX2_mayLease 15 = .ok (.if_icmp .eq 7, 3) := by decide +kernel
theorem dX2_mayLease_18 : decode cX2_mayLease 18 = .ok (.iconst 1, 1) := by decide +kernel
theorem dX2_mayLease_19 : decode cX2_mayLease 19 = .ok (.goto 4, 3) := by decide +kernel
theorem dX2_mayLease_22 : decode cX2_mayLease 22 = .ok (.iconst 0, 1) := by decide +kernel
theorem dX2_mayLease_23 : decode cX2_mayLease 23 = .ok (.ireturn, 1) := by decide +kernel
theorem dX2_mayWish_0 : decode cX2_mayWish 0 = .ok (.aload_n 0, 1) := by decide +kernel
theorem dX2_mayWish_1 : decode cX2_mayWish 1 = .ok (.getfield 15, 3) := by decide +kernel
theorem dX2_mayWish_4 : decode cX2_mayWish 4 = .ok (.iload_n 2, 1) := by decide +kernel
theorem dX2_mayWish_5 : decode cX2_mayWish 5 = .ok (.iaload, 1) := by decide +kernel
theorem dX2_mayWish_6 : decode cX2_mayWish 6 = .ok (.iconst (-1), 1) := by decide +kernel
theorem dX2_mayWish_7 : decode cX2_mayWish 7 = .ok (.if_icmp .ne 10, 3) := by decide +kernel
theorem dX2_mayWish_10 : decode cX2_mayWish 10 = .ok (.aload_n 0, 1) := by decide +kernel
theorem dX2_mayWish_11 : decode cX2_mayWish 11 = .ok (.iload_n 1, 1) := by decide +kernel
theorem dX2_mayWish_12 : decode cX2_mayWish 12 = .ok (.iconst 1, 1) := by decide +kernel
theorem dX2_mayWish_13 : decode cX2_mayWish 13 = .ok (.invokevirtual 77, 3) := by decide +kernel
theorem dX2_mayWish_16 : decode cX2_mayWish 16 = .ok (.ireturn, 1) := by decide +kernel
theorem dX2_mayWish_17 : decode cX2_mayWish 17 = .ok (.aload_n 0, 1) := by decide +kernel
theorem dX2_mayWish_18 : decode cX2_mayWish 18 = .ok (.getfield 30, 3) := by decide +kernel
theorem dX2_mayWish_21 : decode cX2_mayWish 21 = .ok (.iload_n 2, 1) := by decide +kernel
theorem dX2_mayWish_22 : decode cX2_mayWish 22 = .ok (.iaload, 1) := by decide +kernel
theorem dX2_mayWish_23 : decode cX2_mayWish 23 = .ok (.iconst 3, 1) := by decide +kernel
theorem dX2_mayWish_24 : decode cX2_mayWish 24 = .ok (.if_icmp .ge 27, 3) := by decide +kernel
theorem dX2_mayWish_27 : decode cX2_mayWish 27 = .ok (.aload_n 0, 1) := by decide +kernel
theorem dX2_mayWish_28 : decode cX2_mayWish 28 = .ok (.getfield 15, 3) := by decide +kernel
theorem dX2_mayWish_31 : decode cX2_mayWish 31 = .ok (.iload_n 2, 1) := by decide +kernel
theorem dX2_mayWish_32 : decode cX2_mayWish 32 = .ok (.iaload, 1) := by decide +kernel
theorem dX2_mayWish_33 : decode cX2_mayWish 33 = .ok (.iload_n 1, 1) := by decide +kernel
theorem dX2_mayWish_34 : decode cX2_mayWish 34 = .ok (.if_icmp .eq 17, 3) := by decide +kernel
theorem dX2_mayWish_37 : decode cX2_mayWish 37 = .ok (.aload_n 0, 1) := by decide +kernel
theorem dX2_mayWish_38 : decode cX2_mayWish 38 = .ok (.iload_n 1, 1) := by decide +kernel
theorem dX2_mayWish_39 : decode cX2_mayWish 39 = .ok (.iload_n 2, 1) := by decide +kernel
theorem dX2_mayWish_40 : decode cX2_mayWish 40 = .ok (.invokevirtual 85, 3) := by decide +kernel
theorem dX2_mayWish_43 : decode cX2_mayWish 43 = .ok (.iconst (-1), 1) := by decide +kernel
theorem dX2_mayWish_44 : decode cX2_mayWish 44 = .ok (.if_icmp .ne 7, 3) := by decide +kernel
theorem dX2_mayWish_47 : decode cX2_mayWish 47 = .ok (.iconst 1, 1) := by decide +kernel
theorem dX2_mayWish_48 : decode cX2_mayWish 48 = .ok (.goto 4, 3) := by decide +kernel
theorem dX2_mayWish_51 : decode cX2_mayWish 51 = .ok (.iconst 0, 1) := by decide +kernel
theorem dX2_mayWish_52 : decode cX2_mayWish 52 = .ok (.ireturn, 1) := by decide +kernel
theorem dX2_mayRenew_0 : decode cX2_mayRenew 0 = .ok (.aload_n 0, 1) := by decide +kernel
theorem dX2_mayRenew_1 : decode cX2_mayRenew 1 = .ok (.getfield 15, 3) := by decide +kernel
theorem dX2_mayRenew_4 : decode cX2_mayRenew 4 = .ok (.iload_n 2, 1) := by decide +kernel
theorem dX2_mayRenew_5 : decode cX2_mayRenew 5 = .ok (.iaload, 1) := by decide +kernel
theorem dX2_mayRenew_6 : decode cX2_mayRenew 6 = .ok (.iload_n 1, 1) := by decide +kernel
theorem dX2_mayRenew_7 : decode cX2_mayRenew 7 = .ok (.if_icmp .ne 25, 3) := by decide +kernel
theorem dX2_mayRenew_10 : decode cX2_mayRenew 10 = .ok (.aload_n 0, 1) := by decide +kernel
theorem dX2_mayRenew_11 : decode cX2_mayRenew 11 = .ok (.getfield 9, 3) := by decide +kernel
theorem dX2_mayRenew_14 : decode cX2_mayRenew 14 = .ok (.iconst 2, 1) := by decide +kernel
theorem dX2_mayRenew_15 : decode cX2_mayRenew 15 = .ok (.iaload, 1) := by decide +kernel
theorem dX2_mayRenew_16 : decode cX2_mayRenew 16 = .ok (.ifCond .eq 12, 3) := by decide +kernel
theorem dX2_mayRenew_19 : decode cX2_mayRenew 19 = .ok (.aload_n 0, 1) := by decide +kernel
theorem dX2_mayRenew_20 : decode cX2_mayRenew 20 = .ok (.getfield 30, 3) := by decide +kernel
theorem dX2_mayRenew_23 : decode cX2_mayRenew 23 = .ok (.iload_n 2, 1) := by decide +kernel
theorem dX2_mayRenew_24 : decode cX2_mayRenew 24 = .ok (.iaload, 1) := by decide +kernel
theorem dX2_mayRenew_25 : decode cX2_mayRenew 25 = .ok (.ifCond .ne 7, 3) := by decide +kernel
theorem dX2_mayRenew_28 : decode cX2_mayRenew 28 = .ok (.iconst 1, 1) := by decide +kernel
theorem dX2_mayRenew_29 : decode cX2_mayRenew 29 = .ok (.goto 4, 3) := by decide +kernel
theorem dX2_mayRenew_32 : decode cX2_mayRenew 32 = .ok (.iconst 0, 1) := by decide +kernel
theorem dX2_mayRenew_33 : decode cX2_mayRenew 33 = .ok (.ireturn, 1) := by decide +kernel
theorem dX2_hasTimeFor_0 : decode cX2_hasTimeFor 0 = .ok (.aload_n 0, 1) := by decide +kernel
theorem dX2_hasTimeFor_1 : decode cX2_hasTimeFor 1 = .ok (.getfield 48, 3) := by decide +kernel
theorem dX2_hasTimeFor_4 : decode cX2_hasTimeFor 4 = .ok (.iload_n 1, 1) := by decide +kernel
theorem dX2_hasTimeFor_5 : decode cX2_hasTimeFor 5 = .ok (.iadd, 1) := by decide +kernel
theorem dX2_hasTimeFor_6 : decode cX2_hasTimeFor 6 = .ok (.sipush 9999, 3) := by decide +kernel
theorem dX2_hasTimeFor_9 : decode cX2_hasTimeFor 9 = .ok (.if_icmp .gt 7, 3) := by decide +kernel
theorem dX2_hasTimeFor_12 : decode cX2_hasTimeFor 12 = .ok (.iconst 1, 1) := by decide +kernel
theorem dX2_hasTimeFor_13 : decode cX2_hasTimeFor 13 = .ok (.goto 4, 3) := by decide +kernel
theorem dX2_hasTimeFor_16 : decode cX2_hasTimeFor 16 = .ok (.iconst 0, 1) := by decide +kernel
theorem dX2_hasTimeFor_17 : decode cX2_hasTimeFor 17 = .ok (.ireturn, 1) := by decide +kernel
theorem dX2_fitsIn_0 : decode cX2_fitsIn 0 = .ok (.iload_n 1, 1) := by decide +kernel
theorem dX2_fitsIn_1 : decode cX2_fitsIn 1 = .ok (.istore_n 2, 1) := by decide +kernel
theorem dX2_fitsIn_2 : decode cX2_fitsIn 2 = .ok (.iload_n 2, 1) := by decide +kernel
theorem dX2_fitsIn_3 : decode cX2_fitsIn 3 = .ok (.bipush 64, 2) := by decide +kernel
theorem dX2_fitsIn_5 : decode cX2_fitsIn 5 = .ok (.if_icmp .ge 21, 3) := by decide +kernel
theorem dX2_fitsIn_8 : decode cX2_fitsIn 8 = .ok (.aload_n 0, 1) := by decide +kernel
theorem dX2_fitsIn_9 : decode cX2_fitsIn 9 = .ok (.getfield 15, 3) := by decide +kernel
theorem dX2_fitsIn_12 : decode cX2_fitsIn 12 = .ok (.iload_n 2, 1) := by decide +kernel
theorem dX2_fitsIn_13 : decode cX2_fitsIn 13 = .ok (.iaload, 1) := by decide +kernel
theorem dX2_fitsIn_14 : decode cX2_fitsIn 14 = .ok (.iconst (-1), 1) := by decide +kernel
theorem dX2_fitsIn_15 : decode cX2_fitsIn 15 = .ok (.if_icmp .eq 5, 3) := by decide +kernel
theorem dX2_fitsIn_18 : decode cX2_fitsIn 18 = .ok (.iconst 0, 1) := by decide +kernel
theorem dX2_fitsIn_19 : decode cX2_fitsIn 19 = .ok (.ireturn, 1) := by decide +kernel
theorem dX2_fitsIn_20 : decode cX2_fitsIn 20 = .ok (.iinc 2 1, 3) := by decide +kernel
theorem dX2_fitsIn_23 : decode cX2_fitsIn 23 = .ok (.goto (-21), 3) := by decide +kernel
theorem dX2_fitsIn_26 : decode cX2_fitsIn 26 = .ok (.iconst 1, 1) := by decide +kernel
theorem dX2_fitsIn_27 : decode cX2_fitsIn 27 = .ok (.ireturn, 1) := by decide +kernel
theorem dX2_hasRoom_0 : decode cX2_hasRoom 0 = .ok (.aload_n 0, 1) := by decide +kernel
theorem dX2_hasRoom_1 : decode cX2_hasRoom 1 = .ok (.iload_n 1, 1) := by decide +kernel
theorem dX2_hasRoom_2 : decode cX2_hasRoom 2 = .ok (.invokevirtual 88, 3) := by decide +kernel
theorem dX2_hasRoom_5 : decode cX2_hasRoom 5 = .ok (.iload_n 2, 1) := by decide +kernel
theorem dX2_hasRoom_6 : decode cX2_hasRoom 6 = .ok (.iadd, 1) := by decide +kernel
theorem dX2_hasRoom_7 : decode cX2_hasRoom 7 = .ok (.aload_n 0, 1) := by decide +kernel
theorem dX2_hasRoom_8 : decode cX2_hasRoom 8 = .ok (.getfield 9, 3) := by decide +kernel
theorem dX2_hasRoom_11 : decode cX2_hasRoom 11 = .ok (.iconst 1, 1) := by decide +kernel
theorem dX2_hasRoom_12 : decode cX2_hasRoom 12 = .ok (.iaload, 1) := by decide +kernel
theorem dX2_hasRoom_13 : decode cX2_hasRoom 13 = .ok (.if_icmp .gt 7, 3) := by decide +kernel
theorem dX2_hasRoom_16 : decode cX2_hasRoom 16 = .ok (.iconst 1, 1) := by decide +kernel
theorem dX2_hasRoom_17 : decode cX2_hasRoom 17 = .ok (.goto 4, 3) := by decide +kernel
theorem dX2_hasRoom_20 : decode cX2_hasRoom 20 = .ok (.iconst 0, 1) := by decide +kernel
theorem dX2_hasRoom_21 : decode cX2_hasRoom 21 = .ok (.ireturn, 1) := by decide +kernel
theorem dX2_leaseRow_0 : decode cX2_leaseRow 0 = .ok (.aload_n 0, 1) := by decide +kernel
theorem dX2_leaseRow_1 : decode cX2_leaseRow 1 = .ok (.iload_n 2, 1) := by decide +kernel
theorem dX2_leaseRow_2 : decode cX2_leaseRow 2 = .ok (.invokevirtual 81, 3) := by decide +kernel
theorem dX2_leaseRow_5 : decode cX2_leaseRow 5 = .ok (.istore 4, 2) := by decide +kernel
theorem dX2_leaseRow_7 : decode cX2_leaseRow 7 = .ok (.iload 4, 2) := by decide +kernel
theorem dX2_leaseRow_9 : decode cX2_leaseRow 9 = .ok (.iconst (-1), 1) := by decide +kernel
theorem dX2_leaseRow_10 : decode cX2_leaseRow 10 = .ok (.if_icmp .ne 5, 3) := by decide +kernel
theorem dX2_leaseRow_13 : decode cX2_leaseRow 13 = .ok (.iconst (-1), 1) := by decide +kernel
theorem dX2_leaseRow_14 : decode cX2_leaseRow 14 = .ok (.ireturn, 1) := by decide +kernel
theorem dX2_leaseRow_15 : decode cX2_leaseRow 15 = .ok (.iload 4, 2) := by decide +kernel
theorem dX2_leaseRow_17 : decode cX2_leaseRow 17 = .ok (.istore 5, 2) := by decide +kernel
theorem dX2_leaseRow_19 : decode cX2_leaseRow 19 = .ok (.iload 5, 2) := by decide +kernel
theorem dX2_leaseRow_21 : decode cX2_leaseRow 21 = .ok (.iload 4, 2) := by decide +kernel
theorem dX2_leaseRow_23 : decode cX2_leaseRow 23 = .ok (.iload_n 2, 1) := by decide +kernel
theorem dX2_leaseRow_24 : decode cX2_leaseRow 24 = .ok (.iadd, 1) := by decide +kernel
theorem dX2_leaseRow_25 : decode cX2_leaseRow 25 = .ok (.if_icmp .ge 17, 3) := by decide +kernel
theorem dX2_leaseRow_28 : decode cX2_leaseRow 28 = .ok (.aload_n 0, 1) := by decide +kernel
theorem dX2_leaseRow_29 : decode cX2_leaseRow 29 = .ok (.iload_n 1, 1) := by decide +kernel
theorem dX2_leaseRow_30 : decode cX2_leaseRow 30 = .ok (.iload 5, 2) := by decide +kernel
theorem dX2_leaseRow_32 : decode cX2_leaseRow 32 = .ok (.iload_n 3, 1) := by decide +kernel
theorem dX2_leaseRow_33 : decode cX2_leaseRow 33 = .ok (.invokevirtual 91, 3) := by decide +kernel
theorem dX2_leaseRow_36 : decode cX2_leaseRow 36 = .ok (.iinc 5 1, 3) := by decide +kernel
theorem dX2_leaseRow_39 : decode cX2_leaseRow 39 = .ok (.goto (-20), 3) := by decide +kernel
theorem dX2_leaseRow_42 : decode cX2_leaseRow 42 = .ok (.iload 4, 2) := by decide +kernel
theorem dX2_leaseRow_44 : decode cX2_leaseRow 44 = .ok (.ireturn, 1) := by decide +kernel
theorem dX2_lease_0 : decode cX2_lease 0 = .ok (.aload_n 0, 1) := by decide +kernel
theorem dX2_lease_1 : decode cX2_lease 1 = .ok (.getfield 15, 3) := by decide +kernel
theorem dX2_lease_4 : decode cX2_lease 4 = .ok (.iload_n 2, 1) := by decide +kernel
theorem dX2_lease_5 : decode cX2_lease 5 = .ok (.iload_n 1, 1) := by decide +kernel
theorem dX2_lease_6 : decode cX2_lease 6 = .ok (.iastore, 1) := by decide +kernel
theorem dX2_lease_7 : decode cX2_lease 7 = .ok (.aload_n 0, 1) := by decide +kernel
theorem dX2_lease_8 : decode cX2_lease 8 = .ok (.getfield 18, 3) := by decide +kernel
theorem dX2_lease_11 : decode cX2_lease 11 = .ok (.iload_n 2, 1) := by decide +kernel
theorem dX2_lease_12 : decode cX2_lease 12 = .ok (.aload_n 0, 1) := by decide +kernel
theorem dX2_lease_13 : decode cX2_lease 13 = .ok (.getfield 48, 3) := by decide +kernel
theorem dX2_lease_16 : decode cX2_lease 16 = .ok (.iastore, 1) := by decide +kernel
theorem dX2_lease_17 : decode cX2_lease 17 = .ok (.aload_n 0, 1) := by decide +kernel
theorem dX2_lease_18 : decode cX2_lease 18 = .ok (.getfield 21, 3) := by decide +kernel
theorem dX2_lease_21 : decode cX2_lease 21 = .ok (.iload_n 2, 1) := by decide +kernel
theorem dX2_lease_22 : decode cX2_lease 22 = .ok (.aload_n 0, 1) := by decide +kernel
theorem dX2_lease_23 : decode cX2_lease 23 = .ok (.getfield 48, 3) := by decide +kernel
theorem dX2_lease_26 : decode cX2_lease 26 = .ok (.iload_n 3, 1) := by decide +kernel
theorem dX2_lease_27 : decode cX2_lease 27 = .ok (.iadd, 1) := by decide +kernel
theorem dX2_lease_28 : decode cX2_lease 28 = .ok (.iastore, 1) := by decide +kernel
theorem dX2_lease_29 : decode cX2_lease 29 = .ok (.aload_n 0, 1) := by decide +kernel
theorem dX2_lease_30 : decode cX2_lease 30 = .ok (.getfield 24, 3) := by decide +kernel
theorem dX2_lease_33 : decode cX2_lease 33 = .ok (.iload_n 2, 1) := by decide +kernel
theorem dX2_lease_34 : decode cX2_lease 34 = .ok (.aload_n 0, 1) := by decide +kernel
theorem dX2_lease_35 : decode cX2_lease 35 = .ok (.getfield 21, 3) := by decide +kernel
theorem dX2_lease_38 : decode cX2_lease 38 = .ok (.iload_n 2, 1) := by decide +kernel
theorem dX2_lease_39 : decode cX2_lease 39 = .ok (.iaload, 1) := by decide +kernel
theorem dX2_lease_40 : decode cX2_lease 40 = .ok (.aload_n 0, 1) := by decide +kernel
theorem dX2_lease_41 : decode cX2_lease 41 = .ok (.getfield 9, 3) := by decide +kernel
theorem dX2_lease_44 : decode cX2_lease 44 = .ok (.iconst 0, 1) := by decide +kernel
theorem dX2_lease_45 : decode cX2_lease 45 = .ok (.iaload, 1) := by decide +kernel
theorem dX2_lease_46 : decode cX2_lease 46 = .ok (.iadd, 1) := by decide +kernel
theorem dX2_lease_47 : decode cX2_lease 47 = .ok (.iastore, 1) := by decide +kernel
theorem dX2_lease_48 : decode cX2_lease 48 = .ok (.aload_n 0, 1) := by decide +kernel
theorem dX2_lease_49 : decode cX2_lease 49 = .ok (.getfield 27, 3) := by decide +kernel
theorem dX2_lease_52 : decode cX2_lease 52 = .ok (.iload_n 2, 1) := by decide +kernel
theorem dX2_lease_53 : decode cX2_lease 53 = .ok (.dup2, 1) := by decide +kernel
theorem dX2_lease_54 : decode cX2_lease 54 = .ok (.iaload, 1) := by decide +kernel
theorem dX2_lease_55 : decode cX2_lease 55 = .ok (.iconst 1, 1) := by decide +kernel
theorem dX2_lease_56 : decode cX2_lease 56 = .ok (.iadd, 1) := by decide +kernel
theorem dX2_lease_57 : decode cX2_lease 57 = .ok (.iastore, 1) := by decide +kernel
theorem dX2_lease_58 : decode cX2_lease 58 = .ok (.aload_n 0, 1) := by decide +kernel
theorem dX2_lease_59 : decode cX2_lease 59 = .ok (.getfield 39, 3) := by decide +kernel
theorem dX2_lease_62 : decode cX2_lease 62 = .ok (.iload_n 1, 1) := by decide +kernel
theorem dX2_lease_63 : decode cX2_lease 63 = .ok (.dup2, 1) := by decide +kernel
theorem dX2_lease_64 : decode cX2_lease 64 = .ok (.iaload, 1) := by decide +kernel
theorem dX2_lease_65 : decode cX2_lease 65 = .ok (.iconst 1, 1) := by decide +kernel
theorem dX2_lease_66 : decode cX2_lease 66 = .ok (.iadd, 1) := by decide +kernel
theorem dX2_lease_67 : decode cX2_lease 67 = .ok (.iastore, 1) := by decide +kernel
theorem dX2_lease_68 : decode cX2_lease 68 = .ok (.return_, 1) := by decide +kernel
theorem dX2_prolong_0 : decode cX2_prolong 0 = .ok (.aload_n 0, 1) := by decide +kernel
theorem dX2_prolong_1 : decode cX2_prolong 1 = .ok (.getfield 21, 3) := by decide +kernel
theorem dX2_prolong_4 : decode cX2_prolong 4 = .ok (.iload_n 1, 1) := by decide +kernel
theorem dX2_prolong_5 : decode cX2_prolong 5 = .ok (.iaload, 1) := by decide +kernel
theorem dX2_prolong_6 : decode cX2_prolong 6 = .ok (.istore_n 3, 1) := by decide +kernel
theorem dX2_prolong_7 : decode cX2_prolong 7 = .ok (.aload_n 0, 1) := by decide +kernel
theorem dX2_prolong_8 : decode cX2_prolong 8 = .ok (.dup, 1) := by decide +kernel
theorem dX2_prolong_9 : decode cX2_prolong 9 = .ok (.getfield 52, 3) := by decide +kernel
theorem dX2_prolong_12 : decode cX2_prolong 12 = .ok (.iconst 1, 1) := by decide +kernel
theorem dX2_prolong_13 : decode cX2_prolong 13 = .ok (.iadd, 1) := by decide +kernel
theorem dX2_prolong_14 : decode cX2_prolong 14 = .ok (.putfield 52, 3) := by decide +kernel
theorem dX2_prolong_17 : decode cX2_prolong 17 = .ok (.aload_n 0, 1) := by decide +kernel
theorem dX2_prolong_18 : decode cX2_prolong 18 = .ok (.iload_n 1, 1) := by decide +kernel
theorem dX2_prolong_19 : decode cX2_prolong 19 = .ok (.invokevirtual 95, 3) := by decide +kernel
theorem dX2_prolong_22 : decode cX2_prolong 22 = .ok (.iconst 2, 1) := by decide +kernel
theorem dX2_prolong_23 : decode cX2_prolong 23 = .ok (.if_icmp .ne 13, 3) := by decide +kernel
theorem dX2_prolong_26 : decode cX2_prolong 26 = .ok (.aload_n 0, 1) := by decide +kernel
theorem dX2_prolong_27 : decode cX2_prolong 27 = .ok (.dup, 1) := by decide +kernel
theorem dX2_prolong_28 : decode cX2_prolong 28 = .ok (.getfield 55, 3) := by decide +kernel
theorem dX2_prolong_31 : decode cX2_prolong 31 = .ok (.iconst 1, 1) := by decide +kernel
theorem dX2_prolong_32 : decode cX2_prolong 32 = .ok (.iadd, 1) := by decide +kernel
theorem dX2_prolong_33 : decode cX2_prolong 33 = .ok (.putfield 55, 3) := by decide +kernel
theorem dX2_prolong_36 : decode cX2_prolong 36 = .ok (.aload_n 0, 1) := by decide +kernel
theorem dX2_prolong_37 : decode cX2_prolong 37 = .ok (.getfield 21, 3) := by decide +kernel
theorem dX2_prolong_40 : decode cX2_prolong 40 = .ok (.iload_n 1, 1) := by decide +kernel
theorem dX2_prolong_41 : decode cX2_prolong 41 = .ok (.aload_n 0, 1) := by decide +kernel
theorem dX2_prolong_42 : decode cX2_prolong 42 = .ok (.getfield 48, 3) := by decide +kernel
theorem dX2_prolong_45 : decode cX2_prolong 45 = .ok (.iload_n 2, 1) := by decide +kernel
theorem dX2_prolong_46 : decode cX2_prolong 46 = .ok (.iadd, 1) := by decide +kernel
theorem dX2_prolong_47 : decode cX2_prolong 47 = .ok (.iastore, 1) := by decide +kernel
theorem dX2_prolong_48 : decode cX2_prolong 48 = .ok (.aload_n 0, 1) := by decide +kernel
theorem dX2_prolong_49 : decode cX2_prolong 49 = .ok (.getfield 24, 3) := by decide +kernel
theorem dX2_prolong_52 : decode cX2_prolong 52 = .ok (.iload_n 1, 1) := by decide +kernel
theorem dX2_prolong_53 : decode cX2_prolong 53 = .ok (.aload_n 0, 1) := by decide +kernel
theorem dX2_prolong_54 : decode cX2_prolong 54 = .ok (.getfield 21, 3) := by decide +kernel
theorem dX2_prolong_57 : decode cX2_prolong 57 = .ok (.iload_n 1, 1) := by decide +kernel
theorem dX2_prolong_58 : decode cX2_prolong 58 = .ok (.iaload, 1) := by decide +kernel
theorem dX2_prolong_59 : decode cX2_prolong 59 = .ok (.aload_n 0, 1) := by decide +kernel
theorem dX2_prolong_60 : decode cX2_prolong 60 = .ok (.getfield 9, 3) := by decide +kernel
theorem dX2_prolong_63 : decode cX2_prolong 63 = .ok (.iconst 0, 1) := by decide +kernel
theorem dX2_prolong_64 : decode cX2_prolong 64 = .ok (.iaload, 1) := by decide +kernel
theorem dX2_prolong_65 : decode cX2_prolong 65 = .ok (.iadd, 1) := by decide +kernel
theorem dX2_prolong_66 : decode cX2_prolong 66 = .ok (.iastore, 1) := by decide +kernel
theorem dX2_prolong_67 : decode cX2_prolong 67 = .ok (.iload_n 3, 1) := by decide +kernel
theorem dX2_prolong_68 : decode cX2_prolong 68 = .ok (.ireturn, 1) := by decide +kernel
theorem dX2_freeSpan_0 : decode cX2_freeSpan 0 = .ok (.iconst 0, 1) := by decide +kernel
theorem dX2_freeSpan_1 : decode cX2_freeSpan 1 = .ok (.istore 4, 2) := by decide +kernel
theorem dX2_freeSpan_3 : decode cX2_freeSpan 3 = .ok (.iload_n 2, 1) := by decide +kernel
theorem dX2_freeSpan_4 : decode cX2_freeSpan 4 = .ok (.istore 5, 2) := by decide +kernel
theorem dX2_freeSpan_6 : decode cX2_freeSpan 6 = .ok (.iload 5, 2) := by decide +kernel
theorem dX2_freeSpan_8 : decode cX2_freeSpan 8 = .ok (.iload_n 3, 1) := by decide +kernel
theorem dX2_freeSpan_9 : decode cX2_freeSpan 9 = .ok (.if_icmp .gt 29, 3) := by decide +kernel
theorem dX2_freeSpan_12 : decode cX2_freeSpan 12 = .ok (.aload_n 0, 1) := by decide +kernel
theorem dX2_freeSpan_13 : decode cX2_freeSpan 13 = .ok (.getfield 15, 3) := by decide +kernel
theorem dX2_freeSpan_16 : decode cX2_freeSpan 16 = .ok (.iload 5, 2) := by decide +kernel
theorem dX2_freeSpan_18 : decode cX2_freeSpan 18 = .ok (.iaload, 1) := by decide +kernel
theorem dX2_freeSpan_19 : decode cX2_freeSpan 19 = .ok (.iload_n 1, 1) := by decide +kernel
theorem dX2_freeSpan_20 : decode cX2_freeSpan 20 = .ok (.if_icmp .ne 12, 3) := by decide +kernel
theorem dX2_freeSpan_23 : decode cX2_freeSpan 23 = .ok (.iinc 4 1, 3) := by decide +kernel
theorem dX2_freeSpan_26 : decode cX2_freeSpan 26 = .ok (.aload_n 0, 1) := by decide +kernel
theorem dX2_freeSpan_27 : decode cX2_freeSpan 27 = .ok (.iload 5, 2) := by decide +kernel
theorem dX2_freeSpan_29 : decode cX2_freeSpan 29 = .ok (.invokevirtual 98, 3) := by decide +kernel
theorem dX2_freeSpan_32 : decode cX2_freeSpan 32 = .ok (.iinc 5 1, 3) := by decide +kernel
theorem dX2_freeSpan_35 : decode cX2_freeSpan 35 = .ok (.goto (-29), 3) := by decide +kernel
theorem dX2_freeSpan_38 : decode cX2_freeSpan 38 = .ok (.iload 4, 2) := by decide +kernel
theorem dX2_freeSpan_40 : decode cX2_freeSpan 40 = .ok (.ireturn, 1) := by decide +kernel
theorem dX2_free_0 : decode cX2_free 0 = .ok (.aload_n 0, 1) := by decide +kernel
theorem dX2_free_1 : decode cX2_free 1 = .ok (.getfield 15, 3) := by decide +kernel
theorem dX2_free_4 : decode cX2_free 4 = .ok (.iload_n 1, 1) := by decide +kernel
theorem dX2_free_5 : decode cX2_free 5 = .ok (.iconst (-1), 1) := by decide +kernel
theorem dX2_free_6 : decode cX2_free 6 = .ok (.iastore, 1) := by decide +kernel
theorem dX2_free_7 : decode cX2_free 7 = .ok (.aload_n 0, 1) := by decide +kernel
theorem dX2_free_8 : decode cX2_free 8 = .ok (.dup, 1) := by decide +kernel
theorem dX2_free_9 : decode cX2_free 9 = .ok (.getfield 58, 3) := by decide +kernel
theorem dX2_free_12 : decode cX2_free 12 = .ok (.iconst 1, 1) := by decide +kernel
theorem dX2_free_13 : decode cX2_free 13 = .ok (.iadd, 1) := by decide +kernel
theorem dX2_free_14 : decode cX2_free 14 = .ok (.putfield 58, 3) := by decide +kernel
theorem dX2_free_17 : decode cX2_free 17 = .ok (.iconst 0, 1) := by decide +kernel
theorem dX2_free_18 : decode cX2_free 18 = .ok (.istore_n 2, 1) := by decide +kernel
theorem dX2_free_19 : decode cX2_free 19 = .ok (.iload_n 2, 1) := by decide +kernel
theorem dX2_free_20 : decode cX2_free 20 = .ok (.iconst 3, 1) := by decide +kernel
theorem dX2_free_21 : decode cX2_free 21 = .ok (.if_icmp .ge 88, 3) := by decide +kernel
theorem dX2_free_24 : decode cX2_free 24 = .ok (.aload_n 0, 1) := by decide +kernel
theorem dX2_free_25 : decode cX2_free 25 = .ok (.getfield 15, 3) := by decide +kernel
theorem dX2_free_28 : decode cX2_free 28 = .ok (.iload_n 1, 1) := by decide +kernel
theorem dX2_free_29 : decode cX2_free 29 = .ok (.iaload, 1) := by decide +kernel
theorem dX2_free_30 : decode cX2_free 30 = .ok (.iconst (-1), 1) := by decide +kernel
theorem dX2_free_31 : decode cX2_free 31 = .ok (.if_icmp .ne 78, 3) := by decide +kernel
theorem dX2_free_34 : decode cX2_free 34 = .ok (.aload_n 0, 1) := by decide +kernel
theorem dX2_free_35 : decode cX2_free 35 = .ok (.getfield 30, 3) := by decide +kernel
theorem dX2_free_38 : decode cX2_free 38 = .ok (.iload_n 1, 1) := by decide +kernel
theorem dX2_free_39 : decode cX2_free 39 = .ok (.iaload, 1) := by decide +kernel
theorem dX2_free_40 : decode cX2_free 40 = .ok (.ifCond .le 69, 3) := by decide +kernel
theorem dX2_free_43 : decode cX2_free 43 = .ok (.aload_n 0, 1) := by decide +kernel
theorem dX2_free_44 : decode cX2_free 44 = .ok (.getfield 33, 3) := by decide +kernel
theorem dX2_free_47 : decode cX2_free 47 = .ok (.iload_n 1, 1) := by decide +kernel
theorem dX2_free_48 : decode cX2_free 48 = .ok (.iconst 3, 1) := by decide +kernel
theorem dX2_free_49 : decode cX2_free 49 = .ok (.imul, 1) := by decide +kernel
theorem dX2_free_50 : decode cX2_free 50 = .ok (.iaload, 1) := by decide +kernel
theorem dX2_free_51 : decode cX2_free 51 = .ok (.istore_n 3, 1) := by decide +kernel
theorem dX2_free_52 : decode cX2_free 52 = .ok (.aload_n 0, 1) := by decide +kernel
theorem dX2_free_53 : decode cX2_free 53 = .ok (.getfield 36, 3) := by decide +kernel
theorem dX2_free_56 : decode cX2_free 56 = .ok (.iload_n 1, 1) := by decide +kernel
theorem dX2_free_57 : decode cX2_free 57 = .ok (.iconst 3, 1) := by decide +kernel
theorem dX2_free_58 : decode cX2_free 58 = .ok (.imul, 1) := by decide +kernel
theorem dX2_free_59 : decode cX2_free 59 = .ok (.iaload, 1) := by decide +kernel
theorem dX2_free_60 : decode cX2_free 60 = .ok (.istore 4, 2) := by decide +kernel
theorem dX2_free_62 : decode cX2_free 62 = .ok (.aload_n 0, 1) := by decide +kernel
theorem dX2_free_63 : decode cX2_free 63 = .ok (.iload_n 1, 1) := by decide +kernel
theorem dX2_free_64 : decode cX2_free 64 = .ok (.iconst 0, 1) := by decide +kernel
theorem dX2_free_65 : decode cX2_free 65 = .ok (.invokevirtual 102, 3) := by decide +kernel
theorem dX2_free_68 : decode cX2_free 68 = .ok (.aload_n 0, 1) := by decide +kernel
theorem dX2_free_69 : decode cX2_free 69 = .ok (.iload_n 3, 1) := by decide +kernel
theorem dX2_free_70 : decode cX2_free 70 = .ok (.invokevirtual 88, 3) := by decide +kernel
theorem dX2_free_73 : decode cX2_free 73 = .ok (.aload_n 0, 1) := by decide +kernel
theorem dX2_free_74 : decode cX2_free 74 = .ok (.getfield 9, 3) := by decide +kernel
theorem dX2_free_77 : decode cX2_free 77 = .ok (.iconst 1, 1) := by decide +kernel
theorem dX2_free_78 : decode cX2_free 78 = .ok (.iaload, 1) := by decide +kernel
theorem dX2_free_79 : decode cX2_free 79 = .ok (.if_icmp .ge 14, 3) := by decide +kernel
theorem dX2_free_82 : decode cX2_free 82 = .ok (.aload_n 0, 1) := by decide +kernel
theorem dX2_free_83 : decode cX2_free 83 = .ok (.iload_n 3, 1) := by decide +kernel
theorem dX2_free_84 : decode cX2_free 84 = .ok (.iload_n 1, 1) := by decide +kernel
theorem dX2_free_85 : decode cX2_free 85 = .ok (.iload 4, 2) := by decide +kernel
theorem dX2_free_87 : decode cX2_free 87 = .ok (.invokevirtual 91, 3) := by decide +kernel
theorem dX2_free_90 : decode cX2_free 90 = .ok (.goto 13, 3) := by decide +kernel
theorem dX2_free_93 : decode cX2_free 93 = .ok (.aload_n 0, 1) := by decide +kernel
theorem dX2_free_94 : decode cX2_free 94 = .ok (.getfield 42, 3) := by decide +kernel
theorem dX2_free_97 : decode cX2_free 97 = .ok (.iload_n 3, 1) := by decide +kernel
theorem dX2_free_98 : decode cX2_free 98 = .ok (.dup2, 1) := by decide +kernel
theorem dX2_free_99 : decode cX2_free 99 = .ok (.iaload, 1) := by decide +kernel
theorem dX2_free_100 : decode cX2_free 100 = .ok (.iconst 1, 1) := by decide +kernel
theorem dX2_free_101 : decode cX2_free 101 = .ok (.iadd, 1) := by decide +kernel
theorem dX2_free_102 : decode cX2_free 102 = .ok (.iastore, 1) := by decide +kernel
theorem dX2_free_103 : decode cX2_free 103 = .ok (.iinc 2 1, 3) := by decide +kernel
theorem dX2_free_106 : decode cX2_free 106 = .ok (.goto (-87), 3) := by decide +kernel
theorem dX2_free_109 : decode cX2_free 109 = .ok (.return_, 1) := by decide +kernel
theorem dX2_addWish_0 : decode cX2_addWish 0 = .ok (.aload_n 0, 1) := by decide +kernel
theorem dX2_addWish_1 : decode cX2_addWish 1 = .ok (.getfield 15, 3) := by decide +kernel
theorem dX2_addWish_4 : decode cX2_addWish 4 = .ok (.iload_n 2, 1) := by decide +kernel
theorem dX2_addWish_5 : decode cX2_addWish 5 = .ok (.iaload, 1) := by decide +kernel
theorem dX2_addWish_6 : decode cX2_addWish 6 = .ok (.iconst (-1), 1) := by decide +kernel
theorem dX2_addWish_7 : decode cX2_addWish 7 = .ok (.if_icmp .ne 12, 3) := by decide +kernel
theorem dX2_addWish_10 : decode cX2_addWish 10 = .ok (.aload_n 0, 1) := by decide +kernel
theorem dX2_addWish_11 : decode cX2_addWish 11 = .ok (.iload_n 1, 1) := by decide +kernel
theorem dX2_addWish_12 : decode cX2_addWish 12 = .ok (.iload_n 2, 1) := by decide +kernel
theorem dX2_addWish_13 : decode cX2_addWish 13 = .ok (.iload_n 3, 1) := by decide +kernel
theorem dX2_addWish_14 : decode cX2_addWish 14 = .ok (.invokevirtual 91, 3) := by decide +kernel
theorem dX2_addWish_17 : decode cX2_addWish 17 = .ok (.iconst 0, 1) := by decide +kernel
theorem dX2_addWish_18 : decode cX2_addWish 18 = .ok (.ireturn, 1) := by decide +kernel
theorem dX2_addWish_19 : decode cX2_addWish 19 = .ok (.aload_n 0, 1) := by decide +kernel
theorem dX2_addWish_20 : decode cX2_addWish 20 = .ok (.getfield 30, 3) := by decide +kernel
theorem dX2_addWish_23 : decode cX2_addWish 23 = .ok (.iload_n 2, 1) := by decide +kernel
theorem dX2_addWish_24 : decode cX2_addWish 24 = .ok (.iaload, 1) := by decide +kernel
theorem dX2_addWish_25 : decode cX2_addWish 25 = .ok (.iconst 3, 1) := by decide +kernel
theorem dX2_addWish_26 : decode cX2_addWish 26 = .ok (.if_icmp .ge 41, 3) := by decide +kernel
theorem dX2_addWish_29 : decode cX2_addWish 29 = .ok (.iload_n 2, 1) := by decide +kernel
theorem dX2_addWish_30 : decode cX2_addWish 30 = .ok (.iconst 3, 1) := by decide +kernel
theorem dX2_addWish_31 : decode cX2_addWish 31 = .ok (.imul, 1) := by decide +kernel
theorem dX2_addWish_32 : decode cX2_addWish 32 = .ok (.aload_n 0, 1) := by decide +kernel
theorem dX2_addWish_33 : decode cX2_addWish 33 = .ok (.getfield 30, 3) := by decide +kernel
theorem dX2_addWish_36 : decode cX2_addWish 36 = .ok (.iload_n 2, 1) := by decide +kernel
theorem dX2_addWish_37 : decode cX2_addWish 37 = .ok (.iaload, 1) := by decide +kernel
theorem dX2_addWish_38 : decode cX2_addWish 38 = .ok (.iadd, 1) := by decide +kernel
theorem dX2_addWish_39 : decode cX2_addWish 39 = .ok (.istore 4, 2) := by decide +kernel
theorem dX2_addWish_41 : decode cX2_addWish 41 = .ok (.aload_n 0, 1) := by decide +kernel
theorem dX2_addWish_42 : decode cX2_addWish 42 = .ok (.getfield 33, 3) := by decide +kernel
theorem dX2_addWish_45 : decode cX2_addWish 45 = .ok (.iload 4, 2) := by decide +kernel
theorem dX2_addWish_47 : decode cX2_addWish 47 = .ok (.iload_n 1, 1) := by decide +kernel
theorem dX2_addWish_48 : decode cX2_addWish 48 = .ok (.iastore, 1) := by decide +kernel
theorem dX2_addWish_49 : decode cX2_addWish 49 = .ok (.aload_n 0, 1) := by decide +kernel
theorem dX2_addWish_50 : decode cX2_addWish 50 = .ok (.getfield 36, 3) := by decide +kernel
theorem dX2_addWish_53 : decode cX2_addWish 53 = .ok (.iload 4, 2) := by decide +kernel
theorem dX2_addWish_55 : decode cX2_addWish 55 = .ok (.iload_n 3, 1) := by decide +kernel
theorem dX2_addWish_56 : decode cX2_addWish 56 = .ok (.iastore, 1) := by decide +kernel
theorem dX2_addWish_57 : decode cX2_addWish 57 = .ok (.aload_n 0, 1) := by decide +kernel
theorem dX2_addWish_58 : decode cX2_addWish 58 = .ok (.getfield 30, 3) := by decide +kernel
theorem dX2_addWish_61 : decode cX2_addWish 61 = .ok (.iload_n 2, 1) := by decide +kernel
theorem dX2_addWish_62 : decode cX2_addWish 62 = .ok (.dup2, 1) := by decide +kernel
theorem dX2_addWish_63 : decode cX2_addWish 63 = .ok (.iaload, 1) := by decide +kernel
theorem dX2_addWish_64 : decode cX2_addWish 64 = .ok (.iconst 1, 1) := by decide +kernel
theorem dX2_addWish_65 : decode cX2_addWish 65 = .ok (.iadd, 1) := by decide +kernel
theorem dX2_addWish_66 : decode cX2_addWish 66 = .ok (.iastore, 1) := by decide +kernel
theorem dX2_addWish_67 : decode cX2_addWish 67 = .ok (.aload_n 0, 1) := by decide +kernel
theorem dX2_addWish_68 : decode cX2_addWish 68 = .ok (.getfield 30, 3) := by decide +kernel
theorem dX2_addWish_71 : decode cX2_addWish 71 = .ok (.iload_n 2, 1) := by decide +kernel
theorem dX2_addWish_72 : decode cX2_addWish 72 = .ok (.iaload, 1) := by decide +kernel
theorem dX2_addWish_73 : decode cX2_addWish 73 = .ok (.ireturn, 1) := by decide +kernel
theorem dX2_placeOfWish_0 : decode cX2_placeOfWish 0 = .ok (.iconst 0, 1) := by decide +kernel
theorem dX2_placeOfWish_1 : decode cX2_placeOfWish 1 = .ok (.istore_n 3, 1) := by decide +kernel
theorem dX2_placeOfWish_2 : decode cX2_placeOfWish 2 = .ok (.iload_n 3, 1) := by decide +kernel
theorem dX2_placeOfWish_3 : decode cX2_placeOfWish 3 = .ok (.aload_n 0, 1) := by decide +kernel
theorem dX2_placeOfWish_4 : decode cX2_placeOfWish 4 = .ok (.getfield 30, 3) := by decide +kernel
theorem dX2_placeOfWish_7 : decode cX2_placeOfWish 7 = .ok (.iload_n 2, 1) := by decide +kernel
theorem dX2_placeOfWish_8 : decode cX2_placeOfWish 8 = .ok (.iaload, 1) := by decide +kernel
theorem dX2_placeOfWish_9 : decode cX2_placeOfWish 9 = .ok (.if_icmp .ge 25, 3) := by decide +kernel
theorem dX2_placeOfWish_12 : decode cX2_placeOfWish 12 = .ok (.aload_n 0, 1) := by decide +kernel
theorem dX2_placeOfWish_13 : decode cX2_placeOfWish 13 = .ok (.getfield 33, 3) := by decide +kernel
theorem dX2_placeOfWish_16 : decode cX2_placeOfWish 16 = .ok (.iload_n 2, 1) := by decide +kernel
theorem dX2_placeOfWish_17 : decode cX2_placeOfWish 17 = .ok (.iconst 3, 1) := by decide +kernel
theorem dX2_placeOfWish_18 : decode cX2_placeOfWish 18 = .ok (.imul, 1) := by decide +kernel
theorem dX2_placeOfWish_19 : decode cX2_placeOfWish 19 = .ok (.iload_n 3, 1) := by decide +kernel
theorem dX2_placeOfWish_20 : decode cX2_placeOfWish 20 = .ok (.iadd, 1) := by decide +kernel
theorem dX2_placeOfWish_21 : decode cX2_placeOfWish 21 = .ok (.iaload, 1) := by decide +kernel
theorem dX2_placeOfWish_22 : decode cX2_placeOfWish 22 = .ok (.iload_n 1, 1) := by decide +kernel
theorem dX2_placeOfWish_23 : decode cX2_placeOfWish 23 = .ok (.if_icmp .ne 5, 3) := by decide +kernel
theorem dX2_placeOfWish_26 : decode cX2_placeOfWish 26 = .ok (.iload_n 3, 1) := by decide +kernel
theorem dX2_placeOfWish_27 : decode cX2_placeOfWish 27 = .ok (.ireturn, 1) := by decide +kernel
theorem dX2_placeOfWish_28 : decode cX2_placeOfWish 28 = .ok (.iinc 3 1, 3) := by decide +kernel
theorem dX2_placeOfWish_31 : decode cX2_placeOfWish 31 = .ok (.goto (-29), 3) := by decide +kernel
theorem dX2_placeOfWish_34 : decode cX2_placeOfWish 34 = .ok (.iconst (-1), 1) := by decide +kernel
theorem dX2_placeOfWish_35 : decode cX2_placeOfWish 35 = .ok (.ireturn, 1) := by decide +kernel
theorem dX2_dropWish_0 : decode cX2_dropWish 0 = .ok (.iload_n 2, 1) := by decide +kernel
theorem dX2_dropWish_1 : decode cX2_dropWish 1 = .ok (.istore_n 3, 1) := by decide +kernel
theorem dX2_dropWish_2 : decode cX2_dropWish 2 = .ok (.iload_n 3, 1) := by decide +kernel
theorem dX2_dropWish_3 : decode cX2_dropWish 3 = .ok (.aload_n 0, 1) := by decide +kernel
theorem dX2_dropWish_4 : decode cX2_dropWish 4 = .ok (.getfield 30, 3) := by decide +kernel
theorem dX2_dropWish_7 : decode cX2_dropWish 7 = .ok (.iload_n 1, 1) := by decide +kernel
theorem dX2_dropWish_8 : decode cX2_dropWish 8 = .ok (.iaload, 1) := by decide +kernel
theorem dX2_dropWish_9 : decode cX2_dropWish 9 = .ok (.iconst 1, 1) := by decide +kernel
theorem dX2_dropWish_10 : decode cX2_dropWish 10 = .ok (.isub, 1) := by decide +kernel
theorem dX2_dropWish_11 : decode cX2_dropWish 11 = .ok (.if_icmp .ge 48, 3) := by decide +kernel
theorem dX2_dropWish_14 : decode cX2_dropWish 14 = .ok (.iload_n 1, 1) := by decide +kernel
theorem dX2_dropWish_15 : decode cX2_dropWish 15 = .ok (.iconst 3, 1) := by decide +kernel
theorem dX2_dropWish_16 : decode cX2_dropWish 16 = .ok (.imul, 1) := by decide +kernel
theorem dX2_dropWish_17 : decode cX2_dropWish 17 = .ok (.iload_n 3, 1) := by decide +kernel
theorem dX2_dropWish_18 : decode cX2_dropWish 18 = .ok (.iadd, 1) := by decide +kernel
theorem dX2_dropWish_19 : decode cX2_dropWish 19 = .ok (.istore 4, 2) := by decide +kernel
theorem dX2_dropWish_21 : decode cX2_dropWish 21 = .ok (.aload_n 0, 1) := by decide +kernel
theorem dX2_dropWish_22 : decode cX2_dropWish 22 = .ok (.getfield 33, 3) := by decide +kernel
theorem dX2_dropWish_25 : decode cX2_dropWish 25 = .ok (.iload 4, 2) := by decide +kernel
theorem dX2_dropWish_27 : decode cX2_dropWish 27 = .ok (.aload_n 0, 1) := by decide +kernel
theorem dX2_dropWish_28 : decode cX2_dropWish 28 = .ok (.getfield 33, 3) := by decide +kernel
theorem dX2_dropWish_31 : decode cX2_dropWish 31 = .ok (.iload 4, 2) := by decide +kernel
theorem dX2_dropWish_33 : decode cX2_dropWish 33 = .ok (.iconst 1, 1) := by decide +kernel
theorem dX2_dropWish_34 : decode cX2_dropWish 34 = .ok (.iadd, 1) := by decide +kernel
theorem dX2_dropWish_35 : decode cX2_dropWish 35 = .ok (.iaload, 1) := by decide +kernel
theorem dX2_dropWish_36 : decode cX2_dropWish 36 = .ok (.iastore, 1) := by decide +kernel
theorem dX2_dropWish_37 : decode cX2_dropWish 37 = .ok (.aload_n 0, 1) := by decide +kernel
theorem dX2_dropWish_38 : decode cX2_dropWish 38 = .ok (.getfield 36, 3) := by decide +kernel
theorem dX2_dropWish_41 : decode cX2_dropWish 41 = .ok (.iload 4, 2) := by decide +kernel
theorem dX2_dropWish_43 : decode cX2_dropWish 43 = .ok (.aload_n 0, 1) := by decide +kernel
theorem dX2_dropWish_44 : decode cX2_dropWish 44 = .ok (.getfield 36, 3) := by decide +kernel
theorem dX2_dropWish_47 : decode cX2_dropWish 47 = .ok (.iload 4, 2) := by decide +kernel
theorem dX2_dropWish_49 : decode cX2_dropWish 49 = .ok (.iconst 1, 1) := by decide +kernel
theorem dX2_dropWish_50 : decode cX2_dropWish 50 = .ok (.iadd, 1) := by decide +kernel
theorem dX2_dropWish_51 : decode cX2_dropWish 51 = .ok (.iaload, 1) := by decide +kernel
theorem dX2_dropWish_52 : decode cX2_dropWish 52 = .ok (.iastore, 1) := by decide +kernel
theorem dX2_dropWish_53 : decode cX2_dropWish 53 = .ok (.iinc 3 1, 3) := by decide +kernel
theorem dX2_dropWish_56 : decode cX2_dropWish 56 = .ok (.goto (-54), 3) := by decide +kernel
theorem dX2_dropWish_59 : decode cX2_dropWish 59 = .ok (.aload_n 0, 1) := by decide +kernel
theorem dX2_dropWish_60 : decode cX2_dropWish 60 = .ok (.getfield 30, 3) := by decide +kernel
theorem dX2_dropWish_63 : decode cX2_dropWish 63 = .ok (.iload_n 1, 1) := by decide +kernel
theorem dX2_dropWish_64 : decode cX2_dropWish 64 = .ok (.dup2, 1) := by decide +kernel
theorem dX2_dropWish_65 : decode cX2_dropWish 65 = .ok (.iaload, 1) := by decide +kernel
theorem dX2_dropWish_66 : decode cX2_dropWish 66 = .ok (.iconst 1, 1) := by decide +kernel
theorem dX2_dropWish_67 : decode cX2_dropWish 67 = .ok (.isub, 1) := by decide +kernel
theorem dX2_dropWish_68 : decode cX2_dropWish 68 = .ok (.iastore, 1) := by decide +kernel
theorem dX2_dropWish_69 : decode cX2_dropWish 69 = .ok (.return_, 1) := by decide +kernel
theorem dX2_passUnits_0 : decode cX2_passUnits 0 = .ok (.aload_n 0, 1) := by decide +kernel
theorem dX2_passUnits_1 : decode cX2_passUnits 1 = .ok (.getfield 58, 3) := by decide +kernel
theorem dX2_passUnits_4 : decode cX2_passUnits 4 = .ok (.istore_n 2, 1) := by decide +kernel
theorem dX2_passUnits_5 : decode cX2_passUnits 5 = .ok (.iconst 0, 1) := by decide +kernel
theorem dX2_passUnits_6 : decode cX2_passUnits 6 = .ok (.istore_n 3, 1) := by decide +kernel
theorem dX2_passUnits_7 : decode cX2_passUnits 7 = .ok (.iload_n 3, 1) := by decide +kernel
theorem dX2_passUnits_8 : decode cX2_passUnits 8 = .ok (.iload_n 1, 1) := by decide +kernel
theorem dX2_passUnits_9 : decode cX2_passUnits 9 = .ok (.if_icmp .ge 27, 3) := by decide +kernel
theorem dX2_passUnits_12 : decode cX2_passUnits 12 = .ok (.aload_n 0, 1) := by decide +kernel
theorem dX2_passUnits_13 : decode cX2_passUnits 13 = .ok (.invokevirtual 106, 3) := by decide +kernel
theorem dX2_passUnits_16 : decode cX2_passUnits 16 = .ok (.aload_n 0, 1) := by decide +kernel
theorem dX2_passUnits_17 : decode cX2_passUnits 17 = .ok (.dup, 1) := by decide +kernel
theorem dX2_passUnits_18 : decode cX2_passUnits 18 = .ok (.getfield 48, 3) := by decide +kernel
theorem dX2_passUnits_21 : decode cX2_passUnits 21 = .ok (.iconst 1, 1) := by decide +kernel
theorem dX2_passUnits_22 : decode cX2_passUnits 22 = .ok (.iadd, 1) := by decide +kernel
theorem dX2_passUnits_23 : decode cX2_passUnits 23 = .ok (.putfield 48, 3) := by decide +kernel
theorem dX2_passUnits_26 : decode cX2_passUnits 26 = .ok (.aload_n 0, 1) := by decide +kernel
theorem dX2_passUnits_27 : decode cX2_passUnits 27 = .ok (.invokevirtual 109, 3) := by decide +kernel
theorem dX2_passUnits_30 : decode cX2_passUnits 30 = .ok (.iinc 3 1, 3) := by decide +kernel
theorem dX2_passUnits_33 : decode cX2_passUnits 33 = .ok (.goto (-26), 3) := by decide +kernel
theorem dX2_passUnits_36 : decode cX2_passUnits 36 = .ok (.aload_n 0, 1) := by decide +kernel
theorem dX2_passUnits_37 : decode cX2_passUnits 37 = .ok (.getfield 58, 3) := by decide +kernel
theorem dX2_passUnits_40 : decode cX2_passUnits 40 = .ok (.iload_n 2, 1) := by decide +kernel
theorem dX2_passUnits_41 : decode cX2_passUnits 41 = .ok (.isub, 1) := by decide +kernel
theorem dX2_passUnits_42 : decode cX2_passUnits 42 = .ok (.ireturn, 1) := by decide +kernel
theorem dX2_leap_0 : decode cX2_leap 0 = .ok (.iload_n 1, 1) := by decide +kernel
theorem dX2_leap_1 : decode cX2_leap 1 = .ok (.iconst 1, 1) := by decide +kernel
theorem dX2_leap_2 : decode cX2_leap 2 = .ok (.iadd, 1) := by decide +kernel
theorem dX2_leap_3 : decode cX2_leap 3 = .ok (.istore_n 2, 1) := by decide +kernel
theorem dX2_leap_4 : decode cX2_leap 4 = .ok (.iconst 0, 1) := by decide +kernel
theorem dX2_leap_5 : decode cX2_leap 5 = .ok (.istore_n 3, 1) := by decide +kernel
theorem dX2_leap_6 : decode cX2_leap 6 = .ok (.iload_n 3, 1) := by decide +kernel
theorem dX2_leap_7 : decode cX2_leap 7 = .ok (.bipush 64, 2) := by decide +kernel
theorem dX2_leap_9 : decode cX2_leap 9 = .ok (.if_icmp .ge 36, 3) := by decide +kernel
theorem dX2_leap_12 : decode cX2_leap 12 = .ok (.aload_n 0, 1) := by decide +kernel
theorem dX2_leap_13 : decode cX2_leap 13 = .ok (.getfield 15, 3) := by decide +kernel
theorem dX2_leap_16 : decode cX2_leap 16 = .ok (.iload_n 3, 1) := by decide +kernel
theorem dX2_leap_17 : decode cX2_leap 17 = .ok (.iaload, 1) := by decide +kernel
theorem dX2_leap_18 : decode cX2_leap 18 = .ok (.iconst (-1), 1) := by decide +kernel
theorem dX2_leap_19 : decode cX2_leap 19 = .ok (.if_icmp .eq 20, 3) := by decide +kernel
theorem dX2_leap_22 : decode cX2_leap 22 = .ok (.aload_n 0, 1) := by decide +kernel
theorem dX2_leap_23 : decode cX2_leap 23 = .ok (.getfield 24, 3) := by decide +kernel
theorem dX2_leap_26 : decode cX2_leap 26 = .ok (.iload_n 3, 1) := by decide +kernel
theorem dX2_leap_27 : decode cX2_leap 27 = .ok (.iaload, 1) := by decide +kernel
theorem dX2_leap_28 : decode cX2_leap 28 = .ok (.iload_n 2, 1) := by decide +kernel
theorem dX2_leap_29 : decode cX2_leap 29 = .ok (.if_icmp .ge 10, 3) := by decide +kernel
theorem dX2_leap_32 : decode cX2_leap 32 = .ok (.aload_n 0, 1) := by decide +kernel
theorem dX2_leap_33 : decode cX2_leap 33 = .ok (.getfield 24, 3) := by decide +kernel
theorem dX2_leap_36 : decode cX2_leap 36 = .ok (.iload_n 3, 1) := by decide +kernel
theorem dX2_leap_37 : decode cX2_leap 37 = .ok (.iaload, 1) := by decide +kernel
theorem dX2_leap_38 : decode cX2_leap 38 = .ok (.istore_n 2, 1) := by decide +kernel
theorem dX2_leap_39 : decode cX2_leap 39 = .ok (.iinc 3 1, 3) := by decide +kernel
theorem dX2_leap_42 : decode cX2_leap 42 = .ok (.goto (-36), 3) := by decide +kernel
theorem dX2_leap_45 : decode cX2_leap 45 = .ok (.iload_n 2, 1) := by decide +kernel
theorem dX2_leap_46 : decode cX2_leap 46 = .ok (.iload_n 1, 1) := by decide +kernel
theorem dX2_leap_47 : decode cX2_leap 47 = .ok (.if_icmp .le 5, 3) := by decide +kernel
theorem dX2_leap_50 : decode cX2_leap 50 = .ok (.iconst 0, 1) := by decide +kernel
theorem dX2_leap_51 : decode cX2_leap 51 = .ok (.ireturn, 1) := by decide +kernel
theorem dX2_leap_52 : decode cX2_leap 52 = .ok (.aload_n 0, 1) := by decide +kernel
theorem dX2_leap_53 : decode cX2_leap 53 = .ok (.iload_n 2, 1) := by decide +kernel
theorem dX2_leap_54 : decode cX2_leap 54 = .ok (.putfield 48, 3) := by decide +kernel
theorem dX2_leap_57 : decode cX2_leap 57 = .ok (.aload_n 0, 1) := by decide +kernel
theorem dX2_leap_58 : decode cX2_leap 58 = .ok (.invokevirtual 109, 3) := by decide +kernel
theorem dX2_leap_61 : decode cX2_leap 61 = .ok (.iconst 1, 1) := by decide +kernel
theorem dX2_leap_62 : decode cX2_leap 62 = .ok (.ireturn, 1) := by decide +kernel
theorem dX2_countUnits_0 : decode cX2_countUnits 0 = .ok (.iconst 0, 1) := by decide +kernel
theorem dX2_countUnits_1 : decode cX2_countUnits 1 = .ok (.istore_n 1, 1) := by decide +kernel
theorem dX2_countUnits_2 : decode cX2_countUnits 2 = .ok (.iload_n 1, 1) := by decide +kernel
theorem dX2_countUnits_3 : decode cX2_countUnits 3 = .ok (.bipush 64, 2) := by decide +kernel
theorem dX2_countUnits_5 : decode cX2_countUnits 5 = .ok (.if_icmp .ge 33, 3) := by decide +kernel
theorem dX2_countUnits_8 : decode cX2_countUnits 8 = .ok (.aload_n 0, 1) := by decide +kernel
theorem dX2_countUnits_9 : decode cX2_countUnits 9 = .ok (.iload_n 1, 1) := by decide +kernel
theorem dX2_countUnits_10 : decode cX2_countUnits 10 = .ok (.invokevirtual 95, 3) := by decide +kernel
theorem dX2_countUnits_13 : decode cX2_countUnits 13 = .ok (.iconst 1, 1) := by decide +kernel
theorem dX2_countUnits_14 : decode cX2_countUnits 14 = .ok (.if_icmp .ne 18, 3) := by decide +kernel
theorem dX2_countUnits_17 : decode cX2_countUnits 17 = .ok (.aload_n 0, 1) := by decide +kernel
theorem dX2_countUnits_18 : decode cX2_countUnits 18 = .ok (.getfield 45, 3) := by decide +kernel
theorem dX2_countUnits_21 : decode cX2_countUnits 21 = .ok (.aload_n 0, 1) := by decide +kernel
theorem dX2_countUnits_22 : decode cX2_countUnits 22 = .ok (.getfield 15, 3) := by decide +kernel
theorem dX2_countUnits_25 : decode cX2_countUnits 25 = .ok (.iload_n 1, 1) := by decide +kernel
theorem dX2_countUnits_26 : decode cX2_countUnits 26 = .ok (.iaload, 1) := by decide +kernel
theorem dX2_countUnits_27 : decode cX2_countUnits 27 = .ok (.dup2, 1) := by decide +kernel
theorem dX2_countUnits_28 : decode cX2_countUnits 28 = .ok (.iaload, 1) := by decide +kernel
theorem dX2_countUnits_29 : decode cX2_countUnits 29 = .ok (.iconst 1, 1) := by decide +kernel
theorem dX2_countUnits_30 : decode cX2_countUnits 30 = .ok (.iadd, 1) := by decide +kernel
theorem dX2_countUnits_31 : decode cX2_countUnits 31 = .ok (.iastore, 1) := by decide +kernel
theorem dX2_countUnits_32 : decode cX2_countUnits 32 = .ok (.iinc 1 1, 3) := by decide +kernel
theorem dX2_countUnits_35 : decode cX2_countUnits 35 = .ok (.goto (-33), 3) := by decide +kernel
theorem dX2_countUnits_38 : decode cX2_countUnits 38 = .ok (.return_, 1) := by decide +kernel
theorem dX2_freeDue_0 : decode cX2_freeDue 0 = .ok (.iconst 0, 1) := by decide +kernel
theorem dX2_freeDue_1 : decode cX2_freeDue 1 = .ok (.istore_n 1, 1) := by decide +kernel
theorem dX2_freeDue_2 : decode cX2_freeDue 2 = .ok (.iload_n 1, 1) := by decide +kernel
theorem dX2_freeDue_3 : decode cX2_freeDue 3 = .ok (.bipush 64, 2) := by decide +kernel
theorem dX2_freeDue_5 : decode cX2_freeDue 5 = .ok (.if_icmp .ge 37, 3) := by decide +kernel
theorem dX2_freeDue_8 : decode cX2_freeDue 8 = .ok (.aload_n 0, 1) := by decide +kernel
theorem dX2_freeDue_9 : decode cX2_freeDue 9 = .ok (.getfield 15, 3) := by decide +kernel
theorem dX2_freeDue_12 : decode cX2_freeDue 12 = .ok (.iload_n 1, 1) := by decide +kernel
theorem dX2_freeDue_13 : decode cX2_freeDue 13 = .ok (.iaload, 1) := by decide +kernel
theorem dX2_freeDue_14 : decode cX2_freeDue 14 = .ok (.iconst (-1), 1) := by decide +kernel
theorem dX2_freeDue_15 : decode cX2_freeDue 15 = .ok (.if_icmp .eq 21, 3) := by decide +kernel
theorem dX2_freeDue_18 : decode cX2_freeDue 18 = .ok (.aload_n 0, 1) := by decide +kernel
theorem dX2_freeDue_19 : decode cX2_freeDue 19 = .ok (.getfield 24, 3) := by decide +kernel
theorem dX2_freeDue_22 : decode cX2_freeDue 22 = .ok (.iload_n 1, 1) := by decide +kernel
theorem dX2_freeDue_23 : decode cX2_freeDue 23 = .ok (.iaload, 1) := by decide +kernel
theorem dX2_freeDue_24 : decode cX2_freeDue 24 = .ok (.aload_n 0, 1) := by decide +kernel
theorem dX2_freeDue_25 : decode cX2_freeDue 25 = .ok (.getfield 48, 3) := by decide +kernel
theorem dX2_freeDue_28 : decode cX2_freeDue 28 = .ok (.if_icmp .ne 8, 3) := by decide +kernel
theorem dX2_freeDue_31 : decode cX2_freeDue 31 = .ok (.aload_n 0, 1) := by decide +kernel
theorem dX2_freeDue_32 : decode cX2_freeDue 32 = .ok (.iload_n 1, 1) := by decide +kernel
theorem dX2_freeDue_33 : decode cX2_freeDue 33 = .ok (.invokevirtual 98, 3) := by decide +kernel
theorem dX2_freeDue_36 : decode cX2_freeDue 36 = .ok (.iinc 1 1, 3) := by decide +kernel
theorem dX2_freeDue_39 : decode cX2_freeDue 39 = .ok (.goto (-37), 3) := by decide +kernel
theorem dX2_freeDue_42 : decode cX2_freeDue 42 = .ok (.return_, 1) := by decide +kernel
theorem dX2_stateOf_0 : decode cX2_stateOf 0 = .ok (.aload_n 0, 1) := by decide +kernel
theorem dX2_stateOf_1 : decode cX2_stateOf 1 = .ok (.getfield 15, 3) := by decide +kernel
theorem dX2_stateOf_4 : decode cX2_stateOf 4 = .ok (.iload_n 1, 1) := by decide +kernel
theorem dX2_stateOf_5 : decode cX2_stateOf 5 = .ok (.iaload, 1) := by decide +kernel
theorem dX2_stateOf_6 : decode cX2_stateOf 6 = .ok (.iconst (-1), 1) := by decide +kernel
theorem dX2_stateOf_7 : decode cX2_stateOf 7 = .ok (.if_icmp .ne 5, 3) := by decide +kernel
theorem dX2_stateOf_10 : decode cX2_stateOf 10 = .ok (.iconst 0, 1) := by decide +kernel
theorem dX2_stateOf_11 : decode cX2_stateOf 11 = .ok (.ireturn, 1) := by decide +kernel
theorem dX2_stateOf_12 : decode cX2_stateOf 12 = .ok (.aload_n 0, 1) := by decide +kernel
theorem dX2_stateOf_13 : decode cX2_stateOf 13 = .ok (.getfield 48, 3) := by decide +kernel
theorem dX2_stateOf_16 : decode cX2_stateOf 16 = .ok (.aload_n 0, 1) := by decide +kernel
theorem dX2_stateOf_17 : decode cX2_stateOf 17 = .ok (.getfield 21, 3) := by decide +kernel
theorem dX2_stateOf_20 : decode cX2_stateOf 20 = .ok (.iload_n 1, 1) := by decide +kernel
theorem dX2_stateOf_21 : decode cX2_stateOf 21 = .ok (.iaload, 1) := by decide +kernel
theorem dX2_stateOf_22 : decode cX2_stateOf 22 = .ok (.if_icmp .ge 7, 3) := by decide +kernel
theorem dX2_stateOf_25 : decode cX2_stateOf 25 = .ok (.iconst 1, 1) := by decide +kernel
theorem dX2_stateOf_26 : decode cX2_stateOf 26 = .ok (.goto 4, 3) := by decide +kernel
theorem dX2_stateOf_29 : decode cX2_stateOf 29 = .ok (.iconst 2, 1) := by decide +kernel
theorem dX2_stateOf_30 : decode cX2_stateOf 30 = .ok (.ireturn, 1) := by decide +kernel
theorem dX2_ofNumber_0 : decode cX2_ofNumber 0 = .ok (.aload_n 0, 1) := by decide +kernel
theorem dX2_ofNumber_1 : decode cX2_ofNumber 1 = .ok (.getfield 15, 3) := by decide +kernel
theorem dX2_ofNumber_4 : decode cX2_ofNumber 4 = .ok (.iload_n 1, 1) := by decide +kernel
theorem dX2_ofNumber_5 : decode cX2_ofNumber 5 = .ok (.iaload, 1) := by decide +kernel
theorem dX2_ofNumber_6 : decode cX2_ofNumber 6 = .ok (.iconst (-1), 1) := by decide +kernel
theorem dX2_ofNumber_7 : decode cX2_ofNumber 7 = .ok (.if_icmp .ne 7, 3) := by decide +kernel
theorem dX2_ofNumber_10 : decode cX2_ofNumber 10 = .ok (.iconst 1, 1) := by decide +kernel
theorem dX2_ofNumber_11 : decode cX2_ofNumber 11 = .ok (.goto 4, 3) := by decide +kernel
theorem dX2_ofNumber_14 : decode cX2_ofNumber 14 = .ok (.iconst 0, 1) := by decide +kernel
theorem dX2_ofNumber_15 : decode cX2_ofNumber 15 = .ok (.istore_n 3, 1) := by decide +kernel
theorem dX2_ofNumber_16 : decode cX2_ofNumber 16 = .ok (.aload_n 0, 1) := by decide +kernel
theorem dX2_ofNumber_17 : decode cX2_ofNumber 17 = .ok (.getfield 30, 3) := by decide +kernel
theorem dX2_ofNumber_20 : decode cX2_ofNumber 20 = .ok (.iload_n 1, 1) := by decide +kernel
theorem dX2_ofNumber_21 : decode cX2_ofNumber 21 = .ok (.iaload, 1) := by decide +kernel
theorem dX2_ofNumber_22 : decode cX2_ofNumber 22 = .ok (.ifCond .le 7, 3) := by decide +kernel
theorem dX2_ofNumber_25 : decode cX2_ofNumber 25 = .ok (.iconst 1, 1) := by decide +kernel
theorem dX2_ofNumber_26 : decode cX2_ofNumber 26 = .ok (.goto 4, 3) := by decide +kernel
theorem dX2_ofNumber_29 : decode cX2_ofNumber 29 = .ok (.iconst 0, 1) := by decide +kernel
theorem dX2_ofNumber_30 : decode cX2_ofNumber 30 = .ok (.istore 4, 2) := by decide +kernel
theorem dX2_ofNumber_32 : decode cX2_ofNumber 32 = .ok (.iload_n 2, 1) := by decide +kernel
theorem dX2_ofNumber_33 : decode cX2_ofNumber 33 = .ok (.tableswitch 148 0 7 #[47, 53, 60, 75, 90, 105, 112, 130], 47) := by decide +kernel
theorem dX2_ofNumber_80 : decode cX2_ofNumber 80 = .ok (.aload_n 0, 1) := by decide +kernel
theorem dX2_ofNumber_81 : decode cX2_ofNumber 81 = .ok (.iload_n 1, 1) := by decide +kernel
theorem dX2_ofNumber_82 : decode cX2_ofNumber 82 = .ok (.invokevirtual 95, 3) := by decide +kernel
theorem dX2_ofNumber_85 : decode cX2_ofNumber 85 = .ok (.ireturn, 1) := by decide +kernel
theorem dX2_ofNumber_86 : decode cX2_ofNumber 86 = .ok (.aload_n 0, 1) := by decide +kernel
theorem dX2_ofNumber_87 : decode cX2_ofNumber 87 = .ok (.getfield 15, 3) := by decide +kernel
theorem dX2_ofNumber_90 : decode cX2_ofNumber 90 = .ok (.iload_n 1, 1) := by decide +kernel
theorem dX2_ofNumber_91 : decode cX2_ofNumber 91 = .ok (.iaload, 1) := by decide +kernel
theorem dX2_ofNumber_92 : decode cX2_ofNumber 92 = .ok (.ireturn, 1) := by decide +kernel
theorem dX2_ofNumber_93 : decode cX2_ofNumber 93 = .ok (.iload_n 3, 1) := by decide +kernel
theorem dX2_ofNumber_94 : decode cX2_ofNumber 94 = .ok (.ifCond .eq 7, 3) := by decide +kernel
theorem dX2_ofNumber_97 : decode cX2_ofNumber 97 = .ok (.iconst (-1), 1) := by decide +kernel
theorem dX2_ofNumber_98 : decode cX2_ofNumber 98 = .ok (.goto 9, 3) := by decide +kernel
theorem dX2_ofNumber_101 : decode cX2_ofNumber 101 = .ok (.aload_n 0, 1) := by decide +kernel
theorem dX2_ofNumber_102 : decode cX2_ofNumber 102 = .ok (.getfield 18, 3) := by decide +kernel
theorem dX2_ofNumber_105 : decode cX2_ofNumber 105 = .ok (.iload_n 1, 1) := by decide +kernel
theorem dX2_ofNumber_106 : decode cX2_ofNumber 106 = .ok (.iaload, 1) := by decide +kernel
theorem dX2_ofNumber_107 : decode cX2_ofNumber 107 = .ok (.ireturn, 1) := by decide +kernel
theorem dX2_ofNumber_108 : decode cX2_ofNumber 108 = .ok (.iload_n 3, 1) := by decide +kernel
theorem dX2_ofNumber_109 : decode cX2_ofNumber 109 = .ok (.ifCond .eq 7, 3) := by decide +kernel
theorem dX2_ofNumber_112 : decode cX2_ofNumber 112 = .ok (.iconst (-1), 1) := by decide +kernel
theorem dX2_ofNumber_113 : decode cX2_ofNumber 113 = .ok (.goto 9, 3) := by decide +kernel
theorem dX2_ofNumber_116 : decode cX2_ofNumber 116 = .ok (.aload_n 0, 1) := by decide +kernel
theorem dX2_ofNumber_117 : decode cX2_ofNumber 117 = .ok (.getfield 21, 3) := by decide +kernel
theorem dX2_ofNumber_120 : decode cX2_ofNumber 120 = .ok (.iload_n 1, 1) := by decide +kernel
theorem dX2_ofNumber_121 : decode cX2_ofNumber 121 = .ok (.iaload, 1) := by decide +kernel
theorem dX2_ofNumber_122 : decode cX2_ofNumber 122 = .ok (.ireturn, 1) := by decide +kernel
theorem dX2_ofNumber_123 : decode cX2_ofNumber 123 = .ok (.iload_n 3, 1) := by decide +kernel
theorem dX2_ofNumber_124 : decode cX2_ofNumber 124 = .ok (.ifCond .eq 7, 3) := by decide +kernel
theorem dX2_ofNumber_127 : decode cX2_ofNumber 127 = .ok (.iconst (-1), 1) := by decide +kernel
theorem dX2_ofNumber_128 : decode cX2_ofNumber 128 = .ok (.goto 9, 3) := by decide +kernel
theorem dX2_ofNumber_131 : decode cX2_ofNumber 131 = .ok (.aload_n 0, 1) := by decide +kernel
theorem dX2_ofNumber_132 : decode cX2_ofNumber 132 = .ok (.getfield 24, 3) := by decide +kernel
theorem dX2_ofNumber_135 : decode cX2_ofNumber 135 = .ok (.iload_n 1, 1) := by decide +kernel
theorem dX2_ofNumber_136 : decode cX2_ofNumber 136 = .ok (.iaload, 1) := by decide +kernel
theorem dX2_ofNumber_137 : decode cX2_ofNumber 137 = .ok (.ireturn, 1) := by decide +kernel
theorem dX2_ofNumber_138 : decode cX2_ofNumber 138 = .ok (.aload_n 0, 1) := by decide +kernel
theorem dX2_ofNumber_139 : decode cX2_ofNumber 139 = .ok (.getfield 30, 3) := by decide +kernel
theorem dX2_ofNumber_142 : decode cX2_ofNumber 142 = .ok (.iload_n 1, 1) := by decide +kernel
theorem dX2_ofNumber_143 : decode cX2_ofNumber 143 = .ok (.iaload, 1) := by decide +kernel
theorem dX2_ofNumber_144 : decode cX2_ofNumber 144 = .ok (.ireturn, 1) := by decide +kernel
theorem dX2_ofNumber_145 : decode cX2_ofNumber 145 = .ok (.iload 4, 2) := by decide +kernel
theorem dX2_ofNumber_147 : decode cX2_ofNumber 147 = .ok (.ifCond .eq 14, 3) := by decide +kernel
theorem dX2_ofNumber_150 : decode cX2_ofNumber 150 = .ok (.aload_n 0, 1) := by decide +kernel
theorem dX2_ofNumber_151 : decode cX2_ofNumber 151 = .ok (.getfield 33, 3) := by decide +kernel
theorem dX2_ofNumber_154 : decode cX2_ofNumber 154 = .ok (.iload_n 1, 1) := by decide +kernel
theorem dX2_ofNumber_155 : decode cX2_ofNumber 155 = .ok (.iconst 3, 1) := by decide +kernel
theorem dX2_ofNumber_156 : decode cX2_ofNumber 156 = .ok (.imul, 1) := by decide +kernel
theorem dX2_ofNumber_157 : decode cX2_ofNumber 157 = .ok (.iaload, 1) := by decide +kernel
theorem dX2_ofNumber_158 : decode cX2_ofNumber 158 = .ok (.goto 4, 3) := by decide +kernel
theorem dX2_ofNumber_161 : decode cX2_ofNumber 161 = .ok (.iconst (-1), 1) := by decide +kernel
theorem dX2_ofNumber_162 : decode cX2_ofNumber 162 = .ok (.ireturn, 1) := by decide +kernel
theorem dX2_ofNumber_163 : decode cX2_ofNumber 163 = .ok (.iload 4, 2) := by decide +kernel
theorem dX2_ofNumber_165 : decode cX2_ofNumber 165 = .ok (.ifCond .eq 14, 3) := by decide +kernel
theorem dX2_ofNumber_168 : decode cX2_ofNumber 168 = .ok (.aload_n 0, 1) := by decide +kernel
theorem dX2_ofNumber_169 : decode cX2_ofNumber 169 = .ok (.getfield 36, 3) := by decide +kernel
theorem dX2_ofNumber_172 : decode cX2_ofNumber 172 = .ok (.iload_n 1, 1) := by decide +kernel
theorem dX2_ofNumber_173 : decode cX2_ofNumber 173 = .ok (.iconst 3, 1) := by decide +kernel
theorem dX2_ofNumber_174 : decode cX2_ofNumber 174 = .ok (.imul, 1) := by decide +kernel
theorem dX2_ofNumber_175 : decode cX2_ofNumber 175 = .ok (.iaload, 1) := by decide +kernel
theorem dX2_ofNumber_176 : decode cX2_ofNumber 176 = .ok (.goto 4, 3) := by decide +kernel
theorem dX2_ofNumber_179 : decode cX2_ofNumber 179 = .ok (.iconst (-1), 1) := by decide +kernel
theorem dX2_ofNumber_180 : decode cX2_ofNumber 180 = .ok (.ireturn, 1) := by decide +kernel
theorem dX2_ofNumber_181 : decode cX2_ofNumber 181 = .ok (.aload_n 0, 1) := by decide +kernel
theorem dX2_ofNumber_182 : decode cX2_ofNumber 182 = .ok (.getfield 27, 3) := by decide +kernel
theorem dX2_ofNumber_185 : decode cX2_ofNumber 185 = .ok (.iload_n 1, 1) := by decide +kernel
theorem dX2_ofNumber_186 : decode cX2_ofNumber 186 = .ok (.iaload, 1) := by decide +kernel
theorem dX2_ofNumber_187 : decode cX2_ofNumber 187 = .ok (.ireturn, 1) := by decide +kernel
theorem dX2_ofHolder_0 : decode cX2_ofHolder 0 = .ok (.iload_n 2, 1) := by decide +kernel
theorem dX2_ofHolder_1 : decode cX2_ofHolder 1 = .ok (.tableswitch 89 0 6 #[43, 50, 57, 63, 69, 75, 82], 43) := by decide +kernel
theorem dX2_ofHolder_44 : decode cX2_ofHolder 44 = .ok (.aload_n 0, 1) := by decide +kernel
theorem dX2_ofHolder_45 : decode cX2_ofHolder 45 = .ok (.iload_n 1, 1) := by decide +kernel
theorem dX2_ofHolder_46 : decode cX2_ofHolder 46 = .ok (.iconst 1, 1) := by decide +kernel
theorem dX2_ofHolder_47 : decode cX2_ofHolder 47 = .ok (.invokevirtual 112, 3) := by decide +kernel
theorem dX2_ofHolder_50 : decode cX2_ofHolder 50 = .ok (.ireturn, 1) := by decide +kernel
theorem dX2_ofHolder_51 : decode cX2_ofHolder 51 = .ok (.aload_n 0, 1) := by decide +kernel
theorem dX2_ofHolder_52 : decode cX2_ofHolder 52 = .ok (.iload_n 1, 1) := by decide +kernel
theorem dX2_ofHolder_53 : decode cX2_ofHolder 53 = .ok (.iconst 2, 1) := by decide +kernel
theorem dX2_ofHolder_54 : decode cX2_ofHolder 54 = .ok (.invokevirtual 112, 3) := by decide +kernel
theorem dX2_ofHolder_57 : decode cX2_ofHolder 57 = .ok (.ireturn, 1) := by decide +kernel
theorem dX2_ofHolder_58 : decode cX2_ofHolder 58 = .ok (.aload_n 0, 1) := by decide +kernel
theorem dX2_ofHolder_59 : decode cX2_ofHolder 59 = .ok (.iload_n 1, 1) := by decide +kernel
theorem dX2_ofHolder_60 : decode cX2_ofHolder 60 = .ok (.invokevirtual 115, 3) := by decide +kernel
theorem dX2_ofHolder_63 : decode cX2_ofHolder 63 = .ok (.ireturn, 1) := by decide +kernel
theorem dX2_ofHolder_64 : decode cX2_ofHolder 64 = .ok (.aload_n 0, 1) := by decide +kernel
theorem dX2_ofHolder_65 : decode cX2_ofHolder 65 = .ok (.iload_n 1, 1) := by decide +kernel
theorem dX2_ofHolder_66 : decode cX2_ofHolder 66 = .ok (.invokevirtual 118, 3) := by decide +kernel
theorem dX2_ofHolder_69 : decode cX2_ofHolder 69 = .ok (.ireturn, 1) := by decide +kernel
theorem dX2_ofHolder_70 : decode cX2_ofHolder 70 = .ok (.aload_n 0, 1) := by decide +kernel
theorem dX2_ofHolder_71 : decode cX2_ofHolder 71 = .ok (.iload_n 1, 1) := by decide +kernel
theorem dX2_ofHolder_72 : decode cX2_ofHolder 72 = .ok (.invokevirtual 121, 3) := by decide +kernel
theorem dX2_ofHolder_75 : decode cX2_ofHolder 75 = .ok (.ireturn, 1) := by decide +kernel
theorem dX2_ofHolder_76 : decode cX2_ofHolder 76 = .ok (.aload_n 0, 1) := by decide +kernel
theorem dX2_ofHolder_77 : decode cX2_ofHolder 77 = .ok (.getfield 39, 3) := by decide +kernel
theorem dX2_ofHolder_80 : decode cX2_ofHolder 80 = .ok (.iload_n 1, 1) := by decide +kernel
theorem dX2_ofHolder_81 : decode cX2_ofHolder 81 = .ok (.iaload, 1) := by decide +kernel
theorem dX2_ofHolder_82 : decode cX2_ofHolder 82 = .ok (.ireturn, 1) := by decide +kernel
theorem dX2_ofHolder_83 : decode cX2_ofHolder 83 = .ok (.aload_n 0, 1) := by decide +kernel
theorem dX2_ofHolder_84 : decode cX2_ofHolder 84 = .ok (.getfield 42, 3) := by decide +kernel
theorem dX2_ofHolder_87 : decode cX2_ofHolder 87 = .ok (.iload_n 1, 1) := by decide +kernel
theorem dX2_ofHolder_88 : decode cX2_ofHolder 88 = .ok (.iaload, 1) := by decide +kernel
theorem dX2_ofHolder_89 : decode cX2_ofHolder 89 = .ok (.ireturn, 1) := by decide +kernel
theorem dX2_ofHolder_90 : decode cX2_ofHolder 90 = .ok (.aload_n 0, 1) := by decide +kernel
theorem dX2_ofHolder_91 : decode cX2_ofHolder 91 = .ok (.getfield 45, 3) := by decide +kernel
theorem dX2_ofHolder_94 : decode cX2_ofHolder 94 = .ok (.iload_n 1, 1) := by decide +kernel
theorem dX2_ofHolder_95 : decode cX2_ofHolder 95 = .ok (.iaload, 1) := by decide +kernel
theorem dX2_ofHolder_96 : decode cX2_ofHolder 96 = .ok (.ireturn, 1) := by decide +kernel
theorem dX2_ofSpan_0 : decode cX2_ofSpan 0 = .ok (.aload_n 0, 1) := by decide +kernel
theorem dX2_ofSpan_1 : decode cX2_ofSpan 1 = .ok (.iload_n 1, 1) := by decide +kernel
theorem dX2_ofSpan_2 : decode cX2_ofSpan 2 = .ok (.invokevirtual 124, 3) := by decide +kernel
theorem dX2_ofSpan_5 : decode cX2_ofSpan 5 = .ok (.istore_n 3, 1) := by decide +kernel
theorem dX2_ofSpan_6 : decode cX2_ofSpan 6 = .ok (.iload_n 3, 1) := by decide +kernel
theorem dX2_ofSpan_7 : decode cX2_ofSpan 7 = .ok (.iconst (-1), 1) := by decide +kernel
theorem dX2_ofSpan_8 : decode cX2_ofSpan 8 = .ok (.if_icmp .eq 7, 3) := by decide +kernel
theorem dX2_ofSpan_11 : decode cX2_ofSpan 11 = .ok (.iload_n 2, 1) := by decide +kernel
theorem dX2_ofSpan_12 : decode cX2_ofSpan 12 = .ok (.ifCond .ne 5, 3) := by decide +kernel
theorem dX2_ofSpan_15 : decode cX2_ofSpan 15 = .ok (.iload_n 3, 1) := by decide +kernel
theorem dX2_ofSpan_16 : decode cX2_ofSpan 16 = .ok (.ireturn, 1) := by decide +kernel
theorem dX2_ofSpan_17 : decode cX2_ofSpan 17 = .ok (.aload_n 0, 1) := by decide +kernel
theorem dX2_ofSpan_18 : decode cX2_ofSpan 18 = .ok (.iload_n 3, 1) := by decide +kernel
theorem dX2_ofSpan_19 : decode cX2_ofSpan 19 = .ok (.invokevirtual 127, 3) := by decide +kernel
theorem dX2_ofSpan_22 : decode cX2_ofSpan 22 = .ok (.ireturn, 1) := by decide +kernel
theorem dX2_ofAll_0 : decode cX2_ofAll 0 = .ok (.iload_n 1, 1) := by decide +kernel
theorem dX2_ofAll_1 : decode cX2_ofAll 1 = .ok (.tableswitch 125 0 10 #[59, 64, 69, 75, 81, 89, 97, 102, 107, 112, 120], 59) := by decide +kernel
theorem dX2_ofAll_60 : decode cX2_ofAll 60 = .ok (.aload_n 0, 1) := by decide +kernel
theorem dX2_ofAll_61 : decode cX2_ofAll 61 = .ok (.getfield 48, 3) := by decide +kernel
theorem dX2_ofAll_64 : decode cX2_ofAll 64 = .ok (.ireturn, 1) := by decide +kernel
theorem dX2_ofAll_65 : decode cX2_ofAll 65 = .ok (.aload_n 0, 1) := by decide +kernel
theorem dX2_ofAll_66 : decode cX2_ofAll 66 = .ok (.invokevirtual 130, 3) := by decide +kernel
theorem dX2_ofAll_69 : decode cX2_ofAll 69 = .ok (.ireturn, 1) := by decide +kernel
theorem dX2_ofAll_70 : decode cX2_ofAll 70 = .ok (.aload_n 0, 1) := by decide +kernel
theorem dX2_ofAll_71 : decode cX2_ofAll 71 = .ok (.iconst 1, 1) := by decide +kernel
theorem dX2_ofAll_72 : decode cX2_ofAll 72 = .ok (.invokevirtual 134, 3) := by decide +kernel
theorem dX2_ofAll_75 : decode cX2_ofAll 75 = .ok (.ireturn, 1) := by decide +kernel
theorem dX2_ofAll_76 : decode cX2_ofAll 76 = .ok (.aload_n 0, 1) := by decide +kernel
theorem dX2_ofAll_77 : decode cX2_ofAll 77 = .ok (.iconst 2, 1) := by decide +kernel
theorem dX2_ofAll_78 : decode cX2_ofAll 78 = .ok (.invokevirtual 134, 3) := by decide +kernel
theorem dX2_ofAll_81 : decode cX2_ofAll 81 = .ok (.ireturn, 1) := by decide +kernel
theorem dX2_ofAll_82 : decode cX2_ofAll 82 = .ok (.aload_n 0, 1) := by decide +kernel
theorem dX2_ofAll_83 : decode cX2_ofAll 83 = .ok (.getfield 30, 3) := by decide +kernel
theorem dX2_ofAll_86 : decode cX2_ofAll 86 = .ok (.invokestatic 137, 3) := by decide +kernel
theorem dX2_ofAll_89 : decode cX2_ofAll 89 = .ok (.ireturn, 1) := by decide +kernel
theorem dX2_ofAll_90 : decode cX2_ofAll 90 = .ok (.aload_n 0, 1) := by decide +kernel
theorem dX2_ofAll_91 : decode cX2_ofAll 91 = .ok (.getfield 39, 3) := by decide +kernel
theorem dX2_ofAll_94 : decode cX2_ofAll 94 = .ok (.invokestatic 137, 3) := by decide +kernel
theorem dX2_ofAll_97 : decode cX2_ofAll 97 = .ok (.ireturn, 1) := by decide +kernel
theorem dX2_ofAll_98 : decode cX2_ofAll 98 = .ok (.aload_n 0, 1) := by decide +kernel
theorem dX2_ofAll_99 : decode cX2_ofAll 99 = .ok (.getfield 52, 3) := by decide +kernel
theorem dX2_ofAll_102 : decode cX2_ofAll 102 = .ok (.ireturn, 1) := by decide +kernel
theorem dX2_ofAll_103 : decode cX2_ofAll 103 = .ok (.aload_n 0, 1) := by decide +kernel
theorem dX2_ofAll_104 : decode cX2_ofAll 104 = .ok (.getfield 55, 3) := by decide +kernel
theorem dX2_ofAll_107 : decode cX2_ofAll 107 = .ok (.ireturn, 1) := by decide +kernel
theorem dX2_ofAll_108 : decode cX2_ofAll 108 = .ok (.aload_n 0, 1) := by decide +kernel
theorem dX2_ofAll_109 : decode cX2_ofAll 109 = .ok (.getfield 58, 3) := by decide +kernel
theorem dX2_ofAll_112 : decode cX2_ofAll 112 = .ok (.ireturn, 1) := by decide +kernel
theorem dX2_ofAll_113 : decode cX2_ofAll 113 = .ok (.aload_n 0, 1) := by decide +kernel
theorem dX2_ofAll_114 : decode cX2_ofAll 114 = .ok (.getfield 42, 3) := by decide +kernel
theorem dX2_ofAll_117 : decode cX2_ofAll 117 = .ok (.invokestatic 137, 3) := by decide +kernel
theorem dX2_ofAll_120 : decode cX2_ofAll 120 = .ok (.ireturn, 1) := by decide +kernel
theorem dX2_ofAll_121 : decode cX2_ofAll 121 = .ok (.aload_n 0, 1) := by decide +kernel
theorem dX2_ofAll_122 : decode cX2_ofAll 122 = .ok (.invokevirtual 141, 3) := by decide +kernel
theorem dX2_ofAll_125 : decode cX2_ofAll 125 = .ok (.ireturn, 1) := by decide +kernel
theorem dX2_ofAll_126 : decode cX2_ofAll 126 = .ok (.aload_n 0, 1) := by decide +kernel
theorem dX2_ofAll_127 : decode cX2_ofAll 127 = .ok (.invokevirtual 144, 3) := by decide +kernel
theorem dX2_ofAll_130 : decode cX2_ofAll 130 = .ok (.ireturn, 1) := by decide +kernel
theorem dX2_freeNumbers_0 : decode cX2_freeNumbers 0 = .ok (.aload_n 0, 1) := by decide +kernel
theorem dX2_freeNumbers_1 : decode cX2_freeNumbers 1 = .ok (.iconst 0, 1) := by decide +kernel
theorem dX2_freeNumbers_2 : decode cX2_freeNumbers 2 = .ok (.invokevirtual 134, 3) := by decide +kernel
theorem dX2_freeNumbers_5 : decode cX2_freeNumbers 5 = .ok (.ireturn, 1) := by decide +kernel
theorem dX2_numbersIn_0 : decode cX2_numbersIn 0 = .ok (.iconst 0, 1) := by decide +kernel
theorem dX2_numbersIn_1 : decode cX2_numbersIn 1 = .ok (.istore_n 2, 1) := by decide +kernel
theorem dX2_numbersIn_2 : decode cX2_numbersIn 2 = .ok (.iconst 0, 1) := by decide +kernel
theorem dX2_numbersIn_3 : decode cX2_numbersIn 3 = .ok (.istore_n 3, 1) := by decide +kernel
theorem dX2_numbersIn_4 : decode cX2_numbersIn 4 = .ok (.iload_n 3, 1) := by decide +kernel
theorem dX2_numbersIn_5 : decode cX2_numbersIn 5 = .ok (.aload_n 0, 1) := by decide +kernel
theorem dX2_numbersIn_6 : decode cX2_numbersIn 6 = .ok (.getfield 9, 3) := by decide +kernel
theorem dX2_numbersIn_9 : decode cX2_numbersIn 9 = .ok (.iconst 3, 1) := by decide +kernel
theorem dX2_numbersIn_10 : decode cX2_numbersIn 10 = .ok (.iaload, 1) := by decide +kernel
theorem dX2_numbersIn_11 : decode cX2_numbersIn 11 = .ok (.if_icmp .ge 21, 3) := by decide +kernel
theorem dX2_numbersIn_14 : decode cX2_numbersIn 14 = .ok (.aload_n 0, 1) := by decide +kernel
theorem dX2_numbersIn_15 : decode cX2_numbersIn 15 = .ok (.iload_n 3, 1) := by decide +kernel
theorem dX2_numbersIn_16 : decode cX2_numbersIn 16 = .ok (.invokevirtual 95, 3) := by decide +kernel
theorem dX2_numbersIn_19 : decode cX2_numbersIn 19 = .ok (.iload_n 1, 1) := by decide +kernel
theorem dX2_numbersIn_20 : decode cX2_numbersIn 20 = .ok (.if_icmp .ne 6, 3) := by decide +kernel
theorem dX2_numbersIn_23 : decode cX2_numbersIn 23 = .ok (.iinc 2 1, 3) := by decide +kernel
theorem dX2_numbersIn_26 : decode cX2_numbersIn 26 = .ok (.iinc 3 1, 3) := by decide +kernel
theorem dX2_numbersIn_29 : decode cX2_numbersIn 29 = .ok (.goto (-25), 3) := by decide +kernel
theorem dX2_numbersIn_32 : decode cX2_numbersIn 32 = .ok (.iload_n 2, 1) := by decide +kernel
theorem dX2_numbersIn_33 : decode cX2_numbersIn 33 = .ok (.ireturn, 1) := by decide +kernel
theorem dX2_numbersOf_0 : decode cX2_numbersOf 0 = .ok (.iconst 0, 1) := by decide +kernel
theorem dX2_numbersOf_1 : decode cX2_numbersOf 1 = .ok (.istore_n 2, 1) := by decide +kernel
theorem dX2_numbersOf_2 : decode cX2_numbersOf 2 = .ok (.iconst 0, 1) := by decide +kernel
theorem dX2_numbersOf_3 : decode cX2_numbersOf 3 = .ok (.istore_n 3, 1) := by decide +kernel
theorem dX2_numbersOf_4 : decode cX2_numbersOf 4 = .ok (.iload_n 3, 1) := by decide +kernel
theorem dX2_numbersOf_5 : decode cX2_numbersOf 5 = .ok (.bipush 64, 2) := by decide +kernel
theorem dX2_numbersOf_7 : decode cX2_numbersOf 7 = .ok (.if_icmp .ge 22, 3) := by decide +kernel
theorem dX2_numbersOf_10 : decode cX2_numbersOf 10 = .ok (.aload_n 0, 1) := by decide +kernel
theorem dX2_numbersOf_11 : decode cX2_numbersOf 11 = .ok (.getfield 15, 3) := by decide +kernel
theorem dX2_numbersOf_14 : decode cX2_numbersOf 14 = .ok (.iload_n 3, 1) := by decide +kernel
theorem dX2_numbersOf_15 : decode cX2_numbersOf 15 = .ok (.iaload, 1) := by decide +kernel
theorem dX2_numbersOf_16 : decode cX2_numbersOf 16 = .ok (.iload_n 1, 1) := by decide +kernel
theorem dX2_numbersOf_17 : decode cX2_numbersOf 17 = .ok (.if_icmp .ne 6, 3) := by decide +kernel
theorem dX2_numbersOf_20 : decode cX2_numbersOf 20 = .ok (.iinc 2 1, 3) := by decide +kernel
theorem dX2_numbersOf_23 : decode cX2_numbersOf 23 = .ok (.iinc 3 1, 3) := by decide +kernel
theorem dX2_numbersOf_26 : decode cX2_numbersOf 26 = .ok (.goto (-22), 3) := by decide +kernel
theorem dX2_numbersOf_29 : decode cX2_numbersOf 29 = .ok (.iload_n 2, 1) := by decide +kernel
theorem dX2_numbersOf_30 : decode cX2_numbersOf 30 = .ok (.ireturn, 1) := by decide +kernel
theorem dX2_numbersOfIn_0 : decode cX2_numbersOfIn 0 = .ok (.iconst 0, 1) := by decide +kernel
theorem dX2_numbersOfIn_1 : decode cX2_numbersOfIn 1 = .ok (.istore_n 3, 1) := by decide +kernel
theorem dX2_numbersOfIn_2 : decode cX2_numbersOfIn 2 = .ok (.iconst 0, 1) := by decide +kernel
theorem dX2_numbersOfIn_3 : decode cX2_numbersOfIn 3 = .ok (.istore 4, 2) := by decide +kernel
theorem dX2_numbersOfIn_5 : decode cX2_numbersOfIn 5 = .ok (.iload 4, 2) := by decide +kernel
theorem dX2_numbersOfIn_7 : decode cX2_numbersOfIn 7 = .ok (.bipush 64, 2) := by decide +kernel
theorem dX2_numbersOfIn_9 : decode cX2_numbersOfIn 9 = .ok (.if_icmp .ge 33, 3) := by decide +kernel
theorem dX2_numbersOfIn_12 : decode cX2_numbersOfIn 12 = .ok (.aload_n 0, 1) := by decide +kernel
theorem dX2_numbersOfIn_13 : decode cX2_numbersOfIn 13 = .ok (.getfield 15, 3) := by decide +kernel
theorem dX2_numbersOfIn_16 : decode cX2_numbersOfIn 16 = .ok (.iload 4, 2) := by decide +kernel
theorem dX2_numbersOfIn_18 : decode cX2_numbersOfIn 18 = .ok (.iaload, 1) := by decide +kernel
theorem dX2_numbersOfIn_19 : decode cX2_numbersOfIn 19 = .ok (.iload_n 1, 1) := by decide +kernel
theorem dX2_numbersOfIn_20 : decode cX2_numbersOfIn 20 = .ok (.if_icmp .ne 16, 3) := by decide +kernel
theorem dX2_numbersOfIn_23 : decode cX2_numbersOfIn 23 = .ok (.aload_n 0, 1) := by decide +kernel
theorem dX2_numbersOfIn_24 : decode cX2_numbersOfIn 24 = .ok (.iload 4, 2) := by decide +kernel
theorem dX2_numbersOfIn_26 : decode cX2_numbersOfIn 26 = .ok (.invokevirtual 95, 3) := by decide +kernel
theorem dX2_numbersOfIn_29 : decode cX2_numbersOfIn 29 = .ok (.iload_n 2, 1) := by decide +kernel
theorem dX2_numbersOfIn_30 : decode cX2_numbersOfIn 30 = .ok (.if_icmp .ne 6, 3) := by decide +kernel
theorem dX2_numbersOfIn_33 : decode cX2_numbersOfIn 33 = .ok (.iinc 3 1, 3) := by decide +kernel
theorem dX2_numbersOfIn_36 : decode cX2_numbersOfIn 36 = .ok (.iinc 4 1, 3) := by decide +kernel
theorem dX2_numbersOfIn_39 : decode cX2_numbersOfIn 39 = .ok (.goto (-34), 3) := by decide +kernel
theorem dX2_numbersOfIn_42 : decode cX2_numbersOfIn 42 = .ok (.iload_n 3, 1) := by decide +kernel
theorem dX2_numbersOfIn_43 : decode cX2_numbersOfIn 43 = .ok (.ireturn, 1) := by decide +kernel
theorem dX2_wishesOf_0 : decode cX2_wishesOf 0 = .ok (.iconst 0, 1) := by decide +kernel
theorem dX2_wishesOf_1 : decode cX2_wishesOf 1 = .ok (.istore_n 2, 1) := by decide +kernel
theorem dX2_wishesOf_2 : decode cX2_wishesOf 2 = .ok (.iconst 0, 1) := by decide +kernel
theorem dX2_wishesOf_3 : decode cX2_wishesOf 3 = .ok (.istore_n 3, 1) := by decide +kernel
theorem dX2_wishesOf_4 : decode cX2_wishesOf 4 = .ok (.iload_n 3, 1) := by decide +kernel
theorem dX2_wishesOf_5 : decode cX2_wishesOf 5 = .ok (.bipush 64, 2) := by decide +kernel
theorem dX2_wishesOf_7 : decode cX2_wishesOf 7 = .ok (.if_icmp .ge 22, 3) := by decide +kernel
theorem dX2_wishesOf_10 : decode cX2_wishesOf 10 = .ok (.aload_n 0, 1) := by decide +kernel
theorem dX2_wishesOf_11 : decode cX2_wishesOf 11 = .ok (.iload_n 1, 1) := by decide +kernel
theorem dX2_wishesOf_12 : decode cX2_wishesOf 12 = .ok (.iload_n 3, 1) := by decide +kernel
theorem dX2_wishesOf_13 : decode cX2_wishesOf 13 = .ok (.invokevirtual 85, 3) := by decide +kernel
theorem dX2_wishesOf_16 : decode cX2_wishesOf 16 = .ok (.iconst (-1), 1) := by decide +kernel
theorem dX2_wishesOf_17 : decode cX2_wishesOf 17 = .ok (.if_icmp .eq 6, 3) := by decide +kernel
theorem dX2_wishesOf_20 : decode cX2_wishesOf 20 = .ok (.iinc 2 1, 3) := by decide +kernel
theorem dX2_wishesOf_23 : decode cX2_wishesOf 23 = .ok (.iinc 3 1, 3) := by decide +kernel
theorem dX2_wishesOf_26 : decode cX2_wishesOf 26 = .ok (.goto (-22), 3) := by decide +kernel
theorem dX2_wishesOf_29 : decode cX2_wishesOf 29 = .ok (.iload_n 2, 1) := by decide +kernel
theorem dX2_wishesOf_30 : decode cX2_wishesOf 30 = .ok (.ireturn, 1) := by decide +kernel
theorem dX2_leastOf_0 : decode cX2_leastOf 0 = .ok (.iconst 0, 1) := by decide +kernel
theorem dX2_leastOf_1 : decode cX2_leastOf 1 = .ok (.istore_n 2, 1) := by decide +kernel
theorem dX2_leastOf_2 : decode cX2_leastOf 2 = .ok (.iload_n 2, 1) := by decide +kernel
theorem dX2_leastOf_3 : decode cX2_leastOf 3 = .ok (.bipush 64, 2) := by decide +kernel
theorem dX2_leastOf_5 : decode cX2_leastOf 5 = .ok (.if_icmp .ge 21, 3) := by decide +kernel
theorem dX2_leastOf_8 : decode cX2_leastOf 8 = .ok (.aload_n 0, 1) := by decide +kernel
theorem dX2_leastOf_9 : decode cX2_leastOf 9 = .ok (.getfield 15, 3) := by decide +kernel
theorem dX2_leastOf_12 : decode cX2_leastOf 12 = .ok (.iload_n 2, 1) := by decide +kernel
theorem dX2_leastOf_13 : decode cX2_leastOf 13 = .ok (.iaload, 1) := by decide +kernel
theorem dX2_leastOf_14 : decode cX2_leastOf 14 = .ok (.iload_n 1, 1) := by decide +kernel
theorem dX2_leastOf_15 : decode cX2_leastOf 15 = .ok (.if_icmp .ne 5, 3) := by decide +kernel
theorem dX2_leastOf_18 : decode cX2_leastOf 18 = .ok (.iload_n 2, 1) := by decide +kernel
theorem dX2_leastOf_19 : decode cX2_leastOf 19 = .ok (.ireturn, 1) := by decide +kernel
theorem dX2_leastOf_20 : decode cX2_leastOf 20 = .ok (.iinc 2 1, 3) := by decide +kernel
theorem dX2_leastOf_23 : decode cX2_leastOf 23 = .ok (.goto (-21), 3) := by decide +kernel
theorem dX2_leastOf_26 : decode cX2_leastOf 26 = .ok (.iconst (-1), 1) := by decide +kernel
theorem dX2_leastOf_27 : decode cX2_leastOf 27 = .ok (.ireturn, 1) := by decide +kernel
theorem dX2_leastEndOf_0 : decode cX2_leastEndOf 0 = .ok (.iconst (-1), 1) := by decide +kernel
theorem dX2_leastEndOf_1 : decode cX2_leastEndOf 1 = .ok (.istore_n 2, 1) := by decide +kernel
theorem dX2_leastEndOf_2 : decode cX2_leastEndOf 2 = .ok (.iconst 0, 1) := by decide +kernel
theorem dX2_leastEndOf_3 : decode cX2_leastEndOf 3 = .ok (.istore_n 3, 1) := by decide +kernel
theorem dX2_leastEndOf_4 : decode cX2_leastEndOf 4 = .ok (.iload_n 3, 1) := by decide +kernel
theorem dX2_leastEndOf_5 : decode cX2_leastEndOf 5 = .ok (.bipush 64, 2) := by decide +kernel
theorem dX2_leastEndOf_7 : decode cX2_leastEndOf 7 = .ok (.if_icmp .ge 50, 3) := by decide +kernel
theorem dX2_leastEndOf_10 : decode cX2_leastEndOf 10 = .ok (.aload_n 0, 1) := by decide +kernel
theorem dX2_leastEndOf_11 : decode cX2_leastEndOf 11 = .ok (.getfield 15, 3) := by decide +kernel
theorem dX2_leastEndOf_14 : decode cX2_leastEndOf 14 = .ok (.iload_n 3, 1) := by decide +kernel
theorem dX2_leastEndOf_15 : decode cX2_leastEndOf 15 = .ok (.iaload, 1) := by decide +kernel
theorem dX2_leastEndOf_16 : decode cX2_leastEndOf 16 = .ok (.iload_n 1, 1) := by decide +kernel
theorem dX2_leastEndOf_17 : decode cX2_leastEndOf 17 = .ok (.if_icmp .ne 34, 3) := by decide +kernel
theorem dX2_leastEndOf_20 : decode cX2_leastEndOf 20 = .ok (.aload_n 0, 1) := by decide +kernel
theorem dX2_leastEndOf_21 : decode cX2_leastEndOf 21 = .ok (.iload_n 3, 1) := by decide +kernel
theorem dX2_leastEndOf_22 : decode cX2_leastEndOf 22 = .ok (.invokevirtual 95, 3) := by decide +kernel
theorem dX2_leastEndOf_25 : decode cX2_leastEndOf 25 = .ok (.iconst 1, 1) := by decide +kernel
theorem dX2_leastEndOf_26 : decode cX2_leastEndOf 26 = .ok (.if_icmp .ne 25, 3) := by decide +kernel
theorem dX2_leastEndOf_29 : decode cX2_leastEndOf 29 = .ok (.iload_n 2, 1) := by decide +kernel
theorem dX2_leastEndOf_30 : decode cX2_leastEndOf 30 = .ok (.iconst (-1), 1) := by decide +kernel
theorem dX2_leastEndOf_31 : decode cX2_leastEndOf 31 = .ok (.if_icmp .eq 13, 3) := by decide +kernel
theorem dX2_leastEndOf_34 : decode cX2_leastEndOf 34 = .ok (.aload_n 0, 1) := by decide +kernel
theorem dX2_leastEndOf_35 : decode cX2_leastEndOf 35 = .ok (.getfield 21, 3) := by decide +kernel
theorem dX2_leastEndOf_38 : decode cX2_leastEndOf 38 = .ok (.iload_n 3, 1) := by decide +kernel
theorem dX2_leastEndOf_39 : decode cX2_leastEndOf 39 = .ok (.iaload, 1) := by decide +kernel
theorem dX2_leastEndOf_40 : decode cX2_leastEndOf 40 = .ok (.iload_n 2, 1) := by decide +kernel
theorem dX2_leastEndOf_41 : decode cX2_leastEndOf 41 = .ok (.if_icmp .ge 10, 3) := by decide +kernel
theorem dX2_leastEndOf_44 : decode cX2_leastEndOf 44 = .ok (.aload_n 0, 1) := by decide +kernel
theorem dX2_leastEndOf_45 : decode cX2_leastEndOf 45 = .ok (.getfield 21, 3) := by decide +kernel
theorem dX2_leastEndOf_48 : decode cX2_leastEndOf 48 = .ok (.iload_n 3, 1) := by decide +kernel
theorem dX2_leastEndOf_49 : decode cX2_leastEndOf 49 = .ok (.iaload, 1) := by decide +kernel
theorem dX2_leastEndOf_50 : decode cX2_leastEndOf 50 = .ok (.istore_n 2, 1) := by decide +kernel
theorem dX2_leastEndOf_51 : decode cX2_leastEndOf 51 = .ok (.iinc 3 1, 3) := by decide +kernel
theorem dX2_leastEndOf_54 : decode cX2_leastEndOf 54 = .ok (.goto (-50), 3) := by decide +kernel
theorem dX2_leastEndOf_57 : decode cX2_leastEndOf 57 = .ok (.iload_n 2, 1) := by decide +kernel
theorem dX2_leastEndOf_58 : decode cX2_leastEndOf 58 = .ok (.ireturn, 1) := by decide +kernel
theorem dX2_rowFrom_0 : decode cX2_rowFrom 0 = .ok (.iload_n 1, 1) := by decide +kernel
theorem dX2_rowFrom_1 : decode cX2_rowFrom 1 = .ok (.istore_n 2, 1) := by decide +kernel
theorem dX2_rowFrom_2 : decode cX2_rowFrom 2 = .ok (.iload_n 2, 1) := by decide +kernel
theorem dX2_rowFrom_3 : decode cX2_rowFrom 3 = .ok (.aload_n 0, 1) := by decide +kernel
theorem dX2_rowFrom_4 : decode cX2_rowFrom 4 = .ok (.getfield 9, 3) := by decide +kernel
theorem dX2_rowFrom_7 : decode cX2_rowFrom 7 = .ok (.iconst 3, 1) := by decide +kernel
theorem dX2_rowFrom_8 : decode cX2_rowFrom 8 = .ok (.iaload, 1) := by decide +kernel
theorem dX2_rowFrom_9 : decode cX2_rowFrom 9 = .ok (.if_icmp .ge 19, 3) := by decide +kernel
theorem dX2_rowFrom_12 : decode cX2_rowFrom 12 = .ok (.aload_n 0, 1) := by decide +kernel
theorem dX2_rowFrom_13 : decode cX2_rowFrom 13 = .ok (.getfield 15, 3) := by decide +kernel
theorem dX2_rowFrom_16 : decode cX2_rowFrom 16 = .ok (.iload_n 2, 1) := by decide +kernel
theorem dX2_rowFrom_17 : decode cX2_rowFrom 17 = .ok (.iaload, 1) := by decide +kernel
theorem dX2_rowFrom_18 : decode cX2_rowFrom 18 = .ok (.iconst (-1), 1) := by decide +kernel
theorem dX2_rowFrom_19 : decode cX2_rowFrom 19 = .ok (.if_icmp .ne 9, 3) := by decide +kernel
theorem dX2_rowFrom_22 : decode cX2_rowFrom 22 = .ok (.iinc 2 1, 3) := by decide +kernel
theorem dX2_rowFrom_25 : decode cX2_rowFrom 25 = .ok (.goto (-23), 3) := by decide +kernel
theorem dX2_rowFrom_28 : decode cX2_rowFrom 28 = .ok (.iload_n 2, 1) := by decide +kernel
theorem dX2_rowFrom_29 : decode cX2_rowFrom 29 = .ok (.iload_n 1, 1) := by decide +kernel
theorem dX2_rowFrom_30 : decode cX2_rowFrom 30 = .ok (.isub, 1) := by decide +kernel
theorem dX2_rowFrom_31 : decode cX2_rowFrom 31 = .ok (.ireturn, 1) := by decide +kernel
theorem dX2_lowestRow_0 : decode cX2_lowestRow 0 = .ok (.iconst 0, 1) := by decide +kernel
theorem dX2_lowestRow_1 : decode cX2_lowestRow 1 = .ok (.istore_n 2, 1) := by decide +kernel
theorem dX2_lowestRow_2 : decode cX2_lowestRow 2 = .ok (.iload_n 2, 1) := by decide +kernel
theorem dX2_lowestRow_3 : decode cX2_lowestRow 3 = .ok (.aload_n 0, 1) := by decide +kernel
theorem dX2_lowestRow_4 : decode cX2_lowestRow 4 = .ok (.getfield 9, 3) := by decide +kernel
theorem dX2_lowestRow_7 : decode cX2_lowestRow 7 = .ok (.iconst 3, 1) := by decide +kernel
theorem dX2_lowestRow_8 : decode cX2_lowestRow 8 = .ok (.iaload, 1) := by decide +kernel
theorem dX2_lowestRow_9 : decode cX2_lowestRow 9 = .ok (.if_icmp .ge 20, 3) := by decide +kernel
theorem dX2_lowestRow_12 : decode cX2_lowestRow 12 = .ok (.aload_n 0, 1) := by decide +kernel
theorem dX2_lowestRow_13 : decode cX2_lowestRow 13 = .ok (.iload_n 2, 1) := by decide +kernel
theorem dX2_lowestRow_14 : decode cX2_lowestRow 14 = .ok (.invokevirtual 127, 3) := by decide +kernel
theorem dX2_lowestRow_17 : decode cX2_lowestRow 17 = .ok (.iload_n 1, 1) := by decide +kernel
theorem dX2_lowestRow_18 : decode cX2_lowestRow 18 = .ok (.if_icmp .lt 5, 3) := by decide +kernel
theorem dX2_lowestRow_21 : decode cX2_lowestRow 21 = .ok (.iload_n 2, 1) := by decide +kernel
theorem dX2_lowestRow_22 : decode cX2_lowestRow 22 = .ok (.ireturn, 1) := by decide +kernel
theorem dX2_lowestRow_23 : decode cX2_lowestRow 23 = .ok (.iinc 2 1, 3) := by decide +kernel
theorem dX2_lowestRow_26 : decode cX2_lowestRow 26 = .ok (.goto (-24), 3) := by decide +kernel
theorem dX2_lowestRow_29 : decode cX2_lowestRow 29 = .ok (.iconst (-1), 1) := by decide +kernel
theorem dX2_lowestRow_30 : decode cX2_lowestRow 30 = .ok (.ireturn, 1) := by decide +kernel
theorem dX2_longestRow_0 : decode cX2_longestRow 0 = .ok (.iconst 0, 1) := by decide +kernel
theorem dX2_longestRow_1 : decode cX2_longestRow 1 = .ok (.istore_n 1, 1) := by decide +kernel
theorem dX2_longestRow_2 : decode cX2_longestRow 2 = .ok (.iconst 0, 1) := by decide +kernel
theorem dX2_longestRow_3 : decode cX2_longestRow 3 = .ok (.istore_n 2, 1) := by decide +kernel
theorem dX2_longestRow_4 : decode cX2_longestRow 4 = .ok (.iload_n 2, 1) := by decide +kernel
theorem dX2_longestRow_5 : decode cX2_longestRow 5 = .ok (.aload_n 0, 1) := by decide +kernel
theorem dX2_longestRow_6 : decode cX2_longestRow 6 = .ok (.getfield 9, 3) := by decide +kernel
theorem dX2_longestRow_9 : decode cX2_longestRow 9 = .ok (.iconst 3, 1) := by decide +kernel
theorem dX2_longestRow_10 : decode cX2_longestRow 10 = .ok (.iaload, 1) := by decide +kernel
theorem dX2_longestRow_11 : decode cX2_longestRow 11 = .ok (.if_icmp .ge 19, 3) := by decide +kernel
theorem dX2_longestRow_14 : decode cX2_longestRow 14 = .ok (.iload_n 1, 1) := by decide +kernel
theorem dX2_longestRow_15 : decode cX2_longestRow 15 = .ok (.aload_n 0, 1) := by decide +kernel
theorem dX2_longestRow_16 : decode cX2_longestRow 16 = .ok (.iload_n 2, 1) := by decide +kernel
theorem dX2_longestRow_17 : decode cX2_longestRow 17 = .ok (.invokevirtual 127, 3) := by decide +kernel
theorem dX2_longestRow_20 : decode cX2_longestRow 20 = .ok (.invokestatic 147, 3) := by decide +kernel
theorem dX2_longestRow_23 : decode cX2_longestRow 23 = .ok (.istore_n 1, 1) := by decide +kernel
theorem dX2_longestRow_24 : decode cX2_longestRow 24 = .ok (.iinc 2 1, 3) := by decide +kernel
theorem dX2_longestRow_27 : decode cX2_longestRow 27 = .ok (.goto (-23), 3) := by decide +kernel
theorem dX2_longestRow_30 : decode cX2_longestRow 30 = .ok (.iload_n 1, 1) := by decide +kernel
theorem dX2_longestRow_31 : decode cX2_longestRow 31 = .ok (.ireturn, 1) := by decide +kernel
theorem dX2_spans_0 : decode cX2_spans 0 = .ok (.iconst 0, 1) := by decide +kernel
theorem dX2_spans_1 : decode cX2_spans 1 = .ok (.istore_n 1, 1) := by decide +kernel
theorem dX2_spans_2 : decode cX2_spans 2 = .ok (.iconst 0, 1) := by decide +kernel
theorem dX2_spans_3 : decode cX2_spans 3 = .ok (.istore_n 2, 1) := by decide +kernel
theorem dX2_spans_4 : decode cX2_spans 4 = .ok (.iload_n 2, 1) := by decide +kernel
theorem dX2_spans_5 : decode cX2_spans 5 = .ok (.aload_n 0, 1) := by decide +kernel
theorem dX2_spans_6 : decode cX2_spans 6 = .ok (.getfield 9, 3) := by decide +kernel
theorem dX2_spans_9 : decode cX2_spans 9 = .ok (.iconst 3, 1) := by decide +kernel
theorem dX2_spans_10 : decode cX2_spans 10 = .ok (.iaload, 1) := by decide +kernel
theorem dX2_spans_11 : decode cX2_spans 11 = .ok (.if_icmp .ge 20, 3) := by decide +kernel
theorem dX2_spans_14 : decode cX2_spans 14 = .ok (.aload_n 0, 1) := by decide +kernel
theorem dX2_spans_15 : decode cX2_spans 15 = .ok (.iload_n 2, 1) := by decide +kernel
theorem dX2_spans_16 : decode cX2_spans 16 = .ok (.invokevirtual 150, 3) := by decide +kernel
theorem dX2_spans_19 : decode cX2_spans 19 = .ok (.ifCond .eq 6, 3) := by decide +kernel
theorem dX2_spans_22 : decode cX2_spans 22 = .ok (.iinc 1 1, 3) := by decide +kernel
theorem dX2_spans_25 : decode cX2_spans 25 = .ok (.iinc 2 1, 3) := by decide +kernel
theorem dX2_spans_28 : decode cX2_spans 28 = .ok (.goto (-24), 3) := by decide +kernel
theorem dX2_spans_31 : decode cX2_spans 31 = .ok (.iload_n 1, 1) := by decide +kernel
theorem dX2_spans_32 : decode cX2_spans 32 = .ok (.ireturn, 1) := by decide +kernel
theorem dX2_startOfSpan_0 : decode cX2_startOfSpan 0 = .ok (.iconst 0, 1) := by decide +kernel
theorem dX2_startOfSpan_1 : decode cX2_startOfSpan 1 = .ok (.istore_n 2, 1) := by decide +kernel
theorem dX2_startOfSpan_2 : decode cX2_startOfSpan 2 = .ok (.iconst 0, 1) := by decide +kernel
theorem dX2_startOfSpan_3 : decode cX2_startOfSpan 3 = .ok (.istore_n 3, 1) := by decide +kernel
theorem dX2_startOfSpan_4 : decode cX2_startOfSpan 4 = .ok (.iload_n 3, 1) := by decide +kernel
theorem dX2_startOfSpan_5 : decode cX2_startOfSpan 5 = .ok (.aload_n 0, 1) := by decide +kernel
theorem dX2_startOfSpan_6 : decode cX2_startOfSpan 6 = .ok (.getfield 9, 3) := by decide +kernel
theorem dX2_startOfSpan_9 : decode cX2_startOfSpan 9 = .ok (.iconst 3, 1) := by decide +kernel
theorem dX2_startOfSpan_10 : decode cX2_startOfSpan 10 = .ok (.iaload, 1) := by decide +kernel
theorem dX2_startOfSpan_11 : decode cX2_startOfSpan 11 = .ok (.if_icmp .ge 27, 3) := by decide +kernel
theorem dX2_startOfSpan_14 : decode cX2_startOfSpan 14 = .ok (.aload_n 0, 1) := by decide +kernel
theorem dX2_startOfSpan_15 : decode cX2_startOfSpan 15 = .ok (.iload_n 3, 1) := by decide +kernel
theorem dX2_startOfSpan_16 : decode cX2_startOfSpan 16 = .ok (.invokevirtual 150, 3) := by decide +kernel
theorem dX2_startOfSpan_19 : decode cX2_startOfSpan 19 = .ok (.ifCond .eq 13, 3) := by decide +kernel
theorem dX2_startOfSpan_22 : decode cX2_startOfSpan 22 = .ok (.iload_n 2, 1) := by decide +kernel
theorem dX2_startOfSpan_23 : decode cX2_startOfSpan 23 = .ok (.iload_n 1, 1) := by decide +kernel
theorem dX2_startOfSpan_24 : decode cX2_startOfSpan 24 = .ok (.if_icmp .ne 5, 3) := by decide +kernel
theorem dX2_startOfSpan_27 : decode cX2_startOfSpan 27 = .ok (.iload_n 3, 1) := by decide +kernel
theorem dX2_startOfSpan_28 : decode cX2_startOfSpan 28 = .ok (.ireturn, 1) := by decide +kernel
theorem dX2_startOfSpan_29 : decode cX2_startOfSpan 29 = .ok (.iinc 2 1, 3) := by decide +kernel
theorem dX2_startOfSpan_32 : decode cX2_startOfSpan 32 = .ok (.iinc 3 1, 3) := by decide +kernel
theorem dX2_startOfSpan_35 : decode cX2_startOfSpan 35 = .ok (.goto (-31), 3) := by decide +kernel
theorem dX2_startOfSpan_38 : decode cX2_startOfSpan 38 = .ok (.iconst (-1), 1) := by decide +kernel
theorem dX2_startOfSpan_39 : decode cX2_startOfSpan 39 = .ok (.ireturn, 1) := by decide +kernel
theorem dX2_startsSpan_0 : decode cX2_startsSpan 0 = .ok (.aload_n 0, 1) := by decide +kernel
theorem dX2_startsSpan_1 : decode cX2_startsSpan 1 = .ok (.getfield 15, 3) := by decide +kernel
theorem dX2_startsSpan_4 : decode cX2_startsSpan 4 = .ok (.iload_n 1, 1) := by decide +kernel
theorem dX2_startsSpan_5 : decode cX2_startsSpan 5 = .ok (.iaload, 1) := by decide +kernel
theorem dX2_startsSpan_6 : decode cX2_startsSpan 6 = .ok (.iconst (-1), 1) := by decide +kernel
theorem dX2_startsSpan_7 : decode cX2_startsSpan 7 = .ok (.if_icmp .ne 23, 3) := by decide +kernel
theorem dX2_startsSpan_10 : decode cX2_startsSpan 10 = .ok (.iload_n 1, 1) := by decide +kernel
theorem dX2_startsSpan_11 : decode cX2_startsSpan 11 = .ok (.ifCond .eq 15, 3) := by decide +kernel
theorem dX2_startsSpan_14 : decode cX2_startsSpan 14 = .ok (.aload_n 0, 1) := by decide +kernel
theorem dX2_startsSpan_15 : decode cX2_startsSpan 15 = .ok (.getfield 15, 3) := by decide +kernel
theorem dX2_startsSpan_18 : decode cX2_startsSpan 18 = .ok (.iload_n 1, 1) := by decide +kernel
theorem dX2_startsSpan_19 : decode cX2_startsSpan 19 = .ok (.iconst 1, 1) := by decide +kernel
theorem dX2_startsSpan_20 : decode cX2_startsSpan 20 = .ok (.isub, 1) := by decide +kernel
theorem dX2_startsSpan_21 : decode cX2_startsSpan 21 = .ok (.iaload, 1) := by decide +kernel
theorem dX2_startsSpan_22 : decode cX2_startsSpan 22 = .ok (.iconst (-1), 1) := by decide +kernel
theorem dX2_startsSpan_23 : decode cX2_startsSpan 23 = .ok (.if_icmp .eq 7, 3) := by decide +kernel
theorem dX2_startsSpan_26 : decode cX2_startsSpan 26 = .ok (.iconst 1, 1) := by decide +kernel
theorem dX2_startsSpan_27 : decode cX2_startsSpan 27 = .ok (.goto 4, 3) := by decide +kernel
theorem dX2_startsSpan_30 : decode cX2_startsSpan 30 = .ok (.iconst 0, 1) := by decide +kernel
theorem dX2_startsSpan_31 : decode cX2_startsSpan 31 = .ok (.ireturn, 1) := by decide +kernel
theorem dX3_init_0 : decode cX3_init 0 = .ok (.aload_n 0, 1) := by decide +kernel
theorem dX3_init_1 : decode cX3_init 1 = .ok (.invokespecial 3, 3) := by decide +kernel
theorem dX3_init_4 : decode cX3_init 4 = .ok (.aload_n 0, 1) := by decide +kernel
theorem dX3_init_5 : decode cX3_init 5 = .ok (.bipush 6, 2) := by decide +kernel
theorem dX3_init_7 : decode cX3_init 7 = .ok (.anewarray 9, 3) := by decide +kernel
theorem dX3_init_10 : decode cX3_init 10 = .ok (.putfield 11, 3) := by decide +kernel
theorem dX3_init_13 : decode cX3_init 13 = .ok (.iconst 0, 1) := by decide +kernel
theorem dX3_init_14 : decode cX3_init 14 = .ok (.istore_n 1, 1) := by decide +kernel
theorem dX3_init_15 : decode cX3_init 15 = .ok (.iload_n 1, 1) := by decide +kernel
theorem dX3_init_16 : decode cX3_init 16 = .ok (.bipush 6, 2) := by decide +kernel
theorem dX3_init_18 : decode cX3_init 18 = .ok (.if_icmp .ge 22, 3) := by decide +kernel
theorem dX3_init_21 : decode cX3_init 21 = .ok (.aload_n 0, 1) := by decide +kernel
theorem dX3_init_22 : decode cX3_init 22 = .ok (.getfield 11, 3) := by decide +kernel
theorem dX3_init_25 : decode cX3_init 25 = .ok (.iload_n 1, 1) := by decide +kernel
theorem dX3_init_26 : decode cX3_init 26 = .ok (.new 9, 3) := by decide +kernel
theorem dX3_init_29 : decode cX3_init 29 = .ok (.dup, 1) := by decide +kernel
theorem dX3_init_30 : decode cX3_init 30 = .ok (.invokespecial 17, 3) := by decide +kernel
theorem dX3_init_33 : decode cX3_init 33 = .ok (.aastore, 1) := by decide +kernel
theorem dX3_init_34 : decode cX3_init 34 = .ok (.iinc 1 1, 3) := by decide +kernel
theorem dX3_init_37 : decode cX3_init 37 = .ok (.goto (-22), 3) := by decide +kernel
theorem dX3_init_40 : decode cX3_init 40 = .ok (.return_, 1) := by decide +kernel
theorem dX3_keep_0 : decode cX3_keep 0 = .ok (.aload_n 0, 1) := by decide +kernel
theorem dX3_keep_1 : decode cX3_keep 1 = .ok (.getfield 18, 3) := by decide +kernel
theorem dX3_keep_4 : decode cX3_keep 4 = .ok (.bipush 6, 2) := by decide +kernel
theorem dX3_keep_6 : decode cX3_keep 6 = .ok (.if_icmp .ne 7, 3) := by decide +kernel
theorem dX3_keep_9 : decode cX3_keep 9 = .ok (.aload_n 0, 1) := by decide +kernel
theorem dX3_keep_10 : decode cX3_keep 10 = .ok (.invokevirtual 22, 3) := by decide +kernel
theorem dX3_keep_13 : decode cX3_keep 13 = .ok (.aload_n 0, 1) := by decide +kernel
theorem dX3_keep_14 : decode cX3_keep 14 = .ok (.getfield 11, 3) := by decide +kernel
theorem dX3_keep_17 : decode cX3_keep 17 = .ok (.aload_n 0, 1) := by decide +kernel
theorem dX3_keep_18 : decode cX3_keep 18 = .ok (.getfield 18, 3) := by decide +kernel
theorem dX3_keep_21 : decode cX3_keep 21 = .ok (.aaload, 1) := by decide +kernel
theorem dX3_keep_22 : decode cX3_keep 22 = .ok (.astore_n 2, 1) := by decide +kernel
theorem dX3_keep_23 : decode cX3_keep 23 = .ok (.aload_n 2, 1) := by decide +kernel
theorem dX3_keep_24 : decode cX3_keep 24 = .ok (.ifnull 18, 3) := by decide +kernel
theorem dX3_keep_27 : decode cX3_keep 27 = .ok (.aload_n 2, 1) := by decide +kernel
theorem dX3_keep_28 : decode cX3_keep 28 = .ok (.aload_n 1, 1) := by decide +kernel
theorem dX3_keep_29 : decode cX3_keep 29 = .ok (.invokevirtual 25, 3) := by decide +kernel
theorem dX3_keep_32 : decode cX3_keep 32 = .ok (.aload_n 0, 1) := by decide +kernel
theorem dX3_keep_33 : decode cX3_keep 33 = .ok (.dup, 1) := by decide +kernel
theorem dX3_keep_34 : decode cX3_keep 34 = .ok (.getfield 18, 3) := by decide +kernel
theorem dX3_keep_37 : decode cX3_keep 37 = .ok (.iconst 1, 1) := by decide +kernel
theorem dX3_keep_38 : decode cX3_keep 38 = .ok (.iadd, 1) := by decide +kernel
theorem dX3_keep_39 : decode cX3_keep 39 = .ok (.putfield 18, 3) := by decide +kernel
theorem dX3_keep_42 : decode cX3_keep 42 = .ok (.return_, 1) := by decide +kernel
theorem dX3_restore_0 : decode cX3_restore 0 = .ok (.aload_n 0, 1) := by decide +kernel
theorem dX3_restore_1 : decode cX3_restore 1 = .ok (.getfield 18, 3) := by decide +kernel
theorem dX3_restore_4 : decode cX3_restore 4 = .ok (.ifCond .ne 4, 3) := by decide +kernel
theorem dX3_restore_7 : decode cX3_restore 7 = .ok (.return_, 1) := by decide +kernel
theorem dX3_restore_8 : decode cX3_restore 8 = .ok (.aload_n 0, 1) := by decide +kernel
theorem dX3_restore_9 : decode cX3_restore 9 = .ok (.dup, 1) := by decide +kernel
theorem dX3_restore_10 : decode cX3_restore 10 = .ok (.getfield 18, 3) := by decide +kernel
theorem dX3_restore_13 : decode cX3_restore 13 = .ok (.iconst 1, 1) := by decide +kernel
theorem dX3_restore_14 : decode cX3_restore 14 = .ok (.isub, 1) := by decide +kernel
theorem dX3_restore_15 : decode cX3_restore 15 = .ok (.putfield 18, 3) := by decide +kernel
theorem dX3_restore_18 : decode cX3_restore 18 = .ok (.aload_n 0, 1) := by decide +kernel
theorem dX3_restore_19 : decode cX3_restore 19 = .ok (.getfield 11, 3) := by decide +kernel
end
section
theorem dX3_restore_22 : decode cX3_restore 22 = .ok (.aload_n 0, 1) := by decide +kernel
theorem dX3_restore_23 : decode cX3_restore 23 = .ok (.getfield 18, 3) := by decide +kernel
theorem dX3_restore_26 : decode cX3_restore 26 = .ok (.aaload, 1) := by decide +kernel
theorem dX3_restore_27 : decode cX3_restore 27 = .ok (.astore_n 2, 1) := by decide +kernel
theorem dX3_restore_28 : decode cX3_restore 28 = .ok (.aload_n 2, 1) := by decide +kernel
theorem dX3_restore_29 : decode cX3_restore 29 = .ok (.ifnull 8, 3) := by decide +kernel
theorem dX3_restore_32 : decode cX3_restore 32 = .ok (.aload_n 1, 1) := by decide +kernel
theorem dX3_restore_33 : decode cX3_restore 33 = .ok (.aload_n 2, 1) := by decide +kernel
theorem dX3_restore_34 : decode cX3_restore 34 = .ok (.invokevirtual 25, 3) := by decide +kernel
theorem dX3_restore_37 : decode cX3_restore 37 = .ok (.return_, 1) := by decide +kernel
theorem dX3_dropOldest_0 : decode cX3_dropOldest 0 = .ok (.aload_n 0, 1) := by decide +kernel
theorem dX3_dropOldest_1 : decode cX3_dropOldest 1 = .ok (.getfield 11, 3) := by decide +kernel
theorem dX3_dropOldest_4 : decode cX3_dropOldest 4 = .ok (.iconst 0, 1) := by decide +kernel
theorem dX3_dropOldest_5 : decode cX3_dropOldest 5 = .ok (.aaload, 1) := by decide +kernel
theorem dX3_dropOldest_6 : decode cX3_dropOldest 6 = .ok (.astore_n 1, 1) := by decide +kernel
theorem dX3_dropOldest_7 : decode cX3_dropOldest 7 = .ok (.iconst 1, 1) := by decide +kernel
theorem dX3_dropOldest_8 : decode cX3_dropOldest 8 = .ok (.istore_n 2, 1) := by decide +kernel
theorem dX3_dropOldest_9 : decode cX3_dropOldest 9 = .ok (.iload_n 2, 1) := by decide +kernel
theorem dX3_dropOldest_10 : decode cX3_dropOldest 10 = .ok (.bipush 6, 2) := by decide +kernel
theorem dX3_dropOldest_12 : decode cX3_dropOldest 12 = .ok (.if_icmp .ge 23, 3) := by decide +kernel
theorem dX3_dropOldest_15 : decode cX3_dropOldest 15 = .ok (.aload_n 0, 1) := by decide +kernel
theorem dX3_dropOldest_16 : decode cX3_dropOldest 16 = .ok (.getfield 11, 3) := by decide +kernel
theorem dX3_dropOldest_19 : decode cX3_dropOldest 19 = .ok (.iload_n 2, 1) := by decide +kernel
theorem dX3_dropOldest_20 : decode cX3_dropOldest 20 = .ok (.iconst 1, 1) := by decide +kernel
theorem dX3_dropOldest_21 : decode cX3_dropOldest 21 = .ok (.isub, 1) := by decide +kernel
theorem dX3_dropOldest_22 : decode cX3_dropOldest 22 = .ok (.aload_n 0, 1) := by decide +kernel
theorem dX3_dropOldest_23 : decode cX3_dropOldest 23 = .ok (.getfield 11, 3) := by decide +kernel
theorem dX3_dropOldest_26 : decode cX3_dropOldest 26 = .ok (.iload_n 2, 1) := by decide +kernel
theorem dX3_dropOldest_27 : decode cX3_dropOldest 27 = .ok (.aaload, 1) := by decide +kernel
theorem dX3_dropOldest_28 : decode cX3_dropOldest 28 = .ok (.aastore, 1) := by decide +kernel
theorem dX3_dropOldest_29 : decode cX3_dropOldest 29 = .ok (.iinc 2 1, 3) := by decide +kernel
theorem dX3_dropOldest_32 : decode cX3_dropOldest 32 = .ok (.goto (-23), 3) := by decide +kernel
theorem dX3_dropOldest_35 : decode cX3_dropOldest 35 = .ok (.aload_n 0, 1) := by decide +kernel
theorem dX3_dropOldest_36 : decode cX3_dropOldest 36 = .ok (.getfield 11, 3) := by decide +kernel
theorem dX3_dropOldest_39 : decode cX3_dropOldest 39 = .ok (.iconst 5, 1) := by decide +kernel
theorem dX3_dropOldest_40 : decode cX3_dropOldest 40 = .ok (.aload_n 1, 1) := by decide +kernel
theorem dX3_dropOldest_41 : decode cX3_dropOldest 41 = .ok (.aastore, 1) := by decide +kernel
theorem dX3_dropOldest_42 : decode cX3_dropOldest 42 = .ok (.aload_n 0, 1) := by decide +kernel
theorem dX3_dropOldest_43 : decode cX3_dropOldest 43 = .ok (.dup, 1) := by decide +kernel
theorem dX3_dropOldest_44 : decode cX3_dropOldest 44 = .ok (.getfield 18, 3) := by decide +kernel
theorem dX3_dropOldest_47 : decode cX3_dropOldest 47 = .ok (.iconst 1, 1) := by decide +kernel
theorem dX3_dropOldest_48 : decode cX3_dropOldest 48 = .ok (.isub, 1) := by decide +kernel
theorem dX3_dropOldest_49 : decode cX3_dropOldest 49 = .ok (.putfield 18, 3) := by decide +kernel
theorem dX3_dropOldest_52 : decode cX3_dropOldest 52 = .ok (.return_, 1) := by decide +kernel
theorem dX4_init_0 : decode cX4_init 0 = .ok (.aload_n 0, 1) := by decide +kernel
theorem dX4_init_1 : decode cX4_init 1 = .ok (.invokespecial 1, 3) := by decide +kernel
theorem dX4_init_4 : decode cX4_init 4 = .ok (.aload_n 0, 1) := by decide +kernel
theorem dX4_init_5 : decode cX4_init 5 = .ok (.new 7, 3) := by decide +kernel
theorem dX4_init_8 : decode cX4_init 8 = .ok (.dup, 1) := by decide +kernel
theorem dX4_init_9 : decode cX4_init 9 = .ok (.invokespecial 9, 3) := by decide +kernel
theorem dX4_init_12 : decode cX4_init 12 = .ok (.putfield 10, 3) := by decide +kernel
theorem dX4_init_15 : decode cX4_init 15 = .ok (.aload_n 0, 1) := by decide +kernel
theorem dX4_init_16 : decode cX4_init 16 = .ok (.new 7, 3) := by decide +kernel
theorem dX4_init_19 : decode cX4_init 19 = .ok (.dup, 1) := by decide +kernel
theorem dX4_init_20 : decode cX4_init 20 = .ok (.invokespecial 9, 3) := by decide +kernel
theorem dX4_init_23 : decode cX4_init 23 = .ok (.putfield 16, 3) := by decide +kernel
theorem dX4_init_26 : decode cX4_init 26 = .ok (.aload_n 0, 1) := by decide +kernel
theorem dX4_init_27 : decode cX4_init 27 = .ok (.new 19, 3) := by decide +kernel
theorem dX4_init_30 : decode cX4_init 30 = .ok (.dup, 1) := by decide +kernel
theorem dX4_init_31 : decode cX4_init 31 = .ok (.invokespecial 21, 3) := by decide +kernel
theorem dX4_init_34 : decode cX4_init 34 = .ok (.putfield 22, 3) := by decide +kernel
theorem dX4_init_37 : decode cX4_init 37 = .ok (.aload_n 0, 1) := by decide +kernel
theorem dX4_init_38 : decode cX4_init 38 = .ok (.new 26, 3) := by decide +kernel
theorem dX4_init_41 : decode cX4_init 41 = .ok (.dup, 1) := by decide +kernel
theorem dX4_init_42 : decode cX4_init 42 = .ok (.invokespecial 28, 3) := by decide +kernel
theorem dX4_init_45 : decode cX4_init 45 = .ok (.putfield 29, 3) := by decide +kernel
theorem dX4_init_48 : decode cX4_init 48 = .ok (.return_, 1) := by decide +kernel
theorem dX4_take_0 : decode cX4_take 0 = .ok (.aload_n 0, 1) := by decide +kernel
theorem dX4_take_1 : decode cX4_take 1 = .ok (.iload_n 1, 1) := by decide +kernel
theorem dX4_take_2 : decode cX4_take 2 = .ok (.iconst 1, 1) := by decide +kernel
theorem dX4_take_3 : decode cX4_take 3 = .ok (.iload_n 2, 1) := by decide +kernel
theorem dX4_take_4 : decode cX4_take 4 = .ok (.invokevirtual 33, 3) := by decide +kernel
theorem dX4_take_7 : decode cX4_take 7 = .ok (.ireturn, 1) := by decide +kernel
theorem dX4_takeSpan_0 : decode cX4_takeSpan 0 = .ok (.aload_n 0, 1) := by decide +kernel
theorem dX4_takeSpan_1 : decode cX4_takeSpan 1 = .ok (.iload_n 1, 1) := by decide +kernel
theorem dX4_takeSpan_2 : decode cX4_takeSpan 2 = .ok (.iload_n 2, 1) := by decide +kernel
theorem dX4_takeSpan_3 : decode cX4_takeSpan 3 = .ok (.iload_n 3, 1) := by decide +kernel
theorem dX4_takeSpan_4 : decode cX4_takeSpan 4 = .ok (.invokevirtual 33, 3) := by decide +kernel
theorem dX4_takeSpan_7 : decode cX4_takeSpan 7 = .ok (.ireturn, 1) := by decide +kernel
theorem dX4_wish_0 : decode cX4_wish 0 = .ok (.iload_n 1, 1) := by decide +kernel
theorem dX4_wish_1 : decode cX4_wish 1 = .ok (.invokestatic 37, 3) := by decide +kernel
theorem dX4_wish_4 : decode cX4_wish 4 = .ok (.aload_n 0, 1) := by decide +kernel
theorem dX4_wish_5 : decode cX4_wish 5 = .ok (.iload_n 2, 1) := by decide +kernel
theorem dX4_wish_6 : decode cX4_wish 6 = .ok (.invokevirtual 41, 3) := by decide +kernel
theorem dX4_wish_9 : decode cX4_wish 9 = .ok (.iload_n 3, 1) := by decide +kernel
theorem dX4_wish_10 : decode cX4_wish 10 = .ok (.iconst 1, 1) := by decide +kernel
theorem dX4_wish_11 : decode cX4_wish 11 = .ok (.sipush 999, 3) := by decide +kernel
theorem dX4_wish_14 : decode cX4_wish 14 = .ok (.invokestatic 44, 3) := by decide +kernel
theorem dX4_wish_17 : decode cX4_wish 17 = .ok (.aload_n 0, 1) := by decide +kernel
theorem dX4_wish_18 : decode cX4_wish 18 = .ok (.getfield 10, 3) := by decide +kernel
theorem dX4_wish_21 : decode cX4_wish 21 = .ok (.iload_n 1, 1) := by decide +kernel
theorem dX4_wish_22 : decode cX4_wish 22 = .ok (.iload_n 2, 1) := by decide +kernel
theorem dX4_wish_23 : decode cX4_wish 23 = .ok (.invokevirtual 48, 3) := by decide +kernel
theorem dX4_wish_26 : decode cX4_wish 26 = .ok (.invokestatic 52, 3) := by decide +kernel
theorem dX4_wish_29 : decode cX4_wish 29 = .ok (.aload_n 0, 1) := by decide +kernel
theorem dX4_wish_30 : decode cX4_wish 30 = .ok (.getfield 22, 3) := by decide +kernel
theorem dX4_wish_33 : decode cX4_wish 33 = .ok (.aload_n 0, 1) := by decide +kernel
theorem dX4_wish_34 : decode cX4_wish 34 = .ok (.getfield 10, 3) := by decide +kernel
theorem dX4_wish_37 : decode cX4_wish 37 = .ok (.invokevirtual 56, 3) := by decide +kernel
theorem dX4_wish_40 : decode cX4_wish 40 = .ok (.aload_n 0, 1) := by decide +kernel
theorem dX4_wish_41 : decode cX4_wish 41 = .ok (.getfield 10, 3) := by decide +kernel
theorem dX4_wish_44 : decode cX4_wish 44 = .ok (.iload_n 1, 1) := by decide +kernel
theorem dX4_wish_45 : decode cX4_wish 45 = .ok (.iload_n 2, 1) := by decide +kernel
theorem dX4_wish_46 : decode cX4_wish 46 = .ok (.iload_n 3, 1) := by decide +kernel
theorem dX4_wish_47 : decode cX4_wish 47 = .ok (.invokevirtual 60, 3) := by decide +kernel
theorem dX4_wish_50 : decode cX4_wish 50 = .ok (.ireturn, 1) := by decide +kernel
theorem dX4_unwish_0 : decode cX4_unwish 0 = .ok (.iload_n 1, 1) := by decide +kernel
theorem dX4_unwish_1 : decode cX4_unwish 1 = .ok (.invokestatic 37, 3) := by decide +kernel
theorem dX4_unwish_4 : decode cX4_unwish 4 = .ok (.aload_n 0, 1) := by decide +kernel
theorem dX4_unwish_5 : decode cX4_unwish 5 = .ok (.iload_n 2, 1) := by decide +kernel
theorem dX4_unwish_6 : decode cX4_unwish 6 = .ok (.invokevirtual 41, 3) := by decide +kernel
theorem dX4_unwish_9 : decode cX4_unwish 9 = .ok (.aload_n 0, 1) := by decide +kernel
theorem dX4_unwish_10 : decode cX4_unwish 10 = .ok (.getfield 10, 3) := by decide +kernel
theorem dX4_unwish_13 : decode cX4_unwish 13 = .ok (.iload_n 1, 1) := by decide +kernel
theorem dX4_unwish_14 : decode cX4_unwish 14 = .ok (.iload_n 2, 1) := by decide +kernel
theorem dX4_unwish_15 : decode cX4_unwish 15 = .ok (.invokevirtual 63, 3) := by decide +kernel
theorem dX4_unwish_18 : decode cX4_unwish 18 = .ok (.istore_n 3, 1) := by decide +kernel
theorem dX4_unwish_19 : decode cX4_unwish 19 = .ok (.iload_n 3, 1) := by decide +kernel
theorem dX4_unwish_20 : decode cX4_unwish 20 = .ok (.iconst (-1), 1) := by decide +kernel
theorem dX4_unwish_21 : decode cX4_unwish 21 = .ok (.if_icmp .eq 7, 3) := by decide +kernel
theorem dX4_unwish_24 : decode cX4_unwish 24 = .ok (.iconst 1, 1) := by decide +kernel
theorem dX4_unwish_25 : decode cX4_unwish 25 = .ok (.goto 4, 3) := by decide +kernel
theorem dX4_unwish_28 : decode cX4_unwish 28 = .ok (.iconst 0, 1) := by decide +kernel
theorem dX4_unwish_29 : decode cX4_unwish 29 = .ok (.invokestatic 52, 3) := by decide +kernel
theorem dX4_unwish_32 : decode cX4_unwish 32 = .ok (.aload_n 0, 1) := by decide +kernel
theorem dX4_unwish_33 : decode cX4_unwish 33 = .ok (.getfield 22, 3) := by decide +kernel
theorem dX4_unwish_36 : decode cX4_unwish 36 = .ok (.aload_n 0, 1) := by decide +kernel
theorem dX4_unwish_37 : decode cX4_unwish 37 = .ok (.getfield 10, 3) := by decide +kernel
theorem dX4_unwish_40 : decode cX4_unwish 40 = .ok (.invokevirtual 56, 3) := by decide +kernel
theorem dX4_unwish_43 : decode cX4_unwish 43 = .ok (.aload_n 0, 1) := by decide +kernel
theorem dX4_unwish_44 : decode cX4_unwish 44 = .ok (.getfield 10, 3) := by decide +kernel
theorem dX4_unwish_47 : decode cX4_unwish 47 = .ok (.iload_n 2, 1) := by decide +kernel
theorem dX4_unwish_48 : decode cX4_unwish 48 = .ok (.iload_n 3, 1) := by decide +kernel
theorem dX4_unwish_49 : decode cX4_unwish 49 = .ok (.invokevirtual 67, 3) := by decide +kernel
theorem dX4_unwish_52 : decode cX4_unwish 52 = .ok (.aload_n 0, 1) := by decide +kernel
theorem dX4_unwish_53 : decode cX4_unwish 53 = .ok (.getfield 10, 3) := by decide +kernel
theorem dX4_unwish_56 : decode cX4_unwish 56 = .ok (.getfield 71, 3) := by decide +kernel
theorem dX4_unwish_59 : decode cX4_unwish 59 = .ok (.iload_n 2, 1) := by decide +kernel
theorem dX4_unwish_60 : decode cX4_unwish 60 = .ok (.iaload, 1) := by decide +kernel
theorem dX4_unwish_61 : decode cX4_unwish 61 = .ok (.ireturn, 1) := by decide +kernel
theorem dX4_renew_0 : decode cX4_renew 0 = .ok (.iload_n 1, 1) := by decide +kernel
theorem dX4_renew_1 : decode cX4_renew 1 = .ok (.invokestatic 37, 3) := by decide +kernel
theorem dX4_renew_4 : decode cX4_renew 4 = .ok (.aload_n 0, 1) := by decide +kernel
theorem dX4_renew_5 : decode cX4_renew 5 = .ok (.iload_n 2, 1) := by decide +kernel
theorem dX4_renew_6 : decode cX4_renew 6 = .ok (.invokevirtual 41, 3) := by decide +kernel
theorem dX4_renew_9 : decode cX4_renew 9 = .ok (.iload_n 3, 1) := by decide +kernel
theorem dX4_renew_10 : decode cX4_renew 10 = .ok (.iconst 1, 1) := by decide +kernel
theorem dX4_renew_11 : decode cX4_renew 11 = .ok (.sipush 999, 3) := by decide +kernel
theorem dX4_renew_14 : decode cX4_renew 14 = .ok (.invokestatic 44, 3) := by decide +kernel
theorem dX4_renew_17 : decode cX4_renew 17 = .ok (.aload_n 0, 1) := by decide +kernel
theorem dX4_renew_18 : decode cX4_renew 18 = .ok (.getfield 10, 3) := by decide +kernel
theorem dX4_renew_21 : decode cX4_renew 21 = .ok (.iload_n 1, 1) := by decide +kernel
theorem dX4_renew_22 : decode cX4_renew 22 = .ok (.iload_n 2, 1) := by decide +kernel
theorem dX4_renew_23 : decode cX4_renew 23 = .ok (.invokevirtual 75, 3) := by decide +kernel
theorem dX4_renew_26 : decode cX4_renew 26 = .ok (.invokestatic 52, 3) := by decide +kernel
theorem dX4_renew_29 : decode cX4_renew 29 = .ok (.aload_n 0, 1) := by decide +kernel
theorem dX4_renew_30 : decode cX4_renew 30 = .ok (.getfield 22, 3) := by decide +kernel
theorem dX4_renew_33 : decode cX4_renew 33 = .ok (.aload_n 0, 1) := by decide +kernel
theorem dX4_renew_34 : decode cX4_renew 34 = .ok (.getfield 10, 3) := by decide +kernel
theorem dX4_renew_37 : decode cX4_renew 37 = .ok (.invokevirtual 56, 3) := by decide +kernel
theorem dX4_renew_40 : decode cX4_renew 40 = .ok (.aload_n 0, 1) := by decide +kernel
theorem dX4_renew_41 : decode cX4_renew 41 = .ok (.getfield 10, 3) := by decide +kernel
theorem dX4_renew_44 : decode cX4_renew 44 = .ok (.iload_n 2, 1) := by decide +kernel
theorem dX4_renew_45 : decode cX4_renew 45 = .ok (.iload_n 3, 1) := by decide +kernel
theorem dX4_renew_46 : decode cX4_renew 46 = .ok (.invokevirtual 78, 3) := by decide +kernel
theorem dX4_renew_49 : decode cX4_renew 49 = .ok (.ireturn, 1) := by decide +kernel
theorem dX4_giveBack_0 : decode cX4_giveBack 0 = .ok (.iload_n 1, 1) := by decide +kernel
theorem dX4_giveBack_1 : decode cX4_giveBack 1 = .ok (.invokestatic 37, 3) := by decide +kernel
theorem dX4_giveBack_4 : decode cX4_giveBack 4 = .ok (.aload_n 0, 1) := by decide +kernel
theorem dX4_giveBack_5 : decode cX4_giveBack 5 = .ok (.iload_n 2, 1) := by decide +kernel
theorem dX4_giveBack_6 : decode cX4_giveBack 6 = .ok (.invokevirtual 41, 3) := by decide +kernel
theorem dX4_giveBack_9 : decode cX4_giveBack 9 = .ok (.aload_n 0, 1) := by decide +kernel
theorem dX4_giveBack_10 : decode cX4_giveBack 10 = .ok (.iload_n 3, 1) := by decide +kernel
theorem dX4_giveBack_11 : decode cX4_giveBack 11 = .ok (.invokevirtual 41, 3) := by decide +kernel
theorem dX4_giveBack_14 : decode cX4_giveBack 14 = .ok (.iload_n 3, 1) := by decide +kernel
theorem dX4_giveBack_15 : decode cX4_giveBack 15 = .ok (.iload_n 2, 1) := by decide +kernel
theorem dX4_giveBack_16 : decode cX4_giveBack 16 = .ok (.bipush 64, 2) := by decide +kernel
theorem dX4_giveBack_18 : decode cX4_giveBack 18 = .ok (.invokestatic 44, 3) := by decide +kernel
theorem dX4_giveBack_21 : decode cX4_giveBack 21 = .ok (.aload_n 0, 1) := by decide +kernel
theorem dX4_giveBack_22 : decode cX4_giveBack 22 = .ok (.getfield 22, 3) := by decide +kernel
theorem dX4_giveBack_25 : decode cX4_giveBack 25 = .ok (.aload_n 0, 1) := by decide +kernel
theorem dX4_giveBack_26 : decode cX4_giveBack 26 = .ok (.getfield 10, 3) := by decide +kernel
theorem dX4_giveBack_29 : decode cX4_giveBack 29 = .ok (.invokevirtual 56, 3) := by decide +kernel
theorem dX4_giveBack_32 : decode cX4_giveBack 32 = .ok (.aload_n 0, 1) := by decide +kernel
theorem dX4_giveBack_33 : decode cX4_giveBack 33 = .ok (.getfield 10, 3) := by decide +kernel
theorem dX4_giveBack_36 : decode cX4_giveBack 36 = .ok (.iload_n 1, 1) := by decide +kernel
theorem dX4_giveBack_37 : decode cX4_giveBack 37 = .ok (.iload_n 2, 1) := by decide +kernel
theorem dX4_giveBack_38 : decode cX4_giveBack 38 = .ok (.iload_n 3, 1) := by decide +kernel
theorem dX4_giveBack_39 : decode cX4_giveBack 39 = .ok (.invokevirtual 81, 3) := by decide +kernel
theorem dX4_giveBack_42 : decode cX4_giveBack 42 = .ok (.ireturn, 1) := by decide +kernel
theorem dX4_pass_0 : decode cX4_pass 0 = .ok (.iload_n 1, 1) := by decide +kernel
theorem dX4_pass_1 : decode cX4_pass 1 = .ok (.iconst 1, 1) := by decide +kernel
theorem dX4_pass_2 : decode cX4_pass 2 = .ok (.bipush 99, 2) := by decide +kernel
theorem dX4_pass_4 : decode cX4_pass 4 = .ok (.invokestatic 44, 3) := by decide +kernel
theorem dX4_pass_7 : decode cX4_pass 7 = .ok (.aload_n 0, 1) := by decide +kernel
theorem dX4_pass_8 : decode cX4_pass 8 = .ok (.getfield 10, 3) := by decide +kernel
theorem dX4_pass_11 : decode cX4_pass 11 = .ok (.iload_n 1, 1) := by decide +kernel
theorem dX4_pass_12 : decode cX4_pass 12 = .ok (.invokevirtual 84, 3) := by decide +kernel
theorem dX4_pass_15 : decode cX4_pass 15 = .ok (.invokestatic 52, 3) := by decide +kernel
theorem dX4_pass_18 : decode cX4_pass 18 = .ok (.aload_n 0, 1) := by decide +kernel
theorem dX4_pass_19 : decode cX4_pass 19 = .ok (.getfield 22, 3) := by decide +kernel
theorem dX4_pass_22 : decode cX4_pass 22 = .ok (.aload_n 0, 1) := by decide +kernel
theorem dX4_pass_23 : decode cX4_pass 23 = .ok (.getfield 10, 3) := by decide +kernel
theorem dX4_pass_26 : decode cX4_pass 26 = .ok (.invokevirtual 56, 3) := by decide +kernel
theorem dX4_pass_29 : decode cX4_pass 29 = .ok (.aload_n 0, 1) := by decide +kernel
theorem dX4_pass_30 : decode cX4_pass 30 = .ok (.getfield 10, 3) := by decide +kernel
theorem dX4_pass_33 : decode cX4_pass 33 = .ok (.iload_n 1, 1) := by decide +kernel
theorem dX4_pass_34 : decode cX4_pass 34 = .ok (.invokevirtual 88, 3) := by decide +kernel
theorem dX4_pass_37 : decode cX4_pass 37 = .ok (.ireturn, 1) := by decide +kernel
theorem dX4_set_0 : decode cX4_set 0 = .ok (.iload_n 1, 1) := by decide +kernel
theorem dX4_set_1 : decode cX4_set 1 = .ok (.invokestatic 92, 3) := by decide +kernel
theorem dX4_set_4 : decode cX4_set 4 = .ok (.iload_n 2, 1) := by decide +kernel
theorem dX4_set_5 : decode cX4_set 5 = .ok (.getstatic 95, 3) := by decide +kernel
theorem dX4_set_8 : decode cX4_set 8 = .ok (.iload_n 1, 1) := by decide +kernel
theorem dX4_set_9 : decode cX4_set 9 = .ok (.iaload, 1) := by decide +kernel
theorem dX4_set_10 : decode cX4_set 10 = .ok (.getstatic 98, 3) := by decide +kernel
theorem dX4_set_13 : decode cX4_set 13 = .ok (.iload_n 1, 1) := by decide +kernel
theorem dX4_set_14 : decode cX4_set 14 = .ok (.iaload, 1) := by decide +kernel
theorem dX4_set_15 : decode cX4_set 15 = .ok (.invokestatic 44, 3) := by decide +kernel
theorem dX4_set_18 : decode cX4_set 18 = .ok (.iload_n 1, 1) := by decide +kernel
theorem dX4_set_19 : decode cX4_set 19 = .ok (.iconst 3, 1) := by decide +kernel
theorem dX4_set_20 : decode cX4_set 20 = .ok (.if_icmp .ne 14, 3) := by decide +kernel
theorem dX4_set_23 : decode cX4_set 23 = .ok (.aload_n 0, 1) := by decide +kernel
theorem dX4_set_24 : decode cX4_set 24 = .ok (.getfield 10, 3) := by decide +kernel
theorem dX4_set_27 : decode cX4_set 27 = .ok (.iload_n 2, 1) := by decide +kernel
theorem dX4_set_28 : decode cX4_set 28 = .ok (.invokevirtual 101, 3) := by decide +kernel
theorem dX4_set_31 : decode cX4_set 31 = .ok (.ifCond .eq 7, 3) := by decide +kernel
theorem dX4_set_34 : decode cX4_set 34 = .ok (.iconst 1, 1) := by decide +kernel
theorem dX4_set_35 : decode cX4_set 35 = .ok (.goto 4, 3) := by decide +kernel
theorem dX4_set_38 : decode cX4_set 38 = .ok (.iconst 0, 1) := by decide +kernel
theorem dX4_set_39 : decode cX4_set 39 = .ok (.invokestatic 52, 3) := by decide +kernel
theorem dX4_set_42 : decode cX4_set 42 = .ok (.aload_n 0, 1) := by decide +kernel
theorem dX4_set_43 : decode cX4_set 43 = .ok (.getfield 22, 3) := by decide +kernel
theorem dX4_set_46 : decode cX4_set 46 = .ok (.aload_n 0, 1) := by decide +kernel
theorem dX4_set_47 : decode cX4_set 47 = .ok (.getfield 10, 3) := by decide +kernel
theorem dX4_set_50 : decode cX4_set 50 = .ok (.invokevirtual 56, 3) := by decide +kernel
theorem dX4_set_53 : decode cX4_set 53 = .ok (.aload_n 0, 1) := by decide +kernel
theorem dX4_set_54 : decode cX4_set 54 = .ok (.getfield 10, 3) := by decide +kernel
theorem dX4_set_57 : decode cX4_set 57 = .ok (.getfield 104, 3) := by decide +kernel
theorem dX4_set_60 : decode cX4_set 60 = .ok (.iload_n 1, 1) := by decide +kernel
theorem dX4_set_61 : decode cX4_set 61 = .ok (.iaload, 1) := by decide +kernel
theorem dX4_set_62 : decode cX4_set 62 = .ok (.istore_n 3, 1) := by decide +kernel
theorem dX4_set_63 : decode cX4_set 63 = .ok (.aload_n 0, 1) := by decide +kernel
theorem dX4_set_64 : decode cX4_set 64 = .ok (.getfield 10, 3) := by decide +kernel
theorem dX4_set_67 : decode cX4_set 67 = .ok (.getfield 104, 3) := by decide +kernel
theorem dX4_set_70 : decode cX4_set 70 = .ok (.iload_n 1, 1) := by decide +kernel
theorem dX4_set_71 : decode cX4_set 71 = .ok (.iload_n 2, 1) := by decide +kernel
theorem dX4_set_72 : decode cX4_set 72 = .ok (.iastore, 1) := by decide +kernel
theorem dX4_set_73 : decode cX4_set 73 = .ok (.iload_n 3, 1) := by decide +kernel
theorem dX4_set_74 : decode cX4_set 74 = .ok (.ireturn, 1) := by decide +kernel
theorem dX4_append_0 : decode cX4_append 0 = .ok (.iload_n 1, 1) := by decide +kernel
theorem dX4_append_1 : decode cX4_append 1 = .ok (.bipush 33, 2) := by decide +kernel
theorem dX4_append_3 : decode cX4_append 3 = .ok (.bipush 126, 2) := by decide +kernel
theorem dX4_append_5 : decode cX4_append 5 = .ok (.invokestatic 44, 3) := by decide +kernel
theorem dX4_append_8 : decode cX4_append 8 = .ok (.aload_n 0, 1) := by decide +kernel
theorem dX4_append_9 : decode cX4_append 9 = .ok (.getfield 29, 3) := by decide +kernel
theorem dX4_append_12 : decode cX4_append 12 = .ok (.getfield 107, 3) := by decide +kernel
theorem dX4_append_15 : decode cX4_append 15 = .ok (.bipush 60, 2) := by decide +kernel
theorem dX4_append_17 : decode cX4_append 17 = .ok (.if_icmp .ge 7, 3) := by decide +kernel
theorem dX4_append_20 : decode cX4_append 20 = .ok (.iconst 1, 1) := by decide +kernel
theorem dX4_append_21 : decode cX4_append 21 = .ok (.goto 4, 3) := by decide +kernel
theorem dX4_append_24 : decode cX4_append 24 = .ok (.iconst 0, 1) := by decide +kernel
theorem dX4_append_25 : decode cX4_append 25 = .ok (.invokestatic 52, 3) := by decide +kernel
theorem dX4_append_28 : decode cX4_append 28 = .ok (.aload_n 0, 1) := by decide +kernel
theorem dX4_append_29 : decode cX4_append 29 = .ok (.getfield 29, 3) := by decide +kernel
theorem dX4_append_32 : decode cX4_append 32 = .ok (.iload_n 1, 1) := by decide +kernel
theorem dX4_append_33 : decode cX4_append 33 = .ok (.invokevirtual 111, 3) := by decide +kernel
theorem dX4_append_36 : decode cX4_append 36 = .ok (.aload_n 0, 1) := by decide +kernel
theorem dX4_append_37 : decode cX4_append 37 = .ok (.getfield 29, 3) := by decide +kernel
theorem dX4_append_40 : decode cX4_append 40 = .ok (.getfield 107, 3) := by decide +kernel
theorem dX4_append_43 : decode cX4_append 43 = .ok (.ireturn, 1) := by decide +kernel
theorem dX4_clearBuffer_0 : decode cX4_clearBuffer 0 = .ok (.aload_n 0, 1) := by decide +kernel
theorem dX4_clearBuffer_1 : decode cX4_clearBuffer 1 = .ok (.getfield 29, 3) := by decide +kernel
theorem dX4_clearBuffer_4 : decode cX4_clearBuffer 4 = .ok (.getfield 107, 3) := by decide +kernel
theorem dX4_clearBuffer_7 : decode cX4_clearBuffer 7 = .ok (.istore_n 1, 1) := by decide +kernel
theorem dX4_clearBuffer_8 : decode cX4_clearBuffer 8 = .ok (.aload_n 0, 1) := by decide +kernel
theorem dX4_clearBuffer_9 : decode cX4_clearBuffer 9 = .ok (.getfield 29, 3) := by decide +kernel
theorem dX4_clearBuffer_12 : decode cX4_clearBuffer 12 = .ok (.iconst 0, 1) := by decide +kernel
theorem dX4_clearBuffer_13 : decode cX4_clearBuffer 13 = .ok (.putfield 107, 3) := by decide +kernel
theorem dX4_clearBuffer_16 : decode cX4_clearBuffer 16 = .ok (.iload_n 1, 1) := by decide +kernel
theorem dX4_clearBuffer_17 : decode cX4_clearBuffer 17 = .ok (.ireturn, 1) := by decide +kernel
theorem dX4_firstError_0 : decode cX4_firstError 0 = .ok (.aload_n 0, 1) := by decide +kernel
theorem dX4_firstError_1 : decode cX4_firstError 1 = .ok (.getfield 29, 3) := by decide +kernel
theorem dX4_firstError_4 : decode cX4_firstError 4 = .ok (.invokevirtual 114, 3) := by decide +kernel
theorem dX4_firstError_7 : decode cX4_firstError 7 = .ok (.pop, 1) := by decide +kernel
theorem dX4_firstError_8 : decode cX4_firstError 8 = .ok (.aload_n 0, 1) := by decide +kernel
theorem dX4_firstError_9 : decode cX4_firstError 9 = .ok (.getfield 29, 3) := by decide +kernel
theorem dX4_firstError_12 : decode cX4_firstError 12 = .ok (.getfield 118, 3) := by decide +kernel
theorem dX4_firstError_15 : decode cX4_firstError 15 = .ok (.ireturn, 1) := by decide +kernel
theorem dX4_run_0 : decode cX4_run 0 = .ok (.aload_n 0, 1) := by decide +kernel
theorem dX4_run_1 : decode cX4_run 1 = .ok (.getfield 29, 3) := by decide +kernel
theorem dX4_run_4 : decode cX4_run 4 = .ok (.invokevirtual 114, 3) := by decide +kernel
theorem dX4_run_7 : decode cX4_run 7 = .ok (.ifCond .ne 11, 3) := by decide +kernel
theorem dX4_run_10 : decode cX4_run 10 = .ok (.new 121, 3) := by decide +kernel
theorem dX4_run_13 : decode cX4_run 13 = .ok (.dup, 1) := by decide +kernel
theorem dX4_run_14 : decode cX4_run 14 = .ok (.invokespecial 123, 3) := by decide +kernel
theorem dX4_run_17 : decode cX4_run 17 = .ok (.athrow, 1) := by decide +kernel
theorem dX4_run_18 : decode cX4_run 18 = .ok (.aload_n 0, 1) := by decide +kernel
theorem dX4_run_19 : decode cX4_run 19 = .ok (.getfield 22, 3) := by decide +kernel
theorem dX4_run_22 : decode cX4_run 22 = .ok (.aload_n 0, 1) := by decide +kernel
theorem dX4_run_23 : decode cX4_run 23 = .ok (.getfield 10, 3) := by decide +kernel
theorem dX4_run_26 : decode cX4_run 26 = .ok (.invokevirtual 56, 3) := by decide +kernel
theorem dX4_run_29 : decode cX4_run 29 = .ok (.aload_n 0, 1) := by decide +kernel
theorem dX4_run_30 : decode cX4_run 30 = .ok (.getfield 29, 3) := by decide +kernel
theorem dX4_run_33 : decode cX4_run 33 = .ok (.invokevirtual 124, 3) := by decide +kernel
theorem dX4_run_36 : decode cX4_run 36 = .ok (.iconst 0, 1) := by decide +kernel
theorem dX4_run_37 : decode cX4_run 37 = .ok (.istore_n 1, 1) := by decide +kernel
theorem dX4_run_38 : decode cX4_run 38 = .ok (.iconst 1, 1) := by decide +kernel
theorem dX4_run_39 : decode cX4_run 39 = .ok (.istore_n 2, 1) := by decide +kernel
theorem dX4_run_40 : decode cX4_run 40 = .ok (.iconst 0, 1) := by decide +kernel
theorem dX4_run_41 : decode cX4_run 41 = .ok (.istore_n 3, 1) := by decide +kernel
theorem dX4_run_42 : decode cX4_run 42 = .ok (.iload_n 3, 1) := by decide +kernel
theorem dX4_run_43 : decode cX4_run 43 = .ok (.bipush 60, 2) := by decide +kernel
theorem dX4_run_45 : decode cX4_run 45 = .ok (.if_icmp .ge 49, 3) := by decide +kernel
theorem dX4_run_48 : decode cX4_run 48 = .ok (.iload_n 2, 1) := by decide +kernel
theorem dX4_run_49 : decode cX4_run 49 = .ok (.ifCond .eq 45, 3) := by decide +kernel
theorem dX4_run_52 : decode cX4_run 52 = .ok (.aload_n 0, 1) := by decide +kernel
theorem dX4_run_53 : decode cX4_run 53 = .ok (.getfield 29, 3) := by decide +kernel
theorem dX4_run_56 : decode cX4_run 56 = .ok (.getfield 118, 3) := by decide +kernel
theorem dX4_run_59 : decode cX4_run 59 = .ok (.aload_n 0, 1) := by decide +kernel
theorem dX4_run_60 : decode cX4_run 60 = .ok (.getfield 29, 3) := by decide +kernel
theorem dX4_run_63 : decode cX4_run 63 = .ok (.getfield 107, 3) := by decide +kernel
theorem dX4_run_66 : decode cX4_run 66 = .ok (.if_icmp .ge 28, 3) := by decide +kernel
theorem dX4_run_69 : decode cX4_run 69 = .ok (.aload_n 0, 1) := by decide +kernel
theorem dX4_run_70 : decode cX4_run 70 = .ok (.getfield 29, 3) := by decide +kernel
theorem dX4_run_73 : decode cX4_run 73 = .ok (.invokevirtual 127, 3) := by decide +kernel
theorem dX4_run_76 : decode cX4_run 76 = .ok (.aload_n 0, 1) := by decide +kernel
theorem dX4_run_77 : decode cX4_run 77 = .ok (.invokevirtual 130, 3) := by decide +kernel
theorem dX4_run_80 : decode cX4_run 80 = .ok (.istore_n 2, 1) := by decide +kernel
theorem dX4_run_81 : decode cX4_run 81 = .ok (.iload_n 2, 1) := by decide +kernel
theorem dX4_run_82 : decode cX4_run 82 = .ok (.ifCond .eq 6, 3) := by decide +kernel
theorem dX4_run_85 : decode cX4_run 85 = .ok (.iinc 1 1, 3) := by decide +kernel
theorem dX4_run_88 : decode cX4_run 88 = .ok (.iinc 3 1, 3) := by decide +kernel
theorem dX4_run_91 : decode cX4_run 91 = .ok (.goto (-49), 3) := by decide +kernel
theorem dX4_run_94 : decode cX4_run 94 = .ok (.aload_n 0, 1) := by decide +kernel
theorem dX4_run_95 : decode cX4_run 95 = .ok (.getfield 29, 3) := by decide +kernel
theorem dX4_run_98 : decode cX4_run 98 = .ok (.iconst 0, 1) := by decide +kernel
theorem dX4_run_99 : decode cX4_run 99 = .ok (.putfield 107, 3) := by decide +kernel
theorem dX4_run_102 : decode cX4_run 102 = .ok (.iload_n 1, 1) := by decide +kernel
theorem dX4_run_103 : decode cX4_run 103 = .ok (.ireturn, 1) := by decide +kernel
theorem dX4_undo_0 : decode cX4_undo 0 = .ok (.aload_n 0, 1) := by decide +kernel
theorem dX4_undo_1 : decode cX4_undo 1 = .ok (.getfield 22, 3) := by decide +kernel
theorem dX4_undo_4 : decode cX4_undo 4 = .ok (.getfield 133, 3) := by decide +kernel
theorem dX4_undo_7 : decode cX4_undo 7 = .ok (.ifCond .le 7, 3) := by decide +kernel
theorem dX4_undo_10 : decode cX4_undo 10 = .ok (.iconst 1, 1) := by decide +kernel
theorem dX4_undo_11 : decode cX4_undo 11 = .ok (.goto 4, 3) := by decide +kernel
theorem dX4_undo_14 : decode cX4_undo 14 = .ok (.iconst 0, 1) := by decide +kernel
theorem dX4_undo_15 : decode cX4_undo 15 = .ok (.invokestatic 52, 3) := by decide +kernel
theorem dX4_undo_18 : decode cX4_undo 18 = .ok (.aload_n 0, 1) := by decide +kernel
theorem dX4_undo_19 : decode cX4_undo 19 = .ok (.getfield 22, 3) := by decide +kernel
theorem dX4_undo_22 : decode cX4_undo 22 = .ok (.aload_n 0, 1) := by decide +kernel
theorem dX4_undo_23 : decode cX4_undo 23 = .ok (.getfield 10, 3) := by decide +kernel
theorem dX4_undo_26 : decode cX4_undo 26 = .ok (.invokevirtual 136, 3) := by decide +kernel
theorem dX4_undo_29 : decode cX4_undo 29 = .ok (.aload_n 0, 1) := by decide +kernel
theorem dX4_undo_30 : decode cX4_undo 30 = .ok (.getfield 22, 3) := by decide +kernel
theorem dX4_undo_33 : decode cX4_undo 33 = .ok (.getfield 133, 3) := by decide +kernel
theorem dX4_undo_36 : decode cX4_undo 36 = .ok (.ireturn, 1) := by decide +kernel
theorem dX4_number_0 : decode cX4_number 0 = .ok (.aload_n 0, 1) := by decide +kernel
theorem dX4_number_1 : decode cX4_number 1 = .ok (.iload_n 1, 1) := by decide +kernel
theorem dX4_number_2 : decode cX4_number 2 = .ok (.invokevirtual 41, 3) := by decide +kernel
theorem dX4_number_5 : decode cX4_number 5 = .ok (.iload_n 2, 1) := by decide +kernel
theorem dX4_number_6 : decode cX4_number 6 = .ok (.iconst 0, 1) := by decide +kernel
theorem dX4_number_7 : decode cX4_number 7 = .ok (.bipush 8, 2) := by decide +kernel
theorem dX4_number_9 : decode cX4_number 9 = .ok (.invokestatic 44, 3) := by decide +kernel
theorem dX4_number_12 : decode cX4_number 12 = .ok (.aload_n 0, 1) := by decide +kernel
theorem dX4_number_13 : decode cX4_number 13 = .ok (.getfield 10, 3) := by decide +kernel
theorem dX4_number_16 : decode cX4_number 16 = .ok (.iload_n 1, 1) := by decide +kernel
theorem dX4_number_17 : decode cX4_number 17 = .ok (.iload_n 2, 1) := by decide +kernel
theorem dX4_number_18 : decode cX4_number 18 = .ok (.invokevirtual 139, 3) := by decide +kernel
theorem dX4_number_21 : decode cX4_number 21 = .ok (.ireturn, 1) := by decide +kernel
theorem dX4_holder_0 : decode cX4_holder 0 = .ok (.iload_n 1, 1) := by decide +kernel
theorem dX4_holder_1 : decode cX4_holder 1 = .ok (.invokestatic 37, 3) := by decide +kernel
theorem dX4_holder_4 : decode cX4_holder 4 = .ok (.iload_n 2, 1) := by decide +kernel
theorem dX4_holder_5 : decode cX4_holder 5 = .ok (.iconst 0, 1) := by decide +kernel
theorem dX4_holder_6 : decode cX4_holder 6 = .ok (.bipush 7, 2) := by decide +kernel
theorem dX4_holder_8 : decode cX4_holder 8 = .ok (.invokestatic 44, 3) := by decide +kernel
theorem dX4_holder_11 : decode cX4_holder 11 = .ok (.aload_n 0, 1) := by decide +kernel
theorem dX4_holder_12 : decode cX4_holder 12 = .ok (.getfield 10, 3) := by decide +kernel
theorem dX4_holder_15 : decode cX4_holder 15 = .ok (.iload_n 1, 1) := by decide +kernel
theorem dX4_holder_16 : decode cX4_holder 16 = .ok (.iload_n 2, 1) := by decide +kernel
theorem dX4_holder_17 : decode cX4_holder 17 = .ok (.invokevirtual 142, 3) := by decide +kernel
theorem dX4_holder_20 : decode cX4_holder 20 = .ok (.ireturn, 1) := by decide +kernel
theorem dX4_span_0 : decode cX4_span 0 = .ok (.iload_n 1, 1) := by decide +kernel
theorem dX4_span_1 : decode cX4_span 1 = .ok (.ifCond .ge 11, 3) := by decide +kernel
theorem dX4_span_4 : decode cX4_span 4 = .ok (.new 121, 3) := by decide +kernel
theorem dX4_span_7 : decode cX4_span 7 = .ok (.dup, 1) := by decide +kernel
theorem dX4_span_8 : decode cX4_span 8 = .ok (.invokespecial 123, 3) := by decide +kernel
theorem dX4_span_11 : decode cX4_span 11 = .ok (.athrow, 1) := by decide +kernel
theorem dX4_span_12 : decode cX4_span 12 = .ok (.iload_n 2, 1) := by decide +kernel
theorem dX4_span_13 : decode cX4_span 13 = .ok (.iconst 0, 1) := by decide +kernel
theorem dX4_span_14 : decode cX4_span 14 = .ok (.iconst 1, 1) := by decide +kernel
theorem dX4_span_15 : decode cX4_span 15 = .ok (.invokestatic 44, 3) := by decide +kernel
theorem dX4_span_18 : decode cX4_span 18 = .ok (.aload_n 0, 1) := by decide +kernel
theorem dX4_span_19 : decode cX4_span 19 = .ok (.getfield 10, 3) := by decide +kernel
theorem dX4_span_22 : decode cX4_span 22 = .ok (.iload_n 1, 1) := by decide +kernel
theorem dX4_span_23 : decode cX4_span 23 = .ok (.iload_n 2, 1) := by decide +kernel
theorem dX4_span_24 : decode cX4_span 24 = .ok (.invokevirtual 145, 3) := by decide +kernel
theorem dX4_span_27 : decode cX4_span 27 = .ok (.ireturn, 1) := by decide +kernel
theorem dX4_count_0 : decode cX4_count 0 = .ok (.iload_n 1, 1) := by decide +kernel
theorem dX4_count_1 : decode cX4_count 1 = .ok (.iconst 0, 1) := by decide +kernel
theorem dX4_count_2 : decode cX4_count 2 = .ok (.bipush 12, 2) := by decide +kernel
theorem dX4_count_4 : decode cX4_count 4 = .ok (.invokestatic 44, 3) := by decide +kernel
theorem dX4_count_7 : decode cX4_count 7 = .ok (.aload_n 0, 1) := by decide +kernel
theorem dX4_count_8 : decode cX4_count 8 = .ok (.iload_n 1, 1) := by decide +kernel
theorem dX4_count_9 : decode cX4_count 9 = .ok (.invokevirtual 148, 3) := by decide +kernel
theorem dX4_count_12 : decode cX4_count 12 = .ok (.ireturn, 1) := by decide +kernel
theorem dX4_setting_0 : decode cX4_setting 0 = .ok (.iload_n 1, 1) := by decide +kernel
theorem dX4_setting_1 : decode cX4_setting 1 = .ok (.invokestatic 92, 3) := by decide +kernel
theorem dX4_setting_4 : decode cX4_setting 4 = .ok (.aload_n 0, 1) := by decide +kernel
theorem dX4_setting_5 : decode cX4_setting 5 = .ok (.getfield 10, 3) := by decide +kernel
theorem dX4_setting_8 : decode cX4_setting 8 = .ok (.getfield 104, 3) := by decide +kernel
theorem dX4_setting_11 : decode cX4_setting 11 = .ok (.iload_n 1, 1) := by decide +kernel
theorem dX4_setting_12 : decode cX4_setting 12 = .ok (.iaload, 1) := by decide +kernel
theorem dX4_setting_13 : decode cX4_setting 13 = .ok (.ireturn, 1) := by decide +kernel
theorem dX4_whoAfter_0 : decode cX4_whoAfter 0 = .ok (.aload_n 0, 1) := by decide +kernel
theorem dX4_whoAfter_1 : decode cX4_whoAfter 1 = .ok (.iload_n 1, 1) := by decide +kernel
theorem dX4_whoAfter_2 : decode cX4_whoAfter 2 = .ok (.invokevirtual 41, 3) := by decide +kernel
theorem dX4_whoAfter_5 : decode cX4_whoAfter 5 = .ok (.iload_n 2, 1) := by decide +kernel
theorem dX4_whoAfter_6 : decode cX4_whoAfter 6 = .ok (.iconst 0, 1) := by decide +kernel
theorem dX4_whoAfter_7 : decode cX4_whoAfter 7 = .ok (.sipush 500, 3) := by decide +kernel
theorem dX4_whoAfter_10 : decode cX4_whoAfter 10 = .ok (.invokestatic 44, 3) := by decide +kernel
theorem dX4_whoAfter_13 : decode cX4_whoAfter 13 = .ok (.aload_n 0, 1) := by decide +kernel
theorem dX4_whoAfter_14 : decode cX4_whoAfter 14 = .ok (.iload_n 1, 1) := by decide +kernel
theorem dX4_whoAfter_15 : decode cX4_whoAfter 15 = .ok (.iload_n 2, 1) := by decide +kernel
theorem dX4_whoAfter_16 : decode cX4_whoAfter 16 = .ok (.invokevirtual 151, 3) := by decide +kernel
theorem dX4_whoAfter_19 : decode cX4_whoAfter 19 = .ok (.ireturn, 1) := by decide +kernel
theorem dX4_freeIn_0 : decode cX4_freeIn 0 = .ok (.iload_n 1, 1) := by decide +kernel
theorem dX4_freeIn_1 : decode cX4_freeIn 1 = .ok (.iconst 1, 1) := by decide +kernel
theorem dX4_freeIn_2 : decode cX4_freeIn 2 = .ok (.bipush 64, 2) := by decide +kernel
theorem dX4_freeIn_4 : decode cX4_freeIn 4 = .ok (.invokestatic 44, 3) := by decide +kernel
theorem dX4_freeIn_7 : decode cX4_freeIn 7 = .ok (.aload_n 0, 1) := by decide +kernel
theorem dX4_freeIn_8 : decode cX4_freeIn 8 = .ok (.iload_n 1, 1) := by decide +kernel
theorem dX4_freeIn_9 : decode cX4_freeIn 9 = .ok (.invokevirtual 154, 3) := by decide +kernel
theorem dX4_freeIn_12 : decode cX4_freeIn 12 = .ok (.ireturn, 1) := by decide +kernel
theorem dX4_wishedIn_0 : decode cX4_wishedIn 0 = .ok (.iload_n 1, 1) := by decide +kernel
theorem dX4_wishedIn_1 : decode cX4_wishedIn 1 = .ok (.invokestatic 37, 3) := by decide +kernel
theorem dX4_wishedIn_4 : decode cX4_wishedIn 4 = .ok (.aload_n 0, 1) := by decide +kernel
theorem dX4_wishedIn_5 : decode cX4_wishedIn 5 = .ok (.iload_n 2, 1) := by decide +kernel
theorem dX4_wishedIn_6 : decode cX4_wishedIn 6 = .ok (.invokevirtual 41, 3) := by decide +kernel
theorem dX4_wishedIn_9 : decode cX4_wishedIn 9 = .ok (.aload_n 0, 1) := by decide +kernel
theorem dX4_wishedIn_10 : decode cX4_wishedIn 10 = .ok (.iload_n 1, 1) := by decide +kernel
theorem dX4_wishedIn_11 : decode cX4_wishedIn 11 = .ok (.iload_n 2, 1) := by decide +kernel
theorem dX4_wishedIn_12 : decode cX4_wishedIn 12 = .ok (.invokevirtual 157, 3) := by decide +kernel
theorem dX4_wishedIn_15 : decode cX4_wishedIn 15 = .ok (.ireturn, 1) := by decide +kernel
theorem dX4_fullness_0 : decode cX4_fullness 0 = .ok (.aload_n 0, 1) := by decide +kernel
theorem dX4_fullness_1 : decode cX4_fullness 1 = .ok (.invokevirtual 160, 3) := by decide +kernel
theorem dX4_fullness_4 : decode cX4_fullness 4 = .ok (.ireturn, 1) := by decide +kernel
theorem dX4_scatter_0 : decode cX4_scatter 0 = .ok (.aload_n 0, 1) := by decide +kernel
theorem dX4_scatter_1 : decode cX4_scatter 1 = .ok (.invokevirtual 164, 3) := by decide +kernel
theorem dX4_scatter_4 : decode cX4_scatter 4 = .ok (.ireturn, 1) := by decide +kernel
theorem dX4_meanHeld_0 : decode cX4_meanHeld 0 = .ok (.aload_n 0, 1) := by decide +kernel
theorem dX4_meanHeld_1 : decode cX4_meanHeld 1 = .ok (.invokevirtual 167, 3) := by decide +kernel
theorem dX4_meanHeld_4 : decode cX4_meanHeld 4 = .ok (.dreturn, 1) := by decide +kernel
theorem dX4_digest_0 : decode cX4_digest 0 = .ok (.ldc2_w 171, 3) := by decide +kernel
theorem dX4_digest_3 : decode cX4_digest 3 = .ok (.lstore_n 1, 1) := by decide +kernel
theorem dX4_digest_4 : decode cX4_digest 4 = .ok (.iconst 0, 1) := by decide +kernel
theorem dX4_digest_5 : decode cX4_digest 5 = .ok (.istore_n 3, 1) := by decide +kernel
theorem dX4_digest_6 : decode cX4_digest 6 = .ok (.iload_n 3, 1) := by decide +kernel
theorem dX4_digest_7 : decode cX4_digest 7 = .ok (.bipush 12, 2) := by decide +kernel
theorem dX4_digest_9 : decode cX4_digest 9 = .ok (.if_icmp .gt 22, 3) := by decide +kernel
theorem dX4_digest_12 : decode cX4_digest 12 = .ok (.ldc2_w 173, 3) := by decide +kernel
theorem dX4_digest_15 : decode cX4_digest 15 = .ok (.lload_n 1, 1) := by decide +kernel
theorem dX4_digest_16 : decode cX4_digest 16 = .ok (.lmul, 1) := by decide +kernel
theorem dX4_digest_17 : decode cX4_digest 17 = .ok (.aload_n 0, 1) := by decide +kernel
theorem dX4_digest_18 : decode cX4_digest 18 = .ok (.iload_n 3, 1) := by decide +kernel
theorem dX4_digest_19 : decode cX4_digest 19 = .ok (.invokevirtual 148, 3) := by decide +kernel
theorem dX4_digest_22 : decode cX4_digest 22 = .ok (.i2l, 1) := by decide +kernel
theorem dX4_digest_23 : decode cX4_digest 23 = .ok (.ladd, 1) := by decide +kernel
theorem dX4_digest_24 : decode cX4_digest 24 = .ok (.lstore_n 1, 1) := by decide +kernel
theorem dX4_digest_25 : decode cX4_digest 25 = .ok (.iinc 3 1, 3) := by decide +kernel
theorem dX4_digest_28 : decode cX4_digest 28 = .ok (.goto (-22), 3) := by decide +kernel
theorem dX4_digest_31 : decode cX4_digest 31 = .ok (.iconst 0, 1) := by decide +kernel
theorem dX4_digest_32 : decode cX4_digest 32 = .ok (.istore_n 3, 1) := by decide +kernel
theorem dX4_digest_33 : decode cX4_digest 33 = .ok (.iload_n 3, 1) := by decide +kernel
theorem dX4_digest_34 : decode cX4_digest 34 = .ok (.iconst 4, 1) := by decide +kernel
theorem dX4_digest_35 : decode cX4_digest 35 = .ok (.if_icmp .ge 26, 3) := by decide +kernel
theorem dX4_digest_38 : decode cX4_digest 38 = .ok (.ldc2_w 173, 3) := by decide +kernel
theorem dX4_digest_41 : decode cX4_digest 41 = .ok (.lload_n 1, 1) := by decide +kernel
theorem dX4_digest_42 : decode cX4_digest 42 = .ok (.lmul, 1) := by decide +kernel
theorem dX4_digest_43 : decode cX4_digest 43 = .ok (.aload_n 0, 1) := by decide +kernel
theorem dX4_digest_44 : decode cX4_digest 44 = .ok (.getfield 10, 3) := by decide +kernel
theorem dX4_digest_47 : decode cX4_digest 47 = .ok (.getfield 104, 3) := by decide +kernel
theorem dX4_digest_50 : decode cX4_digest 50 = .ok (.iload_n 3, 1) := by decide +kernel
theorem dX4_digest_51 : decode cX4_digest 51 = .ok (.iaload, 1) := by decide +kernel
theorem dX4_digest_52 : decode cX4_digest 52 = .ok (.i2l, 1) := by decide +kernel
theorem dX4_digest_53 : decode cX4_digest 53 = .ok (.ladd, 1) := by decide +kernel
theorem dX4_digest_54 : decode cX4_digest 54 = .ok (.lstore_n 1, 1) := by decide +kernel
theorem dX4_digest_55 : decode cX4_digest 55 = .ok (.iinc 3 1, 3) := by decide +kernel
theorem dX4_digest_58 : decode cX4_digest 58 = .ok (.goto (-25), 3) := by decide +kernel
theorem dX4_digest_61 : decode cX4_digest 61 = .ok (.aload_n 0, 1) := by decide +kernel
theorem dX4_digest_62 : decode cX4_digest 62 = .ok (.lload_n 1, 1) := by decide +kernel
theorem dX4_digest_63 : decode cX4_digest 63 = .ok (.invokevirtual 175, 3) := by decide +kernel
theorem dX4_digest_66 : decode cX4_digest 66 = .ok (.lstore_n 1, 1) := by decide +kernel
theorem dX4_digest_67 : decode cX4_digest 67 = .ok (.aload_n 0, 1) := by decide +kernel
theorem dX4_digest_68 : decode cX4_digest 68 = .ok (.lload_n 1, 1) := by decide +kernel
theorem dX4_digest_69 : decode cX4_digest 69 = .ok (.invokevirtual 179, 3) := by decide +kernel
theorem dX4_digest_72 : decode cX4_digest 72 = .ok (.lstore_n 1, 1) := by decide +kernel
theorem dX4_digest_73 : decode cX4_digest 73 = .ok (.aload_n 0, 1) := by decide +kernel
theorem dX4_digest_74 : decode cX4_digest 74 = .ok (.lload_n 1, 1) := by decide +kernel
theorem dX4_digest_75 : decode cX4_digest 75 = .ok (.invokevirtual 182, 3) := by decide +kernel
theorem dX4_digest_78 : decode cX4_digest 78 = .ok (.lstore_n 1, 1) := by decide +kernel
theorem dX4_digest_79 : decode cX4_digest 79 = .ok (.ldc2_w 173, 3) := by decide +kernel
theorem dX4_digest_82 : decode cX4_digest 82 = .ok (.lload_n 1, 1) := by decide +kernel
theorem dX4_digest_83 : decode cX4_digest 83 = .ok (.lmul, 1) := by decide +kernel
theorem dX4_digest_84 : decode cX4_digest 84 = .ok (.aload_n 0, 1) := by decide +kernel
theorem dX4_digest_85 : decode cX4_digest 85 = .ok (.iconst 0, 1) := by decide +kernel
theorem dX4_digest_86 : decode cX4_digest 86 = .ok (.bipush 20, 2) := by decide +kernel
theorem dX4_digest_88 : decode cX4_digest 88 = .ok (.invokevirtual 151, 3) := by decide +kernel
theorem dX4_digest_91 : decode cX4_digest 91 = .ok (.i2l, 1) := by decide +kernel
theorem dX4_digest_92 : decode cX4_digest 92 = .ok (.ladd, 1) := by decide +kernel
theorem dX4_digest_93 : decode cX4_digest 93 = .ok (.lstore_n 1, 1) := by decide +kernel
theorem dX4_digest_94 : decode cX4_digest 94 = .ok (.ldc2_w 173, 3) := by decide +kernel
theorem dX4_digest_97 : decode cX4_digest 97 = .ok (.lload_n 1, 1) := by decide +kernel
theorem dX4_digest_98 : decode cX4_digest 98 = .ok (.lmul, 1) := by decide +kernel
theorem dX4_digest_99 : decode cX4_digest 99 = .ok (.aload_n 0, 1) := by decide +kernel
theorem dX4_digest_100 : decode cX4_digest 100 = .ok (.iconst 4, 1) := by decide +kernel
theorem dX4_digest_101 : decode cX4_digest 101 = .ok (.invokevirtual 154, 3) := by decide +kernel
theorem dX4_digest_104 : decode cX4_digest 104 = .ok (.i2l, 1) := by decide +kernel
theorem dX4_digest_105 : decode cX4_digest 105 = .ok (.ladd, 1) := by decide +kernel
theorem dX4_digest_106 : decode cX4_digest 106 = .ok (.lstore_n 1, 1) := by decide +kernel
theorem dX4_digest_107 : decode cX4_digest 107 = .ok (.ldc2_w 173, 3) := by decide +kernel
theorem dX4_digest_110 : decode cX4_digest 110 = .ok (.lload_n 1, 1) := by decide +kernel
theorem dX4_digest_111 : decode cX4_digest 111 = .ok (.lmul, 1) := by decide +kernel
theorem dX4_digest_112 : decode cX4_digest 112 = .ok (.aload_n 0, 1) := by decide +kernel
theorem dX4_digest_113 : decode cX4_digest 113 = .ok (.invokevirtual 160, 3) := by decide +kernel
theorem dX4_digest_116 : decode cX4_digest 116 = .ok (.i2l, 1) := by decide +kernel
theorem dX4_digest_117 : decode cX4_digest 117 = .ok (.ladd, 1) := by decide +kernel
theorem dX4_digest_118 : decode cX4_digest 118 = .ok (.lstore_n 1, 1) := by decide +kernel
theorem dX4_digest_119 : decode cX4_digest 119 = .ok (.ldc2_w 173, 3) := by decide +kernel
theorem dX4_digest_122 : decode cX4_digest 122 = .ok (.lload_n 1, 1) := by decide +kernel
theorem dX4_digest_123 : decode cX4_digest 123 = .ok (.lmul, 1) := by decide +kernel
theorem dX4_digest_124 : decode cX4_digest 124 = .ok (.aload_n 0, 1) := by decide +kernel
theorem dX4_digest_125 : decode cX4_digest 125 = .ok (.invokevirtual 164, 3) := by decide +kernel
theorem dX4_digest_128 : decode cX4_digest 128 = .ok (.i2l, 1) := by decide +kernel
theorem dX4_digest_129 : decode cX4_digest 129 = .ok (.ladd, 1) := by decide +kernel
theorem dX4_digest_130 : decode cX4_digest 130 = .ok (.lstore_n 1, 1) := by decide +kernel
theorem dX4_digest_131 : decode cX4_digest 131 = .ok (.ldc2_w 173, 3) := by decide +kernel
theorem dX4_digest_134 : decode cX4_digest 134 = .ok (.lload_n 1, 1) := by decide +kernel
theorem dX4_digest_135 : decode cX4_digest 135 = .ok (.lmul, 1) := by decide +kernel
theorem dX4_digest_136 : decode cX4_digest 136 = .ok (.aload_n 0, 1) := by decide +kernel
theorem dX4_digest_137 : decode cX4_digest 137 = .ok (.invokevirtual 167, 3) := by decide +kernel
theorem dX4_digest_140 : decode cX4_digest 140 = .ok (.invokestatic 185, 3) := by decide +kernel
theorem dX4_digest_143 : decode cX4_digest 143 = .ok (.ladd, 1) := by decide +kernel
theorem dX4_digest_144 : decode cX4_digest 144 = .ok (.lstore_n 1, 1) := by decide +kernel
theorem dX4_digest_145 : decode cX4_digest 145 = .ok (.aload_n 0, 1) := by decide +kernel
theorem dX4_digest_146 : decode cX4_digest 146 = .ok (.lload_n 1, 1) := by decide +kernel
theorem dX4_digest_147 : decode cX4_digest 147 = .ok (.invokevirtual 191, 3) := by decide +kernel
theorem dX4_digest_150 : decode cX4_digest 150 = .ok (.lreturn, 1) := by decide +kernel
theorem dX4_needHolder_0 : decode cX4_needHolder 0 = .ok (.iload_n 0, 1) := by decide +kernel
theorem dX4_needHolder_1 : decode cX4_needHolder 1 = .ok (.ifCond .lt 9, 3) := by decide +kernel
theorem dX4_needHolder_4 : decode cX4_needHolder 4 = .ok (.iload_n 0, 1) := by decide +kernel
theorem dX4_needHolder_5 : decode cX4_needHolder 5 = .ok (.bipush 8, 2) := by decide +kernel
theorem dX4_needHolder_7 : decode cX4_needHolder 7 = .ok (.if_icmp .lt 11, 3) := by decide +kernel
theorem dX4_needHolder_10 : decode cX4_needHolder 10 = .ok (.new 194, 3) := by decide +kernel
theorem dX4_needHolder_13 : decode cX4_needHolder 13 = .ok (.dup, 1) := by decide +kernel
theorem dX4_needHolder_14 : decode cX4_needHolder 14 = .ok (.invokespecial 196, 3) := by decide +kernel
theorem dX4_needHolder_17 : decode cX4_needHolder 17 = .ok (.athrow, 1) := by decide +kernel
theorem dX4_needHolder_18 : decode cX4_needHolder 18 = .ok (.return_, 1) := by decide +kernel
theorem dX4_needNumber_0 : decode cX4_needNumber 0 = .ok (.aload_n 0, 1) := by decide +kernel
theorem dX4_needNumber_1 : decode cX4_needNumber 1 = .ok (.getfield 10, 3) := by decide +kernel
theorem dX4_needNumber_4 : decode cX4_needNumber 4 = .ok (.iload_n 1, 1) := by decide +kernel
theorem dX4_needNumber_5 : decode cX4_needNumber 5 = .ok (.invokevirtual 197, 3) := by decide +kernel
theorem dX4_needNumber_8 : decode cX4_needNumber 8 = .ok (.ifCond .ne 11, 3) := by decide +kernel
theorem dX4_needNumber_11 : decode cX4_needNumber 11 = .ok (.new 194, 3) := by decide +kernel
theorem dX4_needNumber_14 : decode cX4_needNumber 14 = .ok (.dup, 1) := by decide +kernel
theorem dX4_needNumber_15 : decode cX4_needNumber 15 = .ok (.invokespecial 196, 3) := by decide +kernel
theorem dX4_needNumber_18 : decode cX4_needNumber 18 = .ok (.athrow, 1) := by decide +kernel
theorem dX4_needNumber_19 : decode cX4_needNumber 19 = .ok (.return_, 1) := by decide +kernel
theorem dX4_needSetting_0 : decode cX4_needSetting 0 = .ok (.iload_n 0, 1) := by decide +kernel
theorem dX4_needSetting_1 : decode cX4_needSetting 1 = .ok (.ifCond .lt 8, 3) := by decide +kernel
theorem dX4_needSetting_4 : decode cX4_needSetting 4 = .ok (.iload_n 0, 1) := by decide +kernel
theorem dX4_needSetting_5 : decode cX4_needSetting 5 = .ok (.iconst 4, 1) := by decide +kernel
theorem dX4_needSetting_6 : decode cX4_needSetting 6 = .ok (.if_icmp .lt 11, 3) := by decide +kernel
theorem dX4_needSetting_9 : decode cX4_needSetting 9 = .ok (.new 194, 3) := by decide +kernel
theorem dX4_needSetting_12 : decode cX4_needSetting 12 = .ok (.dup, 1) := by decide +kernel
theorem dX4_needSetting_13 : decode cX4_needSetting 13 = .ok (.invokespecial 196, 3) := by decide +kernel
theorem dX4_needSetting_16 : decode cX4_needSetting 16 = .ok (.athrow, 1) := by decide +kernel
theorem dX4_needSetting_17 : decode cX4_needSetting 17 = .ok (.return_, 1) := by decide +kernel
theorem dX4_needRange_0 : decode cX4_needRange 0 = .ok (.iload_n 0, 1) := by decide +kernel
theorem dX4_needRange_1 : decode cX4_needRange 1 = .ok (.iload_n 1, 1) := by decide +kernel
theorem dX4_needRange_2 : decode cX4_needRange 2 = .ok (.if_icmp .lt 8, 3) := by decide +kernel
theorem dX4_needRange_5 : decode cX4_needRange 5 = .ok (.iload_n 0, 1) := by decide +kernel
theorem dX4_needRange_6 : decode cX4_needRange 6 = .ok (.iload_n 2, 1) := by decide +kernel
theorem dX4_needRange_7 : decode cX4_needRange 7 = .ok (.if_icmp .le 11, 3) := by decide +kernel
theorem dX4_needRange_10 : decode cX4_needRange 10 = .ok (.new 121, 3) := by decide +kernel
theorem dX4_needRange_13 : decode cX4_needRange 13 = .ok (.dup, 1) := by decide +kernel
theorem dX4_needRange_14 : decode cX4_needRange 14 = .ok (.invokespecial 123, 3) := by decide +kernel
theorem dX4_needRange_17 : decode cX4_needRange 17 = .ok (.athrow, 1) := by decide +kernel
theorem dX4_needRange_18 : decode cX4_needRange 18 = .ok (.return_, 1) := by decide +kernel
theorem dX4_needState_0 : decode cX4_needState 0 = .ok (.iload_n 0, 1) := by decide +kernel
theorem dX4_needState_1 : decode cX4_needState 1 = .ok (.ifCond .ne 11, 3) := by decide +kernel
theorem dX4_needState_4 : decode cX4_needState 4 = .ok (.new 200, 3) := by decide +kernel
theorem dX4_needState_7 : decode cX4_needState 7 = .ok (.dup, 1) := by decide +kernel
theorem dX4_needState_8 : decode cX4_needState 8 = .ok (.invokespecial 202, 3) := by decide +kernel
theorem dX4_needState_11 : decode cX4_needState 11 = .ok (.athrow, 1) := by decide +kernel
theorem dX4_needState_12 : decode cX4_needState 12 = .ok (.return_, 1) := by decide +kernel
theorem dX4_leaseLowest_0 : decode cX4_leaseLowest 0 = .ok (.iload_n 1, 1) := by decide +kernel
theorem dX4_leaseLowest_1 : decode cX4_leaseLowest 1 = .ok (.invokestatic 37, 3) := by decide +kernel
theorem dX4_leaseLowest_4 : decode cX4_leaseLowest 4 = .ok (.iload_n 2, 1) := by decide +kernel
theorem dX4_leaseLowest_5 : decode cX4_leaseLowest 5 = .ok (.iconst 1, 1) := by decide +kernel
theorem dX4_leaseLowest_6 : decode cX4_leaseLowest 6 = .ok (.bipush 64, 2) := by decide +kernel
theorem dX4_leaseLowest_8 : decode cX4_leaseLowest 8 = .ok (.invokestatic 44, 3) := by decide +kernel
theorem dX4_leaseLowest_11 : decode cX4_leaseLowest 11 = .ok (.iload_n 3, 1) := by decide +kernel
theorem dX4_leaseLowest_12 : decode cX4_leaseLowest 12 = .ok (.iconst 1, 1) := by decide +kernel
theorem dX4_leaseLowest_13 : decode cX4_leaseLowest 13 = .ok (.sipush 999, 3) := by decide +kernel
theorem dX4_leaseLowest_16 : decode cX4_leaseLowest 16 = .ok (.invokestatic 44, 3) := by decide +kernel
theorem dX4_leaseLowest_19 : decode cX4_leaseLowest 19 = .ok (.aload_n 0, 1) := by decide +kernel
theorem dX4_leaseLowest_20 : decode cX4_leaseLowest 20 = .ok (.getfield 10, 3) := by decide +kernel
theorem dX4_leaseLowest_23 : decode cX4_leaseLowest 23 = .ok (.iload_n 1, 1) := by decide +kernel
theorem dX4_leaseLowest_24 : decode cX4_leaseLowest 24 = .ok (.iload_n 2, 1) := by decide +kernel
theorem dX4_leaseLowest_25 : decode cX4_leaseLowest 25 = .ok (.invokevirtual 203, 3) := by decide +kernel
theorem dX4_leaseLowest_28 : decode cX4_leaseLowest 28 = .ok (.invokestatic 52, 3) := by decide +kernel
theorem dX4_leaseLowest_31 : decode cX4_leaseLowest 31 = .ok (.aload_n 0, 1) := by decide +kernel
theorem dX4_leaseLowest_32 : decode cX4_leaseLowest 32 = .ok (.getfield 22, 3) := by decide +kernel
theorem dX4_leaseLowest_35 : decode cX4_leaseLowest 35 = .ok (.aload_n 0, 1) := by decide +kernel
theorem dX4_leaseLowest_36 : decode cX4_leaseLowest 36 = .ok (.getfield 10, 3) := by decide +kernel
theorem dX4_leaseLowest_39 : decode cX4_leaseLowest 39 = .ok (.invokevirtual 56, 3) := by decide +kernel
theorem dX4_leaseLowest_42 : decode cX4_leaseLowest 42 = .ok (.aload_n 0, 1) := by decide +kernel
theorem dX4_leaseLowest_43 : decode cX4_leaseLowest 43 = .ok (.getfield 10, 3) := by decide +kernel
theorem dX4_leaseLowest_46 : decode cX4_leaseLowest 46 = .ok (.iload_n 1, 1) := by decide +kernel
theorem dX4_leaseLowest_47 : decode cX4_leaseLowest 47 = .ok (.iload_n 2, 1) := by decide +kernel
theorem dX4_leaseLowest_48 : decode cX4_leaseLowest 48 = .ok (.iload_n 3, 1) := by decide +kernel
theorem dX4_leaseLowest_49 : decode cX4_leaseLowest 49 = .ok (.invokevirtual 206, 3) := by decide +kernel
theorem dX4_leaseLowest_52 : decode cX4_leaseLowest 52 = .ok (.ireturn, 1) := by decide +kernel
theorem dX4_carryOut_0 : decode cX4_carryOut 0 = .ok (.aload_n 0, 1) := by decide +kernel
theorem dX4_carryOut_1 : decode cX4_carryOut 1 = .ok (.getfield 29, 3) := by decide +kernel
theorem dX4_carryOut_4 : decode cX4_carryOut 4 = .ok (.getfield 209, 3) := by decide +kernel
theorem dX4_carryOut_7 : decode cX4_carryOut 7 = .ok (.istore_n 1, 1) := by decide +kernel
theorem dX4_carryOut_8 : decode cX4_carryOut 8 = .ok (.aload_n 0, 1) := by decide +kernel
theorem dX4_carryOut_9 : decode cX4_carryOut 9 = .ok (.getfield 29, 3) := by decide +kernel
theorem dX4_carryOut_12 : decode cX4_carryOut 12 = .ok (.getfield 212, 3) := by decide +kernel
theorem dX4_carryOut_15 : decode cX4_carryOut 15 = .ok (.istore_n 2, 1) := by decide +kernel
theorem dX4_carryOut_16 : decode cX4_carryOut 16 = .ok (.aload_n 0, 1) := by decide +kernel
theorem dX4_carryOut_17 : decode cX4_carryOut 17 = .ok (.getfield 29, 3) := by decide +kernel
theorem dX4_carryOut_20 : decode cX4_carryOut 20 = .ok (.getfield 215, 3) := by decide +kernel
theorem dX4_carryOut_23 : decode cX4_carryOut 23 = .ok (.istore_n 3, 1) := by decide +kernel
theorem dX4_carryOut_24 : decode cX4_carryOut 24 = .ok (.aload_n 0, 1) := by decide +kernel
theorem dX4_carryOut_25 : decode cX4_carryOut 25 = .ok (.getfield 29, 3) := by decide +kernel
theorem dX4_carryOut_28 : decode cX4_carryOut 28 = .ok (.getfield 218, 3) := by decide +kernel
theorem dX4_carryOut_31 : decode cX4_carryOut 31 = .ok (.lookupswitch 135 #[(103, 98), (116, 33), (119, 60)], 33) := by decide +kernel
theorem dX4_carryOut_64 : decode cX4_carryOut 64 = .ok (.aload_n 0, 1) := by decide +kernel
theorem dX4_carryOut_65 : decode cX4_carryOut 65 = .ok (.getfield 10, 3) := by decide +kernel
theorem dX4_carryOut_68 : decode cX4_carryOut 68 = .ok (.iload_n 1, 1) := by decide +kernel
theorem dX4_carryOut_69 : decode cX4_carryOut 69 = .ok (.iconst 1, 1) := by decide +kernel
theorem dX4_carryOut_70 : decode cX4_carryOut 70 = .ok (.invokevirtual 203, 3) := by decide +kernel
theorem dX4_carryOut_73 : decode cX4_carryOut 73 = .ok (.ifCond .ne 5, 3) := by decide +kernel
theorem dX4_carryOut_76 : decode cX4_carryOut 76 = .ok (.iconst 0, 1) := by decide +kernel
theorem dX4_carryOut_77 : decode cX4_carryOut 77 = .ok (.ireturn, 1) := by decide +kernel
theorem dX4_carryOut_78 : decode cX4_carryOut 78 = .ok (.aload_n 0, 1) := by decide +kernel
theorem dX4_carryOut_79 : decode cX4_carryOut 79 = .ok (.getfield 10, 3) := by decide +kernel
theorem dX4_carryOut_82 : decode cX4_carryOut 82 = .ok (.iload_n 1, 1) := by decide +kernel
theorem dX4_carryOut_83 : decode cX4_carryOut 83 = .ok (.iconst 1, 1) := by decide +kernel
theorem dX4_carryOut_84 : decode cX4_carryOut 84 = .ok (.iload_n 3, 1) := by decide +kernel
theorem dX4_carryOut_85 : decode cX4_carryOut 85 = .ok (.invokevirtual 206, 3) := by decide +kernel
theorem dX4_carryOut_88 : decode cX4_carryOut 88 = .ok (.pop, 1) := by decide +kernel
theorem dX4_carryOut_89 : decode cX4_carryOut 89 = .ok (.iconst 1, 1) := by decide +kernel
theorem dX4_carryOut_90 : decode cX4_carryOut 90 = .ok (.ireturn, 1) := by decide +kernel
theorem dX4_carryOut_91 : decode cX4_carryOut 91 = .ok (.aload_n 0, 1) := by decide +kernel
theorem dX4_carryOut_92 : decode cX4_carryOut 92 = .ok (.getfield 10, 3) := by decide +kernel
theorem dX4_carryOut_95 : decode cX4_carryOut 95 = .ok (.iload_n 2, 1) := by decide +kernel
theorem dX4_carryOut_96 : decode cX4_carryOut 96 = .ok (.invokevirtual 197, 3) := by decide +kernel
theorem dX4_carryOut_99 : decode cX4_carryOut 99 = .ok (.ifCond .eq 15, 3) := by decide +kernel
theorem dX4_carryOut_102 : decode cX4_carryOut 102 = .ok (.aload_n 0, 1) := by decide +kernel
theorem dX4_carryOut_103 : decode cX4_carryOut 103 = .ok (.getfield 10, 3) := by decide +kernel
theorem dX4_carryOut_106 : decode cX4_carryOut 106 = .ok (.iload_n 1, 1) := by decide +kernel
theorem dX4_carryOut_107 : decode cX4_carryOut 107 = .ok (.iload_n 2, 1) := by decide +kernel
theorem dX4_carryOut_108 : decode cX4_carryOut 108 = .ok (.invokevirtual 48, 3) := by decide +kernel
theorem dX4_carryOut_111 : decode cX4_carryOut 111 = .ok (.ifCond .ne 5, 3) := by decide +kernel
theorem dX4_carryOut_114 : decode cX4_carryOut 114 = .ok (.iconst 0, 1) := by decide +kernel
theorem dX4_carryOut_115 : decode cX4_carryOut 115 = .ok (.ireturn, 1) := by decide +kernel
theorem dX4_carryOut_116 : decode cX4_carryOut 116 = .ok (.aload_n 0, 1) := by decide +kernel
theorem dX4_carryOut_117 : decode cX4_carryOut 117 = .ok (.getfield 10, 3) := by decide +kernel
theorem dX4_carryOut_120 : decode cX4_carryOut 120 = .ok (.iload_n 1, 1) := by decide +kernel
theorem dX4_carryOut_121 : decode cX4_carryOut 121 = .ok (.iload_n 2, 1) := by decide +kernel
theorem dX4_carryOut_122 : decode cX4_carryOut 122 = .ok (.iload_n 3, 1) := by decide +kernel
theorem dX4_carryOut_123 : decode cX4_carryOut 123 = .ok (.invokevirtual 60, 3) := by decide +kernel
theorem dX4_carryOut_126 : decode cX4_carryOut 126 = .ok (.pop, 1) := by decide +kernel
theorem dX4_carryOut_127 : decode cX4_carryOut 127 = .ok (.iconst 1, 1) := by decide +kernel
theorem dX4_carryOut_128 : decode cX4_carryOut 128 = .ok (.ireturn, 1) := by decide +kernel
theorem dX4_carryOut_129 : decode cX4_carryOut 129 = .ok (.aload_n 0, 1) := by decide +kernel
theorem dX4_carryOut_130 : decode cX4_carryOut 130 = .ok (.getfield 10, 3) := by decide +kernel
theorem dX4_carryOut_133 : decode cX4_carryOut 133 = .ok (.iload_n 2, 1) := by decide +kernel
theorem dX4_carryOut_134 : decode cX4_carryOut 134 = .ok (.invokevirtual 197, 3) := by decide +kernel
theorem dX4_carryOut_137 : decode cX4_carryOut 137 = .ok (.ifCond .eq 14, 3) := by decide +kernel
theorem dX4_carryOut_140 : decode cX4_carryOut 140 = .ok (.aload_n 0, 1) := by decide +kernel
theorem dX4_carryOut_141 : decode cX4_carryOut 141 = .ok (.getfield 10, 3) := by decide +kernel
theorem dX4_carryOut_144 : decode cX4_carryOut 144 = .ok (.iload_n 3, 1) := by decide +kernel
theorem dX4_carryOut_145 : decode cX4_carryOut 145 = .ok (.invokevirtual 197, 3) := by decide +kernel
theorem dX4_carryOut_148 : decode cX4_carryOut 148 = .ok (.ifCond .ne 5, 3) := by decide +kernel
theorem dX4_carryOut_151 : decode cX4_carryOut 151 = .ok (.iconst 0, 1) := by decide +kernel
theorem dX4_carryOut_152 : decode cX4_carryOut 152 = .ok (.ireturn, 1) := by decide +kernel
theorem dX4_carryOut_153 : decode cX4_carryOut 153 = .ok (.aload_n 0, 1) := by decide +kernel
theorem dX4_carryOut_154 : decode cX4_carryOut 154 = .ok (.getfield 10, 3) := by decide +kernel
theorem dX4_carryOut_157 : decode cX4_carryOut 157 = .ok (.iload_n 1, 1) := by decide +kernel
theorem dX4_carryOut_158 : decode cX4_carryOut 158 = .ok (.iload_n 2, 1) := by decide +kernel
theorem dX4_carryOut_159 : decode cX4_carryOut 159 = .ok (.iload_n 3, 1) := by decide +kernel
theorem dX4_carryOut_160 : decode cX4_carryOut 160 = .ok (.invokevirtual 81, 3) := by decide +kernel
theorem dX4_carryOut_163 : decode cX4_carryOut 163 = .ok (.pop, 1) := by decide +kernel
theorem dX4_carryOut_164 : decode cX4_carryOut 164 = .ok (.iconst 1, 1) := by decide +kernel
theorem dX4_carryOut_165 : decode cX4_carryOut 165 = .ok (.ireturn, 1) := by decide +kernel
theorem dX4_carryOut_166 : decode cX4_carryOut 166 = .ok (.aload_n 0, 1) := by decide +kernel
theorem dX4_carryOut_167 : decode cX4_carryOut 167 = .ok (.getfield 10, 3) := by decide +kernel
theorem dX4_carryOut_170 : decode cX4_carryOut 170 = .ok (.iload_n 3, 1) := by decide +kernel
theorem dX4_carryOut_171 : decode cX4_carryOut 171 = .ok (.invokevirtual 84, 3) := by decide +kernel
theorem dX4_carryOut_174 : decode cX4_carryOut 174 = .ok (.ifCond .ne 5, 3) := by decide +kernel
theorem dX4_carryOut_177 : decode cX4_carryOut 177 = .ok (.iconst 0, 1) := by decide +kernel
theorem dX4_carryOut_178 : decode cX4_carryOut 178 = .ok (.ireturn, 1) := by decide +kernel
theorem dX4_carryOut_179 : decode cX4_carryOut 179 = .ok (.aload_n 0, 1) := by decide +kernel
theorem dX4_carryOut_180 : decode cX4_carryOut 180 = .ok (.getfield 10, 3) := by decide +kernel
theorem dX4_carryOut_183 : decode cX4_carryOut 183 = .ok (.iload_n 3, 1) := by decide +kernel
theorem dX4_carryOut_184 : decode cX4_carryOut 184 = .ok (.invokevirtual 88, 3) := by decide +kernel
theorem dX4_carryOut_187 : decode cX4_carryOut 187 = .ok (.pop, 1) := by decide +kernel
theorem dX4_carryOut_188 : decode cX4_carryOut 188 = .ok (.iconst 1, 1) := by decide +kernel
theorem dX4_carryOut_189 : decode cX4_carryOut 189 = .ok (.ireturn, 1) := by decide +kernel
theorem dX4_countOf_0 : decode cX4_countOf 0 = .ok (.iload_n 1, 1) := by decide +kernel
theorem dX4_countOf_1 : decode cX4_countOf 1 = .ok (.bipush 12, 2) := by decide +kernel
theorem dX4_countOf_3 : decode cX4_countOf 3 = .ok (.if_icmp .ne 13, 3) := by decide +kernel
theorem dX4_countOf_6 : decode cX4_countOf 6 = .ok (.aload_n 0, 1) := by decide +kernel
theorem dX4_countOf_7 : decode cX4_countOf 7 = .ok (.getfield 22, 3) := by decide +kernel
theorem dX4_countOf_10 : decode cX4_countOf 10 = .ok (.getfield 133, 3) := by decide +kernel
theorem dX4_countOf_13 : decode cX4_countOf 13 = .ok (.goto 11, 3) := by decide +kernel
theorem dX4_countOf_16 : decode cX4_countOf 16 = .ok (.aload_n 0, 1) := by decide +kernel
theorem dX4_countOf_17 : decode cX4_countOf 17 = .ok (.getfield 10, 3) := by decide +kernel
theorem dX4_countOf_20 : decode cX4_countOf 20 = .ok (.iload_n 1, 1) := by decide +kernel
theorem dX4_countOf_21 : decode cX4_countOf 21 = .ok (.invokevirtual 221, 3) := by decide +kernel
theorem dX4_countOf_24 : decode cX4_countOf 24 = .ok (.ireturn, 1) := by decide +kernel
theorem dX4_holderAfter_0 : decode cX4_holderAfter 0 = .ok (.aload_n 0, 1) := by decide +kernel
theorem dX4_holderAfter_1 : decode cX4_holderAfter 1 = .ok (.getfield 16, 3) := by decide +kernel
theorem dX4_holderAfter_4 : decode cX4_holderAfter 4 = .ok (.aload_n 0, 1) := by decide +kernel
theorem dX4_holderAfter_5 : decode cX4_holderAfter 5 = .ok (.getfield 10, 3) := by decide +kernel
theorem dX4_holderAfter_8 : decode cX4_holderAfter 8 = .ok (.invokevirtual 224, 3) := by decide +kernel
theorem dX4_holderAfter_11 : decode cX4_holderAfter 11 = .ok (.aload_n 0, 1) := by decide +kernel
theorem dX4_holderAfter_12 : decode cX4_holderAfter 12 = .ok (.getfield 16, 3) := by decide +kernel
theorem dX4_holderAfter_15 : decode cX4_holderAfter 15 = .ok (.getfield 227, 3) := by decide +kernel
theorem dX4_holderAfter_18 : decode cX4_holderAfter 18 = .ok (.iload_n 2, 1) := by decide +kernel
theorem dX4_holderAfter_19 : decode cX4_holderAfter 19 = .ok (.iadd, 1) := by decide +kernel
theorem dX4_holderAfter_20 : decode cX4_holderAfter 20 = .ok (.istore_n 3, 1) := by decide +kernel
theorem dX4_holderAfter_21 : decode cX4_holderAfter 21 = .ok (.iconst 1, 1) := by decide +kernel
theorem dX4_holderAfter_22 : decode cX4_holderAfter 22 = .ok (.istore 4, 2) := by decide +kernel
theorem dX4_holderAfter_24 : decode cX4_holderAfter 24 = .ok (.iconst 0, 1) := by decide +kernel
theorem dX4_holderAfter_25 : decode cX4_holderAfter 25 = .ok (.istore 5, 2) := by decide +kernel
theorem dX4_holderAfter_27 : decode cX4_holderAfter 27 = .ok (.iload 5, 2) := by decide +kernel
theorem dX4_holderAfter_29 : decode cX4_holderAfter 29 = .ok (.iload_n 2, 1) := by decide +kernel
theorem dX4_holderAfter_30 : decode cX4_holderAfter 30 = .ok (.if_icmp .ge 24, 3) := by decide +kernel
theorem dX4_holderAfter_33 : decode cX4_holderAfter 33 = .ok (.iload 4, 2) := by decide +kernel
theorem dX4_holderAfter_35 : decode cX4_holderAfter 35 = .ok (.ifCond .eq 19, 3) := by decide +kernel
theorem dX4_holderAfter_38 : decode cX4_holderAfter 38 = .ok (.aload_n 0, 1) := by decide +kernel
theorem dX4_holderAfter_39 : decode cX4_holderAfter 39 = .ok (.getfield 16, 3) := by decide +kernel
theorem dX4_holderAfter_42 : decode cX4_holderAfter 42 = .ok (.iload_n 3, 1) := by decide +kernel
theorem dX4_holderAfter_43 : decode cX4_holderAfter 43 = .ok (.invokevirtual 230, 3) := by decide +kernel
theorem dX4_holderAfter_46 : decode cX4_holderAfter 46 = .ok (.istore 4, 2) := by decide +kernel
theorem dX4_holderAfter_48 : decode cX4_holderAfter 48 = .ok (.iinc 5 1, 3) := by decide +kernel
theorem dX4_holderAfter_51 : decode cX4_holderAfter 51 = .ok (.goto (-24), 3) := by decide +kernel
theorem dX4_holderAfter_54 : decode cX4_holderAfter 54 = .ok (.aload_n 0, 1) := by decide +kernel
theorem dX4_holderAfter_55 : decode cX4_holderAfter 55 = .ok (.getfield 16, 3) := by decide +kernel
theorem dX4_holderAfter_58 : decode cX4_holderAfter 58 = .ok (.getfield 233, 3) := by decide +kernel
theorem dX4_holderAfter_61 : decode cX4_holderAfter 61 = .ok (.iload_n 1, 1) := by decide +kernel
theorem dX4_holderAfter_62 : decode cX4_holderAfter 62 = .ok (.iaload, 1) := by decide +kernel
theorem dX4_holderAfter_63 : decode cX4_holderAfter 63 = .ok (.ireturn, 1) := by decide +kernel
theorem dX4_timeToFree_0 : decode cX4_timeToFree 0 = .ok (.aload_n 0, 1) := by decide +kernel
theorem dX4_timeToFree_1 : decode cX4_timeToFree 1 = .ok (.getfield 10, 3) := by decide +kernel
theorem dX4_timeToFree_4 : decode cX4_timeToFree 4 = .ok (.invokevirtual 236, 3) := by decide +kernel
theorem dX4_timeToFree_7 : decode cX4_timeToFree 7 = .ok (.iload_n 1, 1) := by decide +kernel
theorem dX4_timeToFree_8 : decode cX4_timeToFree 8 = .ok (.if_icmp .lt 5, 3) := by decide +kernel
theorem dX4_timeToFree_11 : decode cX4_timeToFree 11 = .ok (.iconst 0, 1) := by decide +kernel
theorem dX4_timeToFree_12 : decode cX4_timeToFree 12 = .ok (.ireturn, 1) := by decide +kernel
theorem dX4_timeToFree_13 : decode cX4_timeToFree 13 = .ok (.aload_n 0, 1) := by decide +kernel
theorem dX4_timeToFree_14 : decode cX4_timeToFree 14 = .ok (.getfield 16, 3) := by decide +kernel
theorem dX4_timeToFree_17 : decode cX4_timeToFree 17 = .ok (.aload_n 0, 1) := by decide +kernel
theorem dX4_timeToFree_18 : decode cX4_timeToFree 18 = .ok (.getfield 10, 3) := by decide +kernel
theorem dX4_timeToFree_21 : decode cX4_timeToFree 21 = .ok (.invokevirtual 224, 3) := by decide +kernel
theorem dX4_timeToFree_24 : decode cX4_timeToFree 24 = .ok (.aload_n 0, 1) := by decide +kernel
theorem dX4_timeToFree_25 : decode cX4_timeToFree 25 = .ok (.getfield 10, 3) := by decide +kernel
theorem dX4_timeToFree_28 : decode cX4_timeToFree 28 = .ok (.getfield 227, 3) := by decide +kernel
theorem dX4_timeToFree_31 : decode cX4_timeToFree 31 = .ok (.sipush 500, 3) := by decide +kernel
theorem dX4_timeToFree_34 : decode cX4_timeToFree 34 = .ok (.iadd, 1) := by decide +kernel
theorem dX4_timeToFree_35 : decode cX4_timeToFree 35 = .ok (.istore_n 2, 1) := by decide +kernel
theorem dX4_timeToFree_36 : decode cX4_timeToFree 36 = .ok (.iconst 0, 1) := by decide +kernel
theorem dX4_timeToFree_37 : decode cX4_timeToFree 37 = .ok (.istore_n 3, 1) := by decide +kernel
theorem dX4_timeToFree_38 : decode cX4_timeToFree 38 = .ok (.iload_n 3, 1) := by decide +kernel
theorem dX4_timeToFree_39 : decode cX4_timeToFree 39 = .ok (.sipush 500, 3) := by decide +kernel
theorem dX4_timeToFree_42 : decode cX4_timeToFree 42 = .ok (.if_icmp .ge 47, 3) := by decide +kernel
theorem dX4_timeToFree_45 : decode cX4_timeToFree 45 = .ok (.aload_n 0, 1) := by decide +kernel
theorem dX4_timeToFree_46 : decode cX4_timeToFree 46 = .ok (.getfield 16, 3) := by decide +kernel
theorem dX4_timeToFree_49 : decode cX4_timeToFree 49 = .ok (.iload_n 2, 1) := by decide +kernel
theorem dX4_timeToFree_50 : decode cX4_timeToFree 50 = .ok (.invokevirtual 230, 3) := by decide +kernel
theorem dX4_timeToFree_53 : decode cX4_timeToFree 53 = .ok (.ifCond .eq 36, 3) := by decide +kernel
theorem dX4_timeToFree_56 : decode cX4_timeToFree 56 = .ok (.aload_n 0, 1) := by decide +kernel
theorem dX4_timeToFree_57 : decode cX4_timeToFree 57 = .ok (.getfield 16, 3) := by decide +kernel
theorem dX4_timeToFree_60 : decode cX4_timeToFree 60 = .ok (.invokevirtual 236, 3) := by decide +kernel
theorem dX4_timeToFree_63 : decode cX4_timeToFree 63 = .ok (.iload_n 1, 1) := by decide +kernel
theorem dX4_timeToFree_64 : decode cX4_timeToFree 64 = .ok (.if_icmp .lt 19, 3) := by decide +kernel
theorem dX4_timeToFree_67 : decode cX4_timeToFree 67 = .ok (.aload_n 0, 1) := by decide +kernel
theorem dX4_timeToFree_68 : decode cX4_timeToFree 68 = .ok (.getfield 16, 3) := by decide +kernel
theorem dX4_timeToFree_71 : decode cX4_timeToFree 71 = .ok (.getfield 227, 3) := by decide +kernel
theorem dX4_timeToFree_74 : decode cX4_timeToFree 74 = .ok (.aload_n 0, 1) := by decide +kernel
theorem dX4_timeToFree_75 : decode cX4_timeToFree 75 = .ok (.getfield 10, 3) := by decide +kernel
theorem dX4_timeToFree_78 : decode cX4_timeToFree 78 = .ok (.getfield 227, 3) := by decide +kernel
theorem dX4_timeToFree_81 : decode cX4_timeToFree 81 = .ok (.isub, 1) := by decide +kernel
theorem dX4_timeToFree_82 : decode cX4_timeToFree 82 = .ok (.ireturn, 1) := by decide +kernel
theorem dX4_timeToFree_83 : decode cX4_timeToFree 83 = .ok (.iinc 3 1, 3) := by decide +kernel
theorem dX4_timeToFree_86 : decode cX4_timeToFree 86 = .ok (.goto (-48), 3) := by decide +kernel
theorem dX4_timeToFree_89 : decode cX4_timeToFree 89 = .ok (.iconst (-1), 1) := by decide +kernel
theorem dX4_timeToFree_90 : decode cX4_timeToFree 90 = .ok (.ireturn, 1) := by decide +kernel
theorem dX4_timeToWished_0 : decode cX4_timeToWished 0 = .ok (.aload_n 0, 1) := by decide +kernel
theorem dX4_timeToWished_1 : decode cX4_timeToWished 1 = .ok (.getfield 10, 3) := by decide +kernel
theorem dX4_timeToWished_4 : decode cX4_timeToWished 4 = .ok (.getfield 233, 3) := by decide +kernel
theorem dX4_timeToWished_7 : decode cX4_timeToWished 7 = .ok (.iload_n 2, 1) := by decide +kernel
theorem dX4_timeToWished_8 : decode cX4_timeToWished 8 = .ok (.iaload, 1) := by decide +kernel
theorem dX4_timeToWished_9 : decode cX4_timeToWished 9 = .ok (.iload_n 1, 1) := by decide +kernel
theorem dX4_timeToWished_10 : decode cX4_timeToWished 10 = .ok (.if_icmp .ne 5, 3) := by decide +kernel
theorem dX4_timeToWished_13 : decode cX4_timeToWished 13 = .ok (.iconst 0, 1) := by decide +kernel
theorem dX4_timeToWished_14 : decode cX4_timeToWished 14 = .ok (.ireturn, 1) := by decide +kernel
theorem dX4_timeToWished_15 : decode cX4_timeToWished 15 = .ok (.aload_n 0, 1) := by decide +kernel
theorem dX4_timeToWished_16 : decode cX4_timeToWished 16 = .ok (.getfield 10, 3) := by decide +kernel
theorem dX4_timeToWished_19 : decode cX4_timeToWished 19 = .ok (.iload_n 1, 1) := by decide +kernel
theorem dX4_timeToWished_20 : decode cX4_timeToWished 20 = .ok (.iload_n 2, 1) := by decide +kernel
theorem dX4_timeToWished_21 : decode cX4_timeToWished 21 = .ok (.invokevirtual 48, 3) := by decide +kernel
theorem dX4_timeToWished_24 : decode cX4_timeToWished 24 = .ok (.ifCond .ne 5, 3) := by decide +kernel
theorem dX4_timeToWished_27 : decode cX4_timeToWished 27 = .ok (.iconst (-1), 1) := by decide +kernel
theorem dX4_timeToWished_28 : decode cX4_timeToWished 28 = .ok (.ireturn, 1) := by decide +kernel
theorem dX4_timeToWished_29 : decode cX4_timeToWished 29 = .ok (.aload_n 0, 1) := by decide +kernel
theorem dX4_timeToWished_30 : decode cX4_timeToWished 30 = .ok (.getfield 16, 3) := by decide +kernel
theorem dX4_timeToWished_33 : decode cX4_timeToWished 33 = .ok (.aload_n 0, 1) := by decide +kernel
theorem dX4_timeToWished_34 : decode cX4_timeToWished 34 = .ok (.getfield 10, 3) := by decide +kernel
theorem dX4_timeToWished_37 : decode cX4_timeToWished 37 = .ok (.invokevirtual 224, 3) := by decide +kernel
theorem dX4_timeToWished_40 : decode cX4_timeToWished 40 = .ok (.aload_n 0, 1) := by decide +kernel
theorem dX4_timeToWished_41 : decode cX4_timeToWished 41 = .ok (.getfield 16, 3) := by decide +kernel
theorem dX4_timeToWished_44 : decode cX4_timeToWished 44 = .ok (.iload_n 1, 1) := by decide +kernel
theorem dX4_timeToWished_45 : decode cX4_timeToWished 45 = .ok (.iload_n 2, 1) := by decide +kernel
theorem dX4_timeToWished_46 : decode cX4_timeToWished 46 = .ok (.iconst 1, 1) := by decide +kernel
theorem dX4_timeToWished_47 : decode cX4_timeToWished 47 = .ok (.invokevirtual 60, 3) := by decide +kernel
theorem dX4_timeToWished_50 : decode cX4_timeToWished 50 = .ok (.ifCond .ne 5, 3) := by decide +kernel
theorem dX4_timeToWished_53 : decode cX4_timeToWished 53 = .ok (.iconst 0, 1) := by decide +kernel
theorem dX4_timeToWished_54 : decode cX4_timeToWished 54 = .ok (.ireturn, 1) := by decide +kernel
theorem dX4_timeToWished_55 : decode cX4_timeToWished 55 = .ok (.aload_n 0, 1) := by decide +kernel
theorem dX4_timeToWished_56 : decode cX4_timeToWished 56 = .ok (.getfield 10, 3) := by decide +kernel
theorem dX4_timeToWished_59 : decode cX4_timeToWished 59 = .ok (.getfield 227, 3) := by decide +kernel
theorem dX4_timeToWished_62 : decode cX4_timeToWished 62 = .ok (.sipush 500, 3) := by decide +kernel
theorem dX4_timeToWished_65 : decode cX4_timeToWished 65 = .ok (.iadd, 1) := by decide +kernel
theorem dX4_timeToWished_66 : decode cX4_timeToWished 66 = .ok (.istore_n 3, 1) := by decide +kernel
theorem dX4_timeToWished_67 : decode cX4_timeToWished 67 = .ok (.iconst 0, 1) := by decide +kernel
theorem dX4_timeToWished_68 : decode cX4_timeToWished 68 = .ok (.istore 4, 2) := by decide +kernel
theorem dX4_timeToWished_70 : decode cX4_timeToWished 70 = .ok (.iload 4, 2) := by decide +kernel
theorem dX4_timeToWished_72 : decode cX4_timeToWished 72 = .ok (.sipush 500, 3) := by decide +kernel
theorem dX4_timeToWished_75 : decode cX4_timeToWished 75 = .ok (.if_icmp .ge 49, 3) := by decide +kernel
theorem dX4_timeToWished_78 : decode cX4_timeToWished 78 = .ok (.aload_n 0, 1) := by decide +kernel
theorem dX4_timeToWished_79 : decode cX4_timeToWished 79 = .ok (.getfield 16, 3) := by decide +kernel
theorem dX4_timeToWished_82 : decode cX4_timeToWished 82 = .ok (.iload_n 3, 1) := by decide +kernel
theorem dX4_timeToWished_83 : decode cX4_timeToWished 83 = .ok (.invokevirtual 230, 3) := by decide +kernel
theorem dX4_timeToWished_86 : decode cX4_timeToWished 86 = .ok (.ifCond .eq 38, 3) := by decide +kernel
theorem dX4_timeToWished_89 : decode cX4_timeToWished 89 = .ok (.aload_n 0, 1) := by decide +kernel
theorem dX4_timeToWished_90 : decode cX4_timeToWished 90 = .ok (.getfield 16, 3) := by decide +kernel
theorem dX4_timeToWished_93 : decode cX4_timeToWished 93 = .ok (.getfield 233, 3) := by decide +kernel
theorem dX4_timeToWished_96 : decode cX4_timeToWished 96 = .ok (.iload_n 2, 1) := by decide +kernel
theorem dX4_timeToWished_97 : decode cX4_timeToWished 97 = .ok (.iaload, 1) := by decide +kernel
theorem dX4_timeToWished_98 : decode cX4_timeToWished 98 = .ok (.iload_n 1, 1) := by decide +kernel
theorem dX4_timeToWished_99 : decode cX4_timeToWished 99 = .ok (.if_icmp .ne 19, 3) := by decide +kernel
theorem dX4_timeToWished_102 : decode cX4_timeToWished 102 = .ok (.aload_n 0, 1) := by decide +kernel
theorem dX4_timeToWished_103 : decode cX4_timeToWished 103 = .ok (.getfield 16, 3) := by decide +kernel
theorem dX4_timeToWished_106 : decode cX4_timeToWished 106 = .ok (.getfield 227, 3) := by decide +kernel
theorem dX4_timeToWished_109 : decode cX4_timeToWished 109 = .ok (.aload_n 0, 1) := by decide +kernel
theorem dX4_timeToWished_110 : decode cX4_timeToWished 110 = .ok (.getfield 10, 3) := by decide +kernel
theorem dX4_timeToWished_113 : decode cX4_timeToWished 113 = .ok (.getfield 227, 3) := by decide +kernel
theorem dX4_timeToWished_116 : decode cX4_timeToWished 116 = .ok (.isub, 1) := by decide +kernel
theorem dX4_timeToWished_117 : decode cX4_timeToWished 117 = .ok (.ireturn, 1) := by decide +kernel
theorem dX4_timeToWished_118 : decode cX4_timeToWished 118 = .ok (.iinc 4 1, 3) := by decide +kernel
theorem dX4_timeToWished_121 : decode cX4_timeToWished 121 = .ok (.goto (-51), 3) := by decide +kernel
theorem dX4_timeToWished_124 : decode cX4_timeToWished 124 = .ok (.iconst (-1), 1) := by decide +kernel
theorem dX4_timeToWished_125 : decode cX4_timeToWished 125 = .ok (.ireturn, 1) := by decide +kernel
theorem dX4_fullnessBits_0 : decode cX4_fullnessBits 0 = .ok (.aload_n 0, 1) := by decide +kernel
theorem dX4_fullnessBits_1 : decode cX4_fullnessBits 1 = .ok (.getfield 10, 3) := by decide +kernel
theorem dX4_fullnessBits_4 : decode cX4_fullnessBits 4 = .ok (.getfield 104, 3) := by decide +kernel
theorem dX4_fullnessBits_7 : decode cX4_fullnessBits 7 = .ok (.iconst 3, 1) := by decide +kernel
theorem dX4_fullnessBits_8 : decode cX4_fullnessBits 8 = .ok (.iaload, 1) := by decide +kernel
theorem dX4_fullnessBits_9 : decode cX4_fullnessBits 9 = .ok (.istore_n 1, 1) := by decide +kernel
theorem dX4_fullnessBits_10 : decode cX4_fullnessBits 10 = .ok (.iload_n 1, 1) := by decide +kernel
theorem dX4_fullnessBits_11 : decode cX4_fullnessBits 11 = .ok (.ifCond .gt 5, 3) := by decide +kernel
theorem dX4_fullnessBits_14 : decode cX4_fullnessBits 14 = .ok (.iconst 0, 1) := by decide +kernel
theorem dX4_fullnessBits_15 : decode cX4_fullnessBits 15 = .ok (.ireturn, 1) := by decide +kernel
theorem dX4_fullnessBits_16 : decode cX4_fullnessBits 16 = .ok (.iload_n 1, 1) := by decide +kernel
theorem dX4_fullnessBits_17 : decode cX4_fullnessBits 17 = .ok (.aload_n 0, 1) := by decide +kernel
theorem dX4_fullnessBits_18 : decode cX4_fullnessBits 18 = .ok (.getfield 10, 3) := by decide +kernel
theorem dX4_fullnessBits_21 : decode cX4_fullnessBits 21 = .ok (.invokevirtual 236, 3) := by decide +kernel
theorem dX4_fullnessBits_24 : decode cX4_fullnessBits 24 = .ok (.isub, 1) := by decide +kernel
theorem dX4_fullnessBits_25 : decode cX4_fullnessBits 25 = .ok (.i2f, 1) := by decide +kernel
theorem dX4_fullnessBits_26 : decode cX4_fullnessBits 26 = .ok (.iload_n 1, 1) := by decide +kernel
theorem dX4_fullnessBits_27 : decode cX4_fullnessBits 27 = .ok (.i2f, 1) := by decide +kernel
theorem dX4_fullnessBits_28 : decode cX4_fullnessBits 28 = .ok (.fdiv, 1) := by decide +kernel
theorem dX4_fullnessBits_29 : decode cX4_fullnessBits 29 = .ok (.invokestatic 239, 3) := by decide +kernel
theorem dX4_fullnessBits_32 : decode cX4_fullnessBits 32 = .ok (.ireturn, 1) := by decide +kernel
theorem dX4_scatterBits_0 : decode cX4_scatterBits 0 = .ok (.aload_n 0, 1) := by decide +kernel
theorem dX4_scatterBits_1 : decode cX4_scatterBits 1 = .ok (.getfield 10, 3) := by decide +kernel
theorem dX4_scatterBits_4 : decode cX4_scatterBits 4 = .ok (.invokevirtual 236, 3) := by decide +kernel
theorem dX4_scatterBits_7 : decode cX4_scatterBits 7 = .ok (.istore_n 1, 1) := by decide +kernel
theorem dX4_scatterBits_8 : decode cX4_scatterBits 8 = .ok (.iload_n 1, 1) := by decide +kernel
theorem dX4_scatterBits_9 : decode cX4_scatterBits 9 = .ok (.ifCond .gt 8, 3) := by decide +kernel
theorem dX4_scatterBits_12 : decode cX4_scatterBits 12 = .ok (.fconst 0, 1) := by decide +kernel
theorem dX4_scatterBits_13 : decode cX4_scatterBits 13 = .ok (.invokestatic 239, 3) := by decide +kernel
theorem dX4_scatterBits_16 : decode cX4_scatterBits 16 = .ok (.ireturn, 1) := by decide +kernel
theorem dX4_scatterBits_17 : decode cX4_scatterBits 17 = .ok (.fconst 1, 1) := by decide +kernel
theorem dX4_scatterBits_18 : decode cX4_scatterBits 18 = .ok (.aload_n 0, 1) := by decide +kernel
theorem dX4_scatterBits_19 : decode cX4_scatterBits 19 = .ok (.getfield 10, 3) := by decide +kernel
theorem dX4_scatterBits_22 : decode cX4_scatterBits 22 = .ok (.invokevirtual 243, 3) := by decide +kernel
theorem dX4_scatterBits_25 : decode cX4_scatterBits 25 = .ok (.i2f, 1) := by decide +kernel
theorem dX4_scatterBits_26 : decode cX4_scatterBits 26 = .ok (.iload_n 1, 1) := by decide +kernel
theorem dX4_scatterBits_27 : decode cX4_scatterBits 27 = .ok (.i2f, 1) := by decide +kernel
theorem dX4_scatterBits_28 : decode cX4_scatterBits 28 = .ok (.fdiv, 1) := by decide +kernel
theorem dX4_scatterBits_29 : decode cX4_scatterBits 29 = .ok (.fsub, 1) := by decide +kernel
theorem dX4_scatterBits_30 : decode cX4_scatterBits 30 = .ok (.invokestatic 239, 3) := by decide +kernel
theorem dX4_scatterBits_33 : decode cX4_scatterBits 33 = .ok (.ireturn, 1) := by decide +kernel
theorem dX4_meanUnits_0 : decode cX4_meanUnits 0 = .ok (.aload_n 0, 1) := by decide +kernel
theorem dX4_meanUnits_1 : decode cX4_meanUnits 1 = .ok (.getfield 10, 3) := by decide +kernel
theorem dX4_meanUnits_4 : decode cX4_meanUnits 4 = .ok (.getfield 246, 3) := by decide +kernel
theorem dX4_meanUnits_7 : decode cX4_meanUnits 7 = .ok (.invokestatic 249, 3) := by decide +kernel
theorem dX4_meanUnits_10 : decode cX4_meanUnits 10 = .ok (.istore_n 1, 1) := by decide +kernel
theorem dX4_meanUnits_11 : decode cX4_meanUnits 11 = .ok (.iload_n 1, 1) := by decide +kernel
theorem dX4_meanUnits_12 : decode cX4_meanUnits 12 = .ok (.ifCond .ne 5, 3) := by decide +kernel
theorem dX4_meanUnits_15 : decode cX4_meanUnits 15 = .ok (.dconst 0, 1) := by decide +kernel
theorem dX4_meanUnits_16 : decode cX4_meanUnits 16 = .ok (.dreturn, 1) := by decide +kernel
theorem dX4_meanUnits_17 : decode cX4_meanUnits 17 = .ok (.aload_n 0, 1) := by decide +kernel
theorem dX4_meanUnits_18 : decode cX4_meanUnits 18 = .ok (.getfield 10, 3) := by decide +kernel
theorem dX4_meanUnits_21 : decode cX4_meanUnits 21 = .ok (.getfield 253, 3) := by decide +kernel
theorem dX4_meanUnits_24 : decode cX4_meanUnits 24 = .ok (.invokestatic 249, 3) := by decide +kernel
theorem dX4_meanUnits_27 : decode cX4_meanUnits 27 = .ok (.i2d, 1) := by decide +kernel
theorem dX4_meanUnits_28 : decode cX4_meanUnits 28 = .ok (.iload_n 1, 1) := by decide +kernel
theorem dX4_meanUnits_29 : decode cX4_meanUnits 29 = .ok (.i2d, 1) := by decide +kernel
theorem dX4_meanUnits_30 : decode cX4_meanUnits 30 = .ok (.ddiv, 1) := by decide +kernel
theorem dX4_meanUnits_31 : decode cX4_meanUnits 31 = .ok (.dreturn, 1) := by decide +kernel
theorem dX4_addNumbers_0 : decode cX4_addNumbers 0 = .ok (.lload_n 1, 1) := by decide +kernel
theorem dX4_addNumbers_1 : decode cX4_addNumbers 1 = .ok (.lstore_n 3, 1) := by decide +kernel
theorem dX4_addNumbers_2 : decode cX4_addNumbers 2 = .ok (.iconst 0, 1) := by decide +kernel
theorem dX4_addNumbers_3 : decode cX4_addNumbers 3 = .ok (.istore 5, 2) := by decide +kernel
theorem dX4_addNumbers_5 : decode cX4_addNumbers 5 = .ok (.iload 5, 2) := by decide +kernel
theorem dX4_addNumbers_7 : decode cX4_addNumbers 7 = .ok (.aload_n 0, 1) := by decide +kernel
theorem dX4_addNumbers_8 : decode cX4_addNumbers 8 = .ok (.getfield 10, 3) := by decide +kernel
theorem dX4_addNumbers_11 : decode cX4_addNumbers 11 = .ok (.getfield 104, 3) := by decide +kernel
theorem dX4_addNumbers_14 : decode cX4_addNumbers 14 = .ok (.iconst 3, 1) := by decide +kernel
theorem dX4_addNumbers_15 : decode cX4_addNumbers 15 = .ok (.iaload, 1) := by decide +kernel
theorem dX4_addNumbers_16 : decode cX4_addNumbers 16 = .ok (.if_icmp .ge 44, 3) := by decide +kernel
theorem dX4_addNumbers_19 : decode cX4_addNumbers 19 = .ok (.iconst 0, 1) := by decide +kernel
theorem dX4_addNumbers_20 : decode cX4_addNumbers 20 = .ok (.istore 6, 2) := by decide +kernel
theorem dX4_addNumbers_22 : decode cX4_addNumbers 22 = .ok (.iload 6, 2) := by decide +kernel
theorem dX4_addNumbers_24 : decode cX4_addNumbers 24 = .ok (.bipush 8, 2) := by decide +kernel
theorem dX4_addNumbers_26 : decode cX4_addNumbers 26 = .ok (.if_icmp .gt 28, 3) := by decide +kernel
theorem dX4_addNumbers_29 : decode cX4_addNumbers 29 = .ok (.ldc2_w 173, 3) := by decide +kernel
theorem dX4_addNumbers_32 : decode cX4_addNumbers 32 = .ok (.lload_n 3, 1) := by decide +kernel
theorem dX4_addNumbers_33 : decode cX4_addNumbers 33 = .ok (.lmul, 1) := by decide +kernel
theorem dX4_addNumbers_34 : decode cX4_addNumbers 34 = .ok (.aload_n 0, 1) := by decide +kernel
theorem dX4_addNumbers_35 : decode cX4_addNumbers 35 = .ok (.getfield 10, 3) := by decide +kernel
theorem dX4_addNumbers_38 : decode cX4_addNumbers 38 = .ok (.iload 5, 2) := by decide +kernel
theorem dX4_addNumbers_40 : decode cX4_addNumbers 40 = .ok (.iload 6, 2) := by decide +kernel
theorem dX4_addNumbers_42 : decode cX4_addNumbers 42 = .ok (.invokevirtual 139, 3) := by decide +kernel
theorem dX4_addNumbers_45 : decode cX4_addNumbers 45 = .ok (.i2l, 1) := by decide +kernel
theorem dX4_addNumbers_46 : decode cX4_addNumbers 46 = .ok (.ladd, 1) := by decide +kernel
theorem dX4_addNumbers_47 : decode cX4_addNumbers 47 = .ok (.lstore_n 3, 1) := by decide +kernel
theorem dX4_addNumbers_48 : decode cX4_addNumbers 48 = .ok (.iinc 6 1, 3) := by decide +kernel
theorem dX4_addNumbers_51 : decode cX4_addNumbers 51 = .ok (.goto (-29), 3) := by decide +kernel
theorem dX4_addNumbers_54 : decode cX4_addNumbers 54 = .ok (.iinc 5 1, 3) := by decide +kernel
theorem dX4_addNumbers_57 : decode cX4_addNumbers 57 = .ok (.goto (-52), 3) := by decide +kernel
theorem dX4_addNumbers_60 : decode cX4_addNumbers 60 = .ok (.lload_n 3, 1) := by decide +kernel
theorem dX4_addNumbers_61 : decode cX4_addNumbers 61 = .ok (.lreturn, 1) := by decide +kernel
theorem dX4_addHolders_0 : decode cX4_addHolders 0 = .ok (.lload_n 1, 1) := by decide +kernel
theorem dX4_addHolders_1 : decode cX4_addHolders 1 = .ok (.lstore_n 3, 1) := by decide +kernel
theorem dX4_addHolders_2 : decode cX4_addHolders 2 = .ok (.iconst 0, 1) := by decide +kernel
theorem dX4_addHolders_3 : decode cX4_addHolders 3 = .ok (.istore 5, 2) := by decide +kernel
theorem dX4_addHolders_5 : decode cX4_addHolders 5 = .ok (.iload 5, 2) := by decide +kernel
theorem dX4_addHolders_7 : decode cX4_addHolders 7 = .ok (.bipush 8, 2) := by decide +kernel
theorem dX4_addHolders_9 : decode cX4_addHolders 9 = .ok (.if_icmp .ge 59, 3) := by decide +kernel
theorem dX4_addHolders_12 : decode cX4_addHolders 12 = .ok (.iconst 0, 1) := by decide +kernel
theorem dX4_addHolders_13 : decode cX4_addHolders 13 = .ok (.istore 6, 2) := by decide +kernel
theorem dX4_addHolders_15 : decode cX4_addHolders 15 = .ok (.iload 6, 2) := by decide +kernel
theorem dX4_addHolders_17 : decode cX4_addHolders 17 = .ok (.bipush 7, 2) := by decide +kernel
theorem dX4_addHolders_19 : decode cX4_addHolders 19 = .ok (.if_icmp .gt 28, 3) := by decide +kernel
theorem dX4_addHolders_22 : decode cX4_addHolders 22 = .ok (.ldc2_w 173, 3) := by decide +kernel
theorem dX4_addHolders_25 : decode cX4_addHolders 25 = .ok (.lload_n 3, 1) := by decide +kernel
theorem dX4_addHolders_26 : decode cX4_addHolders 26 = .ok (.lmul, 1) := by decide +kernel
theorem dX4_addHolders_27 : decode cX4_addHolders 27 = .ok (.aload_n 0, 1) := by decide +kernel
theorem dX4_addHolders_28 : decode cX4_addHolders 28 = .ok (.getfield 10, 3) := by decide +kernel
theorem dX4_addHolders_31 : decode cX4_addHolders 31 = .ok (.iload 5, 2) := by decide +kernel
theorem dX4_addHolders_33 : decode cX4_addHolders 33 = .ok (.iload 6, 2) := by decide +kernel
theorem dX4_addHolders_35 : decode cX4_addHolders 35 = .ok (.invokevirtual 142, 3) := by decide +kernel
theorem dX4_addHolders_38 : decode cX4_addHolders 38 = .ok (.i2l, 1) := by decide +kernel
theorem dX4_addHolders_39 : decode cX4_addHolders 39 = .ok (.ladd, 1) := by decide +kernel
theorem dX4_addHolders_40 : decode cX4_addHolders 40 = .ok (.lstore_n 3, 1) := by decide +kernel
theorem dX4_addHolders_41 : decode cX4_addHolders 41 = .ok (.iinc 6 1, 3) := by decide +kernel
theorem dX4_addHolders_44 : decode cX4_addHolders 44 = .ok (.goto (-29), 3) := by decide +kernel
theorem dX4_addHolders_47 : decode cX4_addHolders 47 = .ok (.ldc2_w 173, 3) := by decide +kernel
theorem dX4_addHolders_50 : decode cX4_addHolders 50 = .ok (.lload_n 3, 1) := by decide +kernel
theorem dX4_addHolders_51 : decode cX4_addHolders 51 = .ok (.lmul, 1) := by decide +kernel
theorem dX4_addHolders_52 : decode cX4_addHolders 52 = .ok (.aload_n 0, 1) := by decide +kernel
theorem dX4_addHolders_53 : decode cX4_addHolders 53 = .ok (.iload 5, 2) := by decide +kernel
theorem dX4_addHolders_55 : decode cX4_addHolders 55 = .ok (.iconst 0, 1) := by decide +kernel
theorem dX4_addHolders_56 : decode cX4_addHolders 56 = .ok (.invokevirtual 157, 3) := by decide +kernel
theorem dX4_addHolders_59 : decode cX4_addHolders 59 = .ok (.i2l, 1) := by decide +kernel
theorem dX4_addHolders_60 : decode cX4_addHolders 60 = .ok (.ladd, 1) := by decide +kernel
theorem dX4_addHolders_61 : decode cX4_addHolders 61 = .ok (.lstore_n 3, 1) := by decide +kernel
theorem dX4_addHolders_62 : decode cX4_addHolders 62 = .ok (.iinc 5 1, 3) := by decide +kernel
theorem dX4_addHolders_65 : decode cX4_addHolders 65 = .ok (.goto (-60), 3) := by decide +kernel
theorem dX4_addHolders_68 : decode cX4_addHolders 68 = .ok (.lload_n 3, 1) := by decide +kernel
theorem dX4_addHolders_69 : decode cX4_addHolders 69 = .ok (.lreturn, 1) := by decide +kernel
theorem dX4_addSpans_0 : decode cX4_addSpans 0 = .ok (.lload_n 1, 1) := by decide +kernel
theorem dX4_addSpans_1 : decode cX4_addSpans 1 = .ok (.lstore_n 3, 1) := by decide +kernel
theorem dX4_addSpans_2 : decode cX4_addSpans 2 = .ok (.aload_n 0, 1) := by decide +kernel
theorem dX4_addSpans_3 : decode cX4_addSpans 3 = .ok (.getfield 10, 3) := by decide +kernel
theorem dX4_addSpans_6 : decode cX4_addSpans 6 = .ok (.invokevirtual 256, 3) := by decide +kernel
theorem dX4_addSpans_9 : decode cX4_addSpans 9 = .ok (.istore 5, 2) := by decide +kernel
theorem dX4_addSpans_11 : decode cX4_addSpans 11 = .ok (.iconst 0, 1) := by decide +kernel
theorem dX4_addSpans_12 : decode cX4_addSpans 12 = .ok (.istore 6, 2) := by decide +kernel
theorem dX4_addSpans_14 : decode cX4_addSpans 14 = .ok (.iload 6, 2) := by decide +kernel
theorem dX4_addSpans_16 : decode cX4_addSpans 16 = .ok (.iload 5, 2) := by decide +kernel
theorem dX4_addSpans_18 : decode cX4_addSpans 18 = .ok (.if_icmp .ge 45, 3) := by decide +kernel
theorem dX4_addSpans_21 : decode cX4_addSpans 21 = .ok (.ldc2_w 173, 3) := by decide +kernel
theorem dX4_addSpans_24 : decode cX4_addSpans 24 = .ok (.lload_n 3, 1) := by decide +kernel
theorem dX4_addSpans_25 : decode cX4_addSpans 25 = .ok (.lmul, 1) := by decide +kernel
theorem dX4_addSpans_26 : decode cX4_addSpans 26 = .ok (.aload_n 0, 1) := by decide +kernel
theorem dX4_addSpans_27 : decode cX4_addSpans 27 = .ok (.getfield 10, 3) := by decide +kernel
theorem dX4_addSpans_30 : decode cX4_addSpans 30 = .ok (.iload 6, 2) := by decide +kernel
theorem dX4_addSpans_32 : decode cX4_addSpans 32 = .ok (.iconst 0, 1) := by decide +kernel
theorem dX4_addSpans_33 : decode cX4_addSpans 33 = .ok (.invokevirtual 145, 3) := by decide +kernel
theorem dX4_addSpans_36 : decode cX4_addSpans 36 = .ok (.i2l, 1) := by decide +kernel
theorem dX4_addSpans_37 : decode cX4_addSpans 37 = .ok (.ladd, 1) := by decide +kernel
theorem dX4_addSpans_38 : decode cX4_addSpans 38 = .ok (.lstore_n 3, 1) := by decide +kernel
theorem dX4_addSpans_39 : decode cX4_addSpans 39 = .ok (.ldc2_w 173, 3) := by decide +kernel
theorem dX4_addSpans_42 : decode cX4_addSpans 42 = .ok (.lload_n 3, 1) := by decide +kernel
theorem dX4_addSpans_43 : decode cX4_addSpans 43 = .ok (.lmul, 1) := by decide +kernel
theorem dX4_addSpans_44 : decode cX4_addSpans 44 = .ok (.aload_n 0, 1) := by decide +kernel
theorem dX4_addSpans_45 : decode cX4_addSpans 45 = .ok (.getfield 10, 3) := by decide +kernel
theorem dX4_addSpans_48 : decode cX4_addSpans 48 = .ok (.iload 6, 2) := by decide +kernel
theorem dX4_addSpans_50 : decode cX4_addSpans 50 = .ok (.iconst 1, 1) := by decide +kernel
theorem dX4_addSpans_51 : decode cX4_addSpans 51 = .ok (.invokevirtual 145, 3) := by decide +kernel
theorem dX4_addSpans_54 : decode cX4_addSpans 54 = .ok (.i2l, 1) := by decide +kernel
theorem dX4_addSpans_55 : decode cX4_addSpans 55 = .ok (.ladd, 1) := by decide +kernel
theorem dX4_addSpans_56 : decode cX4_addSpans 56 = .ok (.lstore_n 3, 1) := by decide +kernel
theorem dX4_addSpans_57 : decode cX4_addSpans 57 = .ok (.iinc 6 1, 3) := by decide +kernel
theorem dX4_addSpans_60 : decode cX4_addSpans 60 = .ok (.goto (-46), 3) := by decide +kernel
theorem dX4_addSpans_63 : decode cX4_addSpans 63 = .ok (.lload_n 3, 1) := by decide +kernel
theorem dX4_addSpans_64 : decode cX4_addSpans 64 = .ok (.lreturn, 1) := by decide +kernel
theorem dX4_addBuffer_0 : decode cX4_addBuffer 0 = .ok (.ldc2_w 173, 3) := by decide +kernel
theorem dX4_addBuffer_3 : decode cX4_addBuffer 3 = .ok (.lload_n 1, 1) := by decide +kernel
theorem dX4_addBuffer_4 : decode cX4_addBuffer 4 = .ok (.lmul, 1) := by decide +kernel
theorem dX4_addBuffer_5 : decode cX4_addBuffer 5 = .ok (.aload_n 0, 1) := by decide +kernel
theorem dX4_addBuffer_6 : decode cX4_addBuffer 6 = .ok (.getfield 29, 3) := by decide +kernel
theorem dX4_addBuffer_9 : decode cX4_addBuffer 9 = .ok (.getfield 107, 3) := by decide +kernel
theorem dX4_addBuffer_12 : decode cX4_addBuffer 12 = .ok (.i2l, 1) := by decide +kernel
theorem dX4_addBuffer_13 : decode cX4_addBuffer 13 = .ok (.ladd, 1) := by decide +kernel
theorem dX4_addBuffer_14 : decode cX4_addBuffer 14 = .ok (.lstore_n 3, 1) := by decide +kernel
theorem dX4_addBuffer_15 : decode cX4_addBuffer 15 = .ok (.iconst 0, 1) := by decide +kernel
theorem dX4_addBuffer_16 : decode cX4_addBuffer 16 = .ok (.istore 5, 2) := by decide +kernel
theorem dX4_addBuffer_18 : decode cX4_addBuffer 18 = .ok (.iload 5, 2) := by decide +kernel
theorem dX4_addBuffer_20 : decode cX4_addBuffer 20 = .ok (.aload_n 0, 1) := by decide +kernel
theorem dX4_addBuffer_21 : decode cX4_addBuffer 21 = .ok (.getfield 29, 3) := by decide +kernel
theorem dX4_addBuffer_24 : decode cX4_addBuffer 24 = .ok (.getfield 107, 3) := by decide +kernel
theorem dX4_addBuffer_27 : decode cX4_addBuffer 27 = .ok (.if_icmp .ge 26, 3) := by decide +kernel
theorem dX4_addBuffer_30 : decode cX4_addBuffer 30 = .ok (.ldc2_w 173, 3) := by decide +kernel
theorem dX4_addBuffer_33 : decode cX4_addBuffer 33 = .ok (.lload_n 3, 1) := by decide +kernel
theorem dX4_addBuffer_34 : decode cX4_addBuffer 34 = .ok (.lmul, 1) := by decide +kernel
theorem dX4_addBuffer_35 : decode cX4_addBuffer 35 = .ok (.aload_n 0, 1) := by decide +kernel
theorem dX4_addBuffer_36 : decode cX4_addBuffer 36 = .ok (.getfield 29, 3) := by decide +kernel
theorem dX4_addBuffer_39 : decode cX4_addBuffer 39 = .ok (.iload 5, 2) := by decide +kernel
theorem dX4_addBuffer_41 : decode cX4_addBuffer 41 = .ok (.invokevirtual 259, 3) := by decide +kernel
theorem dX4_addBuffer_44 : decode cX4_addBuffer 44 = .ok (.i2l, 1) := by decide +kernel
theorem dX4_addBuffer_45 : decode cX4_addBuffer 45 = .ok (.ladd, 1) := by decide +kernel
theorem dX4_addBuffer_46 : decode cX4_addBuffer 46 = .ok (.lstore_n 3, 1) := by decide +kernel
theorem dX4_addBuffer_47 : decode cX4_addBuffer 47 = .ok (.iinc 5 1, 3) := by decide +kernel
theorem dX4_addBuffer_50 : decode cX4_addBuffer 50 = .ok (.goto (-32), 3) := by decide +kernel
theorem dX4_addBuffer_53 : decode cX4_addBuffer 53 = .ok (.lload_n 3, 1) := by decide +kernel
theorem dX4_addBuffer_54 : decode cX4_addBuffer 54 = .ok (.lreturn, 1) := by decide +kernel
theorem dX4_sum_0 : decode cX4_sum 0 = .ok (.iconst 0, 1) := by decide +kernel
theorem dX4_sum_1 : decode cX4_sum 1 = .ok (.istore_n 1, 1) := by decide +kernel
theorem dX4_sum_2 : decode cX4_sum 2 = .ok (.aload_n 0, 1) := by decide +kernel
theorem dX4_sum_3 : decode cX4_sum 3 = .ok (.astore_n 2, 1) := by decide +kernel
theorem dX4_sum_4 : decode cX4_sum 4 = .ok (.aload_n 2, 1) := by decide +kernel
theorem dX4_sum_5 : decode cX4_sum 5 = .ok (.arraylength, 1) := by decide +kernel
theorem dX4_sum_6 : decode cX4_sum 6 = .ok (.istore_n 3, 1) := by decide +kernel
theorem dX4_sum_7 : decode cX4_sum 7 = .ok (.iconst 0, 1) := by decide +kernel
theorem dX4_sum_8 : decode cX4_sum 8 = .ok (.istore 4, 2) := by decide +kernel
theorem dX4_sum_10 : decode cX4_sum 10 = .ok (.iload 4, 2) := by decide +kernel
theorem dX4_sum_12 : decode cX4_sum 12 = .ok (.iload_n 3, 1) := by decide +kernel
theorem dX4_sum_13 : decode cX4_sum 13 = .ok (.if_icmp .ge 20, 3) := by decide +kernel
theorem dX4_sum_16 : decode cX4_sum 16 = .ok (.aload_n 2, 1) := by decide +kernel
theorem dX4_sum_17 : decode cX4_sum 17 = .ok (.iload 4, 2) := by decide +kernel
theorem dX4_sum_19 : decode cX4_sum 19 = .ok (.iaload, 1) := by decide +kernel
theorem dX4_sum_20 : decode cX4_sum 20 = .ok (.istore 5, 2) := by decide +kernel
theorem dX4_sum_22 : decode cX4_sum 22 = .ok (.iload_n 1, 1) := by decide +kernel
theorem dX4_sum_23 : decode cX4_sum 23 = .ok (.iload 5, 2) := by decide +kernel
theorem dX4_sum_25 : decode cX4_sum 25 = .ok (.iadd, 1) := by decide +kernel
theorem dX4_sum_26 : decode cX4_sum 26 = .ok (.istore_n 1, 1) := by decide +kernel
theorem dX4_sum_27 : decode cX4_sum 27 = .ok (.iinc 4 1, 3) := by decide +kernel
theorem dX4_sum_30 : decode cX4_sum 30 = .ok (.goto (-20), 3) := by decide +kernel
theorem dX4_sum_33 : decode cX4_sum 33 = .ok (.iload_n 1, 1) := by decide +kernel
theorem dX4_sum_34 : decode cX4_sum 34 = .ok (.ireturn, 1) := by decide +kernel
theorem dX5_init_0 : decode cX5_init 0 = .ok (.aload_n 0, 1) := by decide +kernel
theorem dX5_init_1 : decode cX5_init 1 = .ok (.invokespecial 1, 3) := by decide +kernel
theorem dX5_init_4 : decode cX5_init 4 = .ok (.aload_n 0, 1) := by decide +kernel
theorem dX5_init_5 : decode cX5_init 5 = .ok (.sipush 800, 3) := by decide +kernel
theorem dX5_init_8 : decode cX5_init 8 = .ok (.newarray .int, 2) := by decide +kernel
theorem dX5_init_10 : decode cX5_init 10 = .ok (.putfield 7, 3) := by decide +kernel
theorem dX5_init_13 : decode cX5_init 13 = .ok (.aload_n 0, 1) := by decide +kernel
theorem dX5_init_14 : decode cX5_init 14 = .ok (.sipush 800, 3) := by decide +kernel
theorem dX5_init_17 : decode cX5_init 17 = .ok (.newarray .int, 2) := by decide +kernel
theorem dX5_init_19 : decode cX5_init 19 = .ok (.putfield 13, 3) := by decide +kernel
theorem dX5_init_22 : decode cX5_init 22 = .ok (.aload_n 0, 1) := by decide +kernel
theorem dX5_init_23 : decode cX5_init 23 = .ok (.sipush 4800, 3) := by decide +kernel
theorem dX5_init_26 : decode cX5_init 26 = .ok (.newarray .int, 2) := by decide +kernel
theorem dX5_init_28 : decode cX5_init 28 = .ok (.putfield 16, 3) := by decide +kernel
theorem dX5_init_31 : decode cX5_init 31 = .ok (.aload_n 0, 1) := by decide +kernel
theorem dX5_init_32 : decode cX5_init 32 = .ok (.bipush 60, 2) := by decide +kernel
theorem dX5_init_34 : decode cX5_init 34 = .ok (.newarray .int, 2) := by decide +kernel
theorem dX5_init_36 : decode cX5_init 36 = .ok (.putfield 19, 3) := by decide +kernel
theorem dX5_init_39 : decode cX5_init 39 = .ok (.aload_n 0, 1) := by decide +kernel
theorem dX5_init_40 : decode cX5_init 40 = .ok (.bipush 124, 2) := by decide +kernel
theorem dX5_init_42 : decode cX5_init 42 = .ok (.newarray .int, 2) := by decide +kernel
theorem dX5_init_44 : decode cX5_init 44 = .ok (.putfield 22, 3) := by decide +kernel
theorem dX5_init_47 : decode cX5_init 47 = .ok (.aload_n 0, 1) := by decide +kernel
theorem dX5_init_48 : decode cX5_init 48 = .ok (.getfield 7, 3) := by decide +kernel
theorem dX5_init_51 : decode cX5_init 51 = .ok (.iconst 1, 1) := by decide +kernel
theorem dX5_init_52 : decode cX5_init 52 = .ok (.iconst 5, 1) := by decide +kernel
theorem dX5_init_53 : decode cX5_init 53 = .ok (.iastore, 1) := by decide +kernel
theorem dX5_init_54 : decode cX5_init 54 = .ok (.aload_n 0, 1) := by decide +kernel
theorem dX5_init_55 : decode cX5_init 55 = .ok (.getfield 7, 3) := by decide +kernel
theorem dX5_init_58 : decode cX5_init 58 = .ok (.iconst 2, 1) := by decide +kernel
theorem dX5_init_59 : decode cX5_init 59 = .ok (.bipush 16, 2) := by decide +kernel
theorem dX5_init_61 : decode cX5_init 61 = .ok (.iastore, 1) := by decide +kernel
theorem dX5_init_62 : decode cX5_init 62 = .ok (.aload_n 0, 1) := by decide +kernel
theorem dX5_init_63 : decode cX5_init 63 = .ok (.getfield 7, 3) := by decide +kernel
theorem dX5_init_66 : decode cX5_init 66 = .ok (.iconst 4, 1) := by decide +kernel
theorem dX5_init_67 : decode cX5_init 67 = .ok (.bipush 32, 2) := by decide +kernel
theorem dX5_init_69 : decode cX5_init 69 = .ok (.iastore, 1) := by decide +kernel
theorem dX5_init_70 : decode cX5_init 70 = .ok (.iconst 0, 1) := by decide +kernel
theorem dX5_init_71 : decode cX5_init 71 = .ok (.istore_n 1, 1) := by decide +kernel
theorem dX5_init_72 : decode cX5_init 72 = .ok (.iload_n 1, 1) := by decide +kernel
theorem dX5_init_73 : decode cX5_init 73 = .ok (.bipush 64, 2) := by decide +kernel
theorem dX5_init_75 : decode cX5_init 75 = .ok (.if_icmp .ge 22, 3) := by decide +kernel
theorem dX5_init_78 : decode cX5_init 78 = .ok (.aload_n 0, 1) := by decide +kernel
theorem dX5_init_79 : decode cX5_init 79 = .ok (.getfield 7, 3) := by decide +kernel
theorem dX5_init_82 : decode cX5_init 82 = .ok (.bipush 32, 2) := by decide +kernel
theorem dX5_init_84 : decode cX5_init 84 = .ok (.bipush 12, 2) := by decide +kernel
theorem dX5_init_86 : decode cX5_init 86 = .ok (.iload_n 1, 1) := by decide +kernel
theorem dX5_init_87 : decode cX5_init 87 = .ok (.imul, 1) := by decide +kernel
theorem dX5_init_88 : decode cX5_init 88 = .ok (.iadd, 1) := by decide +kernel
theorem dX5_init_89 : decode cX5_init 89 = .ok (.iconst (-1), 1) := by decide +kernel
theorem dX5_init_90 : decode cX5_init 90 = .ok (.iastore, 1) := by decide +kernel
theorem dX5_init_91 : decode cX5_init 91 = .ok (.iinc 1 1, 3) := by decide +kernel
theorem dX5_init_94 : decode cX5_init 94 = .ok (.goto (-22), 3) := by decide +kernel
theorem dX5_init_97 : decode cX5_init 97 = .ok (.return_, 1) := by decide +kernel
theorem dX5_thrown_0 : decode cX5_thrown 0 = .ok (.aload_n 0, 1) := by decide +kernel
theorem dX5_thrown_1 : decode cX5_thrown 1 = .ok (.getfield 25, 3) := by decide +kernel
theorem dX5_thrown_4 : decode cX5_thrown 4 = .ok (.ireturn, 1) := by decide +kernel
theorem dX5_fails_0 : decode cX5_fails 0 = .ok (.aload_n 0, 1) := by decide +kernel
theorem dX5_fails_1 : decode cX5_fails 1 = .ok (.iload_n 1, 1) := by decide +kernel
theorem dX5_fails_2 : decode cX5_fails 2 = .ok (.putfield 25, 3) := by decide +kernel
theorem dX5_fails_5 : decode cX5_fails 5 = .ok (.iconst 0, 1) := by decide +kernel
theorem dX5_fails_6 : decode cX5_fails 6 = .ok (.ireturn, 1) := by decide +kernel
theorem dX5_in_0 : decode cX5_in 0 = .ok (.iload_n 0, 1) := by decide +kernel
theorem dX5_in_1 : decode cX5_in 1 = .ok (.iload_n 1, 1) := by decide +kernel
theorem dX5_in_2 : decode cX5_in 2 = .ok (.if_icmp .lt 12, 3) := by decide +kernel
theorem dX5_in_5 : decode cX5_in 5 = .ok (.iload_n 0, 1) := by decide +kernel
theorem dX5_in_6 : decode cX5_in 6 = .ok (.iload_n 2, 1) := by decide +kernel
theorem dX5_in_7 : decode cX5_in 7 = .ok (.if_icmp .gt 7, 3) := by decide +kernel
theorem dX5_in_10 : decode cX5_in 10 = .ok (.iconst 1, 1) := by decide +kernel
theorem dX5_in_11 : decode cX5_in 11 = .ok (.goto 4, 3) := by decide +kernel
theorem dX5_in_14 : decode cX5_in 14 = .ok (.iconst 0, 1) := by decide +kernel
theorem dX5_in_15 : decode cX5_in 15 = .ok (.ireturn, 1) := by decide +kernel
theorem dX5_isHolder_0 : decode cX5_isHolder 0 = .ok (.iload_n 0, 1) := by decide +kernel
theorem dX5_isHolder_1 : decode cX5_isHolder 1 = .ok (.iconst 0, 1) := by decide +kernel
theorem dX5_isHolder_2 : decode cX5_isHolder 2 = .ok (.bipush 7, 2) := by decide +kernel
theorem dX5_isHolder_4 : decode cX5_isHolder 4 = .ok (.invokestatic 29, 3) := by decide +kernel
theorem dX5_isHolder_7 : decode cX5_isHolder 7 = .ok (.ireturn, 1) := by decide +kernel
theorem dX5_isNumber_0 : decode cX5_isNumber 0 = .ok (.iload_n 1, 1) := by decide +kernel
theorem dX5_isNumber_1 : decode cX5_isNumber 1 = .ok (.iconst 0, 1) := by decide +kernel
theorem dX5_isNumber_2 : decode cX5_isNumber 2 = .ok (.aload_n 0, 1) := by decide +kernel
theorem dX5_isNumber_3 : decode cX5_isNumber 3 = .ok (.getfield 7, 3) := by decide +kernel
theorem dX5_isNumber_6 : decode cX5_isNumber 6 = .ok (.iconst 4, 1) := by decide +kernel
theorem dX5_isNumber_7 : decode cX5_isNumber 7 = .ok (.iaload, 1) := by decide +kernel
theorem dX5_isNumber_8 : decode cX5_isNumber 8 = .ok (.iconst 1, 1) := by decide +kernel
theorem dX5_isNumber_9 : decode cX5_isNumber 9 = .ok (.isub, 1) := by decide +kernel
theorem dX5_isNumber_10 : decode cX5_isNumber 10 = .ok (.invokestatic 29, 3) := by decide +kernel
theorem dX5_isNumber_13 : decode cX5_isNumber 13 = .ok (.ireturn, 1) := by decide +kernel
theorem dX5_isTerm_0 : decode cX5_isTerm 0 = .ok (.iload_n 0, 1) := by decide +kernel
theorem dX5_isTerm_1 : decode cX5_isTerm 1 = .ok (.iconst 1, 1) := by decide +kernel
theorem dX5_isTerm_2 : decode cX5_isTerm 2 = .ok (.sipush 999, 3) := by decide +kernel
theorem dX5_isTerm_5 : decode cX5_isTerm 5 = .ok (.invokestatic 29, 3) := by decide +kernel
theorem dX5_isTerm_8 : decode cX5_isTerm 8 = .ok (.ireturn, 1) := by decide +kernel
theorem dX5_saves_0 : decode cX5_saves 0 = .ok (.aload_n 0, 1) := by decide +kernel
theorem dX5_saves_1 : decode cX5_saves 1 = .ok (.getfield 33, 3) := by decide +kernel
theorem dX5_saves_4 : decode cX5_saves 4 = .ok (.bipush 6, 2) := by decide +kernel
theorem dX5_saves_6 : decode cX5_saves 6 = .ok (.if_icmp .ne 44, 3) := by decide +kernel
theorem dX5_saves_9 : decode cX5_saves 9 = .ok (.iconst 0, 1) := by decide +kernel
theorem dX5_saves_10 : decode cX5_saves 10 = .ok (.istore_n 1, 1) := by decide +kernel
theorem dX5_saves_11 : decode cX5_saves 11 = .ok (.iload_n 1, 1) := by decide +kernel
theorem dX5_saves_12 : decode cX5_saves 12 = .ok (.sipush 4000, 3) := by decide +kernel
theorem dX5_saves_15 : decode cX5_saves 15 = .ok (.if_icmp .ge 25, 3) := by decide +kernel
theorem dX5_saves_18 : decode cX5_saves 18 = .ok (.aload_n 0, 1) := by decide +kernel
theorem dX5_saves_19 : decode cX5_saves 19 = .ok (.getfield 16, 3) := by decide +kernel
theorem dX5_saves_22 : decode cX5_saves 22 = .ok (.iload_n 1, 1) := by decide +kernel
theorem dX5_saves_23 : decode cX5_saves 23 = .ok (.aload_n 0, 1) := by decide +kernel
theorem dX5_saves_24 : decode cX5_saves 24 = .ok (.getfield 16, 3) := by decide +kernel
theorem dX5_saves_27 : decode cX5_saves 27 = .ok (.iload_n 1, 1) := by decide +kernel
theorem dX5_saves_28 : decode cX5_saves 28 = .ok (.sipush 800, 3) := by decide +kernel
theorem dX5_saves_31 : decode cX5_saves 31 = .ok (.iadd, 1) := by decide +kernel
theorem dX5_saves_32 : decode cX5_saves 32 = .ok (.iaload, 1) := by decide +kernel
theorem dX5_saves_33 : decode cX5_saves 33 = .ok (.iastore, 1) := by decide +kernel
theorem dX5_saves_34 : decode cX5_saves 34 = .ok (.iinc 1 1, 3) := by decide +kernel
theorem dX5_saves_37 : decode cX5_saves 37 = .ok (.goto (-26), 3) := by decide +kernel
theorem dX5_saves_40 : decode cX5_saves 40 = .ok (.aload_n 0, 1) := by decide +kernel
theorem dX5_saves_41 : decode cX5_saves 41 = .ok (.dup, 1) := by decide +kernel
theorem dX5_saves_42 : decode cX5_saves 42 = .ok (.getfield 33, 3) := by decide +kernel
theorem dX5_saves_45 : decode cX5_saves 45 = .ok (.iconst 1, 1) := by decide +kernel
theorem dX5_saves_46 : decode cX5_saves 46 = .ok (.isub, 1) := by decide +kernel
theorem dX5_saves_47 : decode cX5_saves 47 = .ok (.putfield 33, 3) := by decide +kernel
theorem dX5_saves_50 : decode cX5_saves 50 = .ok (.iconst 0, 1) := by decide +kernel
theorem dX5_saves_51 : decode cX5_saves 51 = .ok (.istore_n 1, 1) := by decide +kernel
theorem dX5_saves_52 : decode cX5_saves 52 = .ok (.iload_n 1, 1) := by decide +kernel
theorem dX5_saves_53 : decode cX5_saves 53 = .ok (.sipush 800, 3) := by decide +kernel
theorem dX5_saves_56 : decode cX5_saves 56 = .ok (.if_icmp .ge 30, 3) := by decide +kernel
theorem dX5_saves_59 : decode cX5_saves 59 = .ok (.aload_n 0, 1) := by decide +kernel
theorem dX5_saves_60 : decode cX5_saves 60 = .ok (.getfield 16, 3) := by decide +kernel
theorem dX5_saves_63 : decode cX5_saves 63 = .ok (.sipush 800, 3) := by decide +kernel
theorem dX5_saves_66 : decode cX5_saves 66 = .ok (.aload_n 0, 1) := by decide +kernel
theorem dX5_saves_67 : decode cX5_saves 67 = .ok (.getfield 33, 3) := by decide +kernel
theorem dX5_saves_70 : decode cX5_saves 70 = .ok (.imul, 1) := by decide +kernel
theorem dX5_saves_71 : decode cX5_saves 71 = .ok (.iload_n 1, 1) := by decide +kernel
theorem dX5_saves_72 : decode cX5_saves 72 = .ok (.iadd, 1) := by decide +kernel
theorem dX5_saves_73 : decode cX5_saves 73 = .ok (.aload_n 0, 1) := by decide +kernel
theorem dX5_saves_74 : decode cX5_saves 74 = .ok (.getfield 7, 3) := by decide +kernel
theorem dX5_saves_77 : decode cX5_saves 77 = .ok (.iload_n 1, 1) := by decide +kernel
theorem dX5_saves_78 : decode cX5_saves 78 = .ok (.iaload, 1) := by decide +kernel
theorem dX5_saves_79 : decode cX5_saves 79 = .ok (.iastore, 1) := by decide +kernel
theorem dX5_saves_80 : decode cX5_saves 80 = .ok (.iinc 1 1, 3) := by decide +kernel
theorem dX5_saves_83 : decode cX5_saves 83 = .ok (.goto (-31), 3) := by decide +kernel
theorem dX5_saves_86 : decode cX5_saves 86 = .ok (.aload_n 0, 1) := by decide +kernel
theorem dX5_saves_87 : decode cX5_saves 87 = .ok (.dup, 1) := by decide +kernel
theorem dX5_saves_88 : decode cX5_saves 88 = .ok (.getfield 33, 3) := by decide +kernel
theorem dX5_saves_91 : decode cX5_saves 91 = .ok (.iconst 1, 1) := by decide +kernel
theorem dX5_saves_92 : decode cX5_saves 92 = .ok (.iadd, 1) := by decide +kernel
theorem dX5_saves_93 : decode cX5_saves 93 = .ok (.putfield 33, 3) := by decide +kernel
theorem dX5_saves_96 : decode cX5_saves 96 = .ok (.return_, 1) := by decide +kernel
theorem dX5_undo_0 : decode cX5_undo 0 = .ok (.aload_n 0, 1) := by decide +kernel
theorem dX5_undo_1 : decode cX5_undo 1 = .ok (.iconst 0, 1) := by decide +kernel
theorem dX5_undo_2 : decode cX5_undo 2 = .ok (.putfield 25, 3) := by decide +kernel
theorem dX5_undo_5 : decode cX5_undo 5 = .ok (.aload_n 0, 1) := by decide +kernel
theorem dX5_undo_6 : decode cX5_undo 6 = .ok (.getfield 33, 3) := by decide +kernel
theorem dX5_undo_9 : decode cX5_undo 9 = .ok (.ifCond .ne 9, 3) := by decide +kernel
theorem dX5_undo_12 : decode cX5_undo 12 = .ok (.aload_n 0, 1) := by decide +kernel
theorem dX5_undo_13 : decode cX5_undo 13 = .ok (.iconst 1, 1) := by decide +kernel
theorem dX5_undo_14 : decode cX5_undo 14 = .ok (.invokevirtual 36, 3) := by decide +kernel
theorem dX5_undo_17 : decode cX5_undo 17 = .ok (.ireturn, 1) := by decide +kernel
theorem dX5_undo_18 : decode cX5_undo 18 = .ok (.aload_n 0, 1) := by decide +kernel
theorem dX5_undo_19 : decode cX5_undo 19 = .ok (.dup, 1) := by decide +kernel
theorem dX5_undo_20 : decode cX5_undo 20 = .ok (.getfield 33, 3) := by decide +kernel
theorem dX5_undo_23 : decode cX5_undo 23 = .ok (.iconst 1, 1) := by decide +kernel
theorem dX5_undo_24 : decode cX5_undo 24 = .ok (.isub, 1) := by decide +kernel
theorem dX5_undo_25 : decode cX5_undo 25 = .ok (.putfield 33, 3) := by decide +kernel
theorem dX5_undo_28 : decode cX5_undo 28 = .ok (.iconst 0, 1) := by decide +kernel
theorem dX5_undo_29 : decode cX5_undo 29 = .ok (.istore_n 1, 1) := by decide +kernel
theorem dX5_undo_30 : decode cX5_undo 30 = .ok (.iload_n 1, 1) := by decide +kernel
theorem dX5_undo_31 : decode cX5_undo 31 = .ok (.sipush 800, 3) := by decide +kernel
theorem dX5_undo_34 : decode cX5_undo 34 = .ok (.if_icmp .ge 30, 3) := by decide +kernel
theorem dX5_undo_37 : decode cX5_undo 37 = .ok (.aload_n 0, 1) := by decide +kernel
theorem dX5_undo_38 : decode cX5_undo 38 = .ok (.getfield 7, 3) := by decide +kernel
theorem dX5_undo_41 : decode cX5_undo 41 = .ok (.iload_n 1, 1) := by decide +kernel
theorem dX5_undo_42 : decode cX5_undo 42 = .ok (.aload_n 0, 1) := by decide +kernel
theorem dX5_undo_43 : decode cX5_undo 43 = .ok (.getfield 16, 3) := by decide +kernel
theorem dX5_undo_46 : decode cX5_undo 46 = .ok (.sipush 800, 3) := by decide +kernel
theorem dX5_undo_49 : decode cX5_undo 49 = .ok (.aload_n 0, 1) := by decide +kernel
theorem dX5_undo_50 : decode cX5_undo 50 = .ok (.getfield 33, 3) := by decide +kernel
theorem dX5_undo_53 : decode cX5_undo 53 = .ok (.imul, 1) := by decide +kernel
theorem dX5_undo_54 : decode cX5_undo 54 = .ok (.iload_n 1, 1) := by decide +kernel
theorem dX5_undo_55 : decode cX5_undo 55 = .ok (.iadd, 1) := by decide +kernel
theorem dX5_undo_56 : decode cX5_undo 56 = .ok (.iaload, 1) := by decide +kernel
theorem dX5_undo_57 : decode cX5_undo 57 = .ok (.iastore, 1) := by decide +kernel
theorem dX5_undo_58 : decode cX5_undo 58 = .ok (.iinc 1 1, 3) := by decide +kernel
theorem dX5_undo_61 : decode cX5_undo 61 = .ok (.goto (-31), 3) := by decide +kernel
theorem dX5_undo_64 : decode cX5_undo 64 = .ok (.aload_n 0, 1) := by decide +kernel
theorem dX5_undo_65 : decode cX5_undo 65 = .ok (.getfield 33, 3) := by decide +kernel
theorem dX5_undo_68 : decode cX5_undo 68 = .ok (.ireturn, 1) := by decide +kernel
theorem dX5_tries_0 : decode cX5_tries 0 = .ok (.iconst 0, 1) := by decide +kernel
theorem dX5_tries_1 : decode cX5_tries 1 = .ok (.istore_n 1, 1) := by decide +kernel
theorem dX5_tries_2 : decode cX5_tries 2 = .ok (.iload_n 1, 1) := by decide +kernel
theorem dX5_tries_3 : decode cX5_tries 3 = .ok (.sipush 800, 3) := by decide +kernel
theorem dX5_tries_6 : decode cX5_tries 6 = .ok (.if_icmp .ge 21, 3) := by decide +kernel
theorem dX5_tries_9 : decode cX5_tries 9 = .ok (.aload_n 0, 1) := by decide +kernel
theorem dX5_tries_10 : decode cX5_tries 10 = .ok (.getfield 13, 3) := by decide +kernel
theorem dX5_tries_13 : decode cX5_tries 13 = .ok (.iload_n 1, 1) := by decide +kernel
theorem dX5_tries_14 : decode cX5_tries 14 = .ok (.aload_n 0, 1) := by decide +kernel
theorem dX5_tries_15 : decode cX5_tries 15 = .ok (.getfield 7, 3) := by decide +kernel
theorem dX5_tries_18 : decode cX5_tries 18 = .ok (.iload_n 1, 1) := by decide +kernel
theorem dX5_tries_19 : decode cX5_tries 19 = .ok (.iaload, 1) := by decide +kernel
theorem dX5_tries_20 : decode cX5_tries 20 = .ok (.iastore, 1) := by decide +kernel
theorem dX5_tries_21 : decode cX5_tries 21 = .ok (.iinc 1 1, 3) := by decide +kernel
theorem dX5_tries_24 : decode cX5_tries 24 = .ok (.goto (-22), 3) := by decide +kernel
theorem dX5_tries_27 : decode cX5_tries 27 = .ok (.return_, 1) := by decide +kernel
theorem dX5_row_0 : decode cX5_row 0 = .ok (.bipush 32, 2) := by decide +kernel
theorem dX5_row_2 : decode cX5_row 2 = .ok (.bipush 12, 2) := by decide +kernel
theorem dX5_row_4 : decode cX5_row 4 = .ok (.iload_n 0, 1) := by decide +kernel
theorem dX5_row_5 : decode cX5_row 5 = .ok (.imul, 1) := by decide +kernel
theorem dX5_row_6 : decode cX5_row 6 = .ok (.iadd, 1) := by decide +kernel
theorem dX5_row_7 : decode cX5_row 7 = .ok (.ireturn, 1) := by decide +kernel
theorem dX5_isFree_0 : decode cX5_isFree 0 = .ok (.aload_n 0, 1) := by decide +kernel
theorem dX5_isFree_1 : decode cX5_isFree 1 = .ok (.iload_n 1, 1) := by decide +kernel
theorem dX5_isFree_2 : decode cX5_isFree 2 = .ok (.invokestatic 40, 3) := by decide +kernel
theorem dX5_isFree_5 : decode cX5_isFree 5 = .ok (.iaload, 1) := by decide +kernel
theorem dX5_isFree_6 : decode cX5_isFree 6 = .ok (.iconst (-1), 1) := by decide +kernel
theorem dX5_isFree_7 : decode cX5_isFree 7 = .ok (.if_icmp .ne 7, 3) := by decide +kernel
theorem dX5_isFree_10 : decode cX5_isFree 10 = .ok (.iconst 1, 1) := by decide +kernel
theorem dX5_isFree_11 : decode cX5_isFree 11 = .ok (.goto 4, 3) := by decide +kernel
theorem dX5_isFree_14 : decode cX5_isFree 14 = .ok (.iconst 0, 1) := by decide +kernel
theorem dX5_isFree_15 : decode cX5_isFree 15 = .ok (.ireturn, 1) := by decide +kernel
theorem dX5_stageOf_0 : decode cX5_stageOf 0 = .ok (.aload_n 0, 1) := by decide +kernel
theorem dX5_stageOf_1 : decode cX5_stageOf 1 = .ok (.iload_n 1, 1) := by decide +kernel
theorem dX5_stageOf_2 : decode cX5_stageOf 2 = .ok (.invokestatic 43, 3) := by decide +kernel
theorem dX5_stageOf_5 : decode cX5_stageOf 5 = .ok (.ifCond .eq 7, 3) := by decide +kernel
theorem dX5_stageOf_8 : decode cX5_stageOf 8 = .ok (.iconst 0, 1) := by decide +kernel
theorem dX5_stageOf_9 : decode cX5_stageOf 9 = .ok (.goto 22, 3) := by decide +kernel
theorem dX5_stageOf_12 : decode cX5_stageOf 12 = .ok (.aload_n 0, 1) := by decide +kernel
theorem dX5_stageOf_13 : decode cX5_stageOf 13 = .ok (.iconst 0, 1) := by decide +kernel
theorem dX5_stageOf_14 : decode cX5_stageOf 14 = .ok (.iaload, 1) := by decide +kernel
theorem dX5_stageOf_15 : decode cX5_stageOf 15 = .ok (.aload_n 0, 1) := by decide +kernel
theorem dX5_stageOf_16 : decode cX5_stageOf 16 = .ok (.iload_n 1, 1) := by decide +kernel
theorem dX5_stageOf_17 : decode cX5_stageOf 17 = .ok (.invokestatic 40, 3) := by decide +kernel
theorem dX5_stageOf_20 : decode cX5_stageOf 20 = .ok (.iconst 2, 1) := by decide +kernel
theorem dX5_stageOf_21 : decode cX5_stageOf 21 = .ok (.iadd, 1) := by decide +kernel
theorem dX5_stageOf_22 : decode cX5_stageOf 22 = .ok (.iaload, 1) := by decide +kernel
theorem dX5_stageOf_23 : decode cX5_stageOf 23 = .ok (.if_icmp .ge 7, 3) := by decide +kernel
theorem dX5_stageOf_26 : decode cX5_stageOf 26 = .ok (.iconst 1, 1) := by decide +kernel
theorem dX5_stageOf_27 : decode cX5_stageOf 27 = .ok (.goto 4, 3) := by decide +kernel
theorem dX5_stageOf_30 : decode cX5_stageOf 30 = .ok (.iconst 2, 1) := by decide +kernel
theorem dX5_stageOf_31 : decode cX5_stageOf 31 = .ok (.ireturn, 1) := by decide +kernel
theorem dX5_has_0 : decode cX5_has 0 = .ok (.iconst 0, 1) := by decide +kernel
theorem dX5_has_1 : decode cX5_has 1 = .ok (.istore_n 2, 1) := by decide +kernel
theorem dX5_has_2 : decode cX5_has 2 = .ok (.iconst 0, 1) := by decide +kernel
theorem dX5_has_3 : decode cX5_has 3 = .ok (.istore_n 3, 1) := by decide +kernel
theorem dX5_has_4 : decode cX5_has 4 = .ok (.iload_n 3, 1) := by decide +kernel
theorem dX5_has_5 : decode cX5_has 5 = .ok (.aload_n 0, 1) := by decide +kernel
theorem dX5_has_6 : decode cX5_has 6 = .ok (.iconst 4, 1) := by decide +kernel
theorem dX5_has_7 : decode cX5_has 7 = .ok (.iaload, 1) := by decide +kernel
theorem dX5_has_8 : decode cX5_has 8 = .ok (.if_icmp .ge 27, 3) := by decide +kernel
theorem dX5_has_11 : decode cX5_has 11 = .ok (.iload_n 2, 1) := by decide +kernel
theorem dX5_has_12 : decode cX5_has 12 = .ok (.aload_n 0, 1) := by decide +kernel
theorem dX5_has_13 : decode cX5_has 13 = .ok (.iload_n 3, 1) := by decide +kernel
theorem dX5_has_14 : decode cX5_has 14 = .ok (.invokestatic 40, 3) := by decide +kernel
theorem dX5_has_17 : decode cX5_has 17 = .ok (.iaload, 1) := by decide +kernel
theorem dX5_has_18 : decode cX5_has 18 = .ok (.iload_n 1, 1) := by decide +kernel
theorem dX5_has_19 : decode cX5_has 19 = .ok (.if_icmp .ne 7, 3) := by decide +kernel
theorem dX5_has_22 : decode cX5_has 22 = .ok (.iconst 1, 1) := by decide +kernel
theorem dX5_has_23 : decode cX5_has 23 = .ok (.goto 4, 3) := by decide +kernel
theorem dX5_has_26 : decode cX5_has 26 = .ok (.iconst 0, 1) := by decide +kernel
theorem dX5_has_27 : decode cX5_has 27 = .ok (.iadd, 1) := by decide +kernel
theorem dX5_has_28 : decode cX5_has 28 = .ok (.istore_n 2, 1) := by decide +kernel
theorem dX5_has_29 : decode cX5_has 29 = .ok (.iinc 3 1, 3) := by decide +kernel
theorem dX5_has_32 : decode cX5_has 32 = .ok (.goto (-28), 3) := by decide +kernel
theorem dX5_has_35 : decode cX5_has 35 = .ok (.iload_n 2, 1) := by decide +kernel
theorem dX5_has_36 : decode cX5_has 36 = .ok (.ireturn, 1) := by decide +kernel
theorem dX5_hasRoom_0 : decode cX5_hasRoom 0 = .ok (.aload_n 0, 1) := by decide +kernel
theorem dX5_hasRoom_1 : decode cX5_hasRoom 1 = .ok (.iload_n 1, 1) := by decide +kernel
theorem dX5_hasRoom_2 : decode cX5_hasRoom 2 = .ok (.invokestatic 47, 3) := by decide +kernel
theorem dX5_hasRoom_5 : decode cX5_hasRoom 5 = .ok (.iload_n 2, 1) := by decide +kernel
theorem dX5_hasRoom_6 : decode cX5_hasRoom 6 = .ok (.iadd, 1) := by decide +kernel
theorem dX5_hasRoom_7 : decode cX5_hasRoom 7 = .ok (.aload_n 0, 1) := by decide +kernel
theorem dX5_hasRoom_8 : decode cX5_hasRoom 8 = .ok (.iconst 2, 1) := by decide +kernel
theorem dX5_hasRoom_9 : decode cX5_hasRoom 9 = .ok (.iaload, 1) := by decide +kernel
theorem dX5_hasRoom_10 : decode cX5_hasRoom 10 = .ok (.if_icmp .gt 7, 3) := by decide +kernel
theorem dX5_hasRoom_13 : decode cX5_hasRoom 13 = .ok (.iconst 1, 1) := by decide +kernel
theorem dX5_hasRoom_14 : decode cX5_hasRoom 14 = .ok (.goto 4, 3) := by decide +kernel
theorem dX5_hasRoom_17 : decode cX5_hasRoom 17 = .ok (.iconst 0, 1) := by decide +kernel
theorem dX5_hasRoom_18 : decode cX5_hasRoom 18 = .ok (.ireturn, 1) := by decide +kernel
theorem dX5_atStage_0 : decode cX5_atStage 0 = .ok (.iconst 0, 1) := by decide +kernel
theorem dX5_atStage_1 : decode cX5_atStage 1 = .ok (.istore_n 2, 1) := by decide +kernel
theorem dX5_atStage_2 : decode cX5_atStage 2 = .ok (.iconst 0, 1) := by decide +kernel
theorem dX5_atStage_3 : decode cX5_atStage 3 = .ok (.istore_n 3, 1) := by decide +kernel
theorem dX5_atStage_4 : decode cX5_atStage 4 = .ok (.iload_n 3, 1) := by decide +kernel
theorem dX5_atStage_5 : decode cX5_atStage 5 = .ok (.aload_n 0, 1) := by decide +kernel
theorem dX5_atStage_6 : decode cX5_atStage 6 = .ok (.iconst 4, 1) := by decide +kernel
theorem dX5_atStage_7 : decode cX5_atStage 7 = .ok (.iaload, 1) := by decide +kernel
theorem dX5_atStage_8 : decode cX5_atStage 8 = .ok (.if_icmp .ge 26, 3) := by decide +kernel
theorem dX5_atStage_11 : decode cX5_atStage 11 = .ok (.iload_n 2, 1) := by decide +kernel
theorem dX5_atStage_12 : decode cX5_atStage 12 = .ok (.aload_n 0, 1) := by decide +kernel
theorem dX5_atStage_13 : decode cX5_atStage 13 = .ok (.iload_n 3, 1) := by decide +kernel
theorem dX5_atStage_14 : decode cX5_atStage 14 = .ok (.invokestatic 51, 3) := by decide +kernel
theorem dX5_atStage_17 : decode cX5_atStage 17 = .ok (.iload_n 1, 1) := by decide +kernel
theorem dX5_atStage_18 : decode cX5_atStage 18 = .ok (.if_icmp .ne 7, 3) := by decide +kernel
theorem dX5_atStage_21 : decode cX5_atStage 21 = .ok (.iconst 1, 1) := by decide +kernel
theorem dX5_atStage_22 : decode cX5_atStage 22 = .ok (.goto 4, 3) := by decide +kernel
theorem dX5_atStage_25 : decode cX5_atStage 25 = .ok (.iconst 0, 1) := by decide +kernel
theorem dX5_atStage_26 : decode cX5_atStage 26 = .ok (.iadd, 1) := by decide +kernel
theorem dX5_atStage_27 : decode cX5_atStage 27 = .ok (.istore_n 2, 1) := by decide +kernel
theorem dX5_atStage_28 : decode cX5_atStage 28 = .ok (.iinc 3 1, 3) := by decide +kernel
theorem dX5_atStage_31 : decode cX5_atStage 31 = .ok (.goto (-27), 3) := by decide +kernel
theorem dX5_atStage_34 : decode cX5_atStage 34 = .ok (.iload_n 2, 1) := by decide +kernel
theorem dX5_atStage_35 : decode cX5_atStage 35 = .ok (.ireturn, 1) := by decide +kernel
theorem dX5_gives_0 : decode cX5_gives 0 = .ok (.iload_n 1, 1) := by decide +kernel
theorem dX5_gives_1 : decode cX5_gives 1 = .ok (.invokestatic 40, 3) := by decide +kernel
theorem dX5_gives_4 : decode cX5_gives 4 = .ok (.istore 4, 2) := by decide +kernel
theorem dX5_gives_6 : decode cX5_gives 6 = .ok (.aload_n 0, 1) := by decide +kernel
theorem dX5_gives_7 : decode cX5_gives 7 = .ok (.iload 4, 2) := by decide +kernel
theorem dX5_gives_9 : decode cX5_gives 9 = .ok (.iload_n 2, 1) := by decide +kernel
theorem dX5_gives_10 : decode cX5_gives 10 = .ok (.iastore, 1) := by decide +kernel
theorem dX5_gives_11 : decode cX5_gives 11 = .ok (.aload_n 0, 1) := by decide +kernel
theorem dX5_gives_12 : decode cX5_gives 12 = .ok (.iload 4, 2) := by decide +kernel
theorem dX5_gives_14 : decode cX5_gives 14 = .ok (.iconst 1, 1) := by decide +kernel
theorem dX5_gives_15 : decode cX5_gives 15 = .ok (.iadd, 1) := by decide +kernel
theorem dX5_gives_16 : decode cX5_gives 16 = .ok (.aload_n 0, 1) := by decide +kernel
theorem dX5_gives_17 : decode cX5_gives 17 = .ok (.iconst 0, 1) := by decide +kernel
theorem dX5_gives_18 : decode cX5_gives 18 = .ok (.iaload, 1) := by decide +kernel
theorem dX5_gives_19 : decode cX5_gives 19 = .ok (.iastore, 1) := by decide +kernel
theorem dX5_gives_20 : decode cX5_gives 20 = .ok (.aload_n 0, 1) := by decide +kernel
theorem dX5_gives_21 : decode cX5_gives 21 = .ok (.iload 4, 2) := by decide +kernel
theorem dX5_gives_23 : decode cX5_gives 23 = .ok (.iconst 2, 1) := by decide +kernel
theorem dX5_gives_24 : decode cX5_gives 24 = .ok (.iadd, 1) := by decide +kernel
theorem dX5_gives_25 : decode cX5_gives 25 = .ok (.aload_n 0, 1) := by decide +kernel
theorem dX5_gives_26 : decode cX5_gives 26 = .ok (.iconst 0, 1) := by decide +kernel
theorem dX5_gives_27 : decode cX5_gives 27 = .ok (.iaload, 1) := by decide +kernel
theorem dX5_gives_28 : decode cX5_gives 28 = .ok (.iload_n 3, 1) := by decide +kernel
theorem dX5_gives_29 : decode cX5_gives 29 = .ok (.iadd, 1) := by decide +kernel
theorem dX5_gives_30 : decode cX5_gives 30 = .ok (.iastore, 1) := by decide +kernel
theorem dX5_gives_31 : decode cX5_gives 31 = .ok (.aload_n 0, 1) := by decide +kernel
theorem dX5_gives_32 : decode cX5_gives 32 = .ok (.iload 4, 2) := by decide +kernel
theorem dX5_gives_34 : decode cX5_gives 34 = .ok (.iconst 3, 1) := by decide +kernel
theorem dX5_gives_35 : decode cX5_gives 35 = .ok (.iadd, 1) := by decide +kernel
theorem dX5_gives_36 : decode cX5_gives 36 = .ok (.aload_n 0, 1) := by decide +kernel
theorem dX5_gives_37 : decode cX5_gives 37 = .ok (.iconst 0, 1) := by decide +kernel
theorem dX5_gives_38 : decode cX5_gives 38 = .ok (.iaload, 1) := by decide +kernel
theorem dX5_gives_39 : decode cX5_gives 39 = .ok (.iload_n 3, 1) := by decide +kernel
theorem dX5_gives_40 : decode cX5_gives 40 = .ok (.iadd, 1) := by decide +kernel
theorem dX5_gives_41 : decode cX5_gives 41 = .ok (.aload_n 0, 1) := by decide +kernel
theorem dX5_gives_42 : decode cX5_gives 42 = .ok (.iconst 1, 1) := by decide +kernel
theorem dX5_gives_43 : decode cX5_gives 43 = .ok (.iaload, 1) := by decide +kernel
theorem dX5_gives_44 : decode cX5_gives 44 = .ok (.iadd, 1) := by decide +kernel
theorem dX5_gives_45 : decode cX5_gives 45 = .ok (.iastore, 1) := by decide +kernel
theorem dX5_gives_46 : decode cX5_gives 46 = .ok (.aload_n 0, 1) := by decide +kernel
theorem dX5_gives_47 : decode cX5_gives 47 = .ok (.iload 4, 2) := by decide +kernel
theorem dX5_gives_49 : decode cX5_gives 49 = .ok (.iconst 4, 1) := by decide +kernel
theorem dX5_gives_50 : decode cX5_gives 50 = .ok (.iadd, 1) := by decide +kernel
theorem dX5_gives_51 : decode cX5_gives 51 = .ok (.dup2, 1) := by decide +kernel
theorem dX5_gives_52 : decode cX5_gives 52 = .ok (.iaload, 1) := by decide +kernel
theorem dX5_gives_53 : decode cX5_gives 53 = .ok (.iconst 1, 1) := by decide +kernel
theorem dX5_gives_54 : decode cX5_gives 54 = .ok (.iadd, 1) := by decide +kernel
theorem dX5_gives_55 : decode cX5_gives 55 = .ok (.iastore, 1) := by decide +kernel
theorem dX5_gives_56 : decode cX5_gives 56 = .ok (.aload_n 0, 1) := by decide +kernel
theorem dX5_gives_57 : decode cX5_gives 57 = .ok (.bipush 8, 2) := by decide +kernel
theorem dX5_gives_59 : decode cX5_gives 59 = .ok (.iload_n 2, 1) := by decide +kernel
theorem dX5_gives_60 : decode cX5_gives 60 = .ok (.iadd, 1) := by decide +kernel
theorem dX5_gives_61 : decode cX5_gives 61 = .ok (.dup2, 1) := by decide +kernel
theorem dX5_gives_62 : decode cX5_gives 62 = .ok (.iaload, 1) := by decide +kernel
theorem dX5_gives_63 : decode cX5_gives 63 = .ok (.iconst 1, 1) := by decide +kernel
theorem dX5_gives_64 : decode cX5_gives 64 = .ok (.iadd, 1) := by decide +kernel
theorem dX5_gives_65 : decode cX5_gives 65 = .ok (.iastore, 1) := by decide +kernel
theorem dX5_gives_66 : decode cX5_gives 66 = .ok (.return_, 1) := by decide +kernel
theorem dX5_drops_0 : decode cX5_drops 0 = .ok (.iload_n 1, 1) := by decide +kernel
theorem dX5_drops_1 : decode cX5_drops 1 = .ok (.invokestatic 40, 3) := by decide +kernel
theorem dX5_drops_4 : decode cX5_drops 4 = .ok (.istore_n 3, 1) := by decide +kernel
theorem dX5_drops_5 : decode cX5_drops 5 = .ok (.iload_n 2, 1) := by decide +kernel
theorem dX5_drops_6 : decode cX5_drops 6 = .ok (.istore 4, 2) := by decide +kernel
theorem dX5_drops_8 : decode cX5_drops 8 = .ok (.iload 4, 2) := by decide +kernel
theorem dX5_drops_10 : decode cX5_drops 10 = .ok (.iconst 2, 1) := by decide +kernel
theorem dX5_drops_11 : decode cX5_drops 11 = .ok (.if_icmp .ge 59, 3) := by decide +kernel
theorem dX5_drops_14 : decode cX5_drops 14 = .ok (.aload_n 0, 1) := by decide +kernel
theorem dX5_drops_15 : decode cX5_drops 15 = .ok (.iload_n 3, 1) := by decide +kernel
theorem dX5_drops_16 : decode cX5_drops 16 = .ok (.bipush 6, 2) := by decide +kernel
theorem dX5_drops_18 : decode cX5_drops 18 = .ok (.iadd, 1) := by decide +kernel
theorem dX5_drops_19 : decode cX5_drops 19 = .ok (.iconst 2, 1) := by decide +kernel
theorem dX5_drops_20 : decode cX5_drops 20 = .ok (.iload 4, 2) := by decide +kernel
theorem dX5_drops_22 : decode cX5_drops 22 = .ok (.imul, 1) := by decide +kernel
theorem dX5_drops_23 : decode cX5_drops 23 = .ok (.iadd, 1) := by decide +kernel
theorem dX5_drops_24 : decode cX5_drops 24 = .ok (.aload_n 0, 1) := by decide +kernel
theorem dX5_drops_25 : decode cX5_drops 25 = .ok (.iload_n 3, 1) := by decide +kernel
theorem dX5_drops_26 : decode cX5_drops 26 = .ok (.bipush 6, 2) := by decide +kernel
theorem dX5_drops_28 : decode cX5_drops 28 = .ok (.iadd, 1) := by decide +kernel
theorem dX5_drops_29 : decode cX5_drops 29 = .ok (.iconst 2, 1) := by decide +kernel
theorem dX5_drops_30 : decode cX5_drops 30 = .ok (.iload 4, 2) := by decide +kernel
theorem dX5_drops_32 : decode cX5_drops 32 = .ok (.imul, 1) := by decide +kernel
theorem dX5_drops_33 : decode cX5_drops 33 = .ok (.iadd, 1) := by decide +kernel
theorem dX5_drops_34 : decode cX5_drops 34 = .ok (.iconst 2, 1) := by decide +kernel
theorem dX5_drops_35 : decode cX5_drops 35 = .ok (.iadd, 1) := by decide +kernel
theorem dX5_drops_36 : decode cX5_drops 36 = .ok (.iaload, 1) := by decide +kernel
theorem dX5_drops_37 : decode cX5_drops 37 = .ok (.iastore, 1) := by decide +kernel
theorem dX5_drops_38 : decode cX5_drops 38 = .ok (.aload_n 0, 1) := by decide +kernel
theorem dX5_drops_39 : decode cX5_drops 39 = .ok (.iload_n 3, 1) := by decide +kernel
theorem dX5_drops_40 : decode cX5_drops 40 = .ok (.bipush 6, 2) := by decide +kernel
theorem dX5_drops_42 : decode cX5_drops 42 = .ok (.iadd, 1) := by decide +kernel
theorem dX5_drops_43 : decode cX5_drops 43 = .ok (.iconst 2, 1) := by decide +kernel
theorem dX5_drops_44 : decode cX5_drops 44 = .ok (.iload 4, 2) := by decide +kernel
theorem dX5_drops_46 : decode cX5_drops 46 = .ok (.imul, 1) := by decide +kernel
theorem dX5_drops_47 : decode cX5_drops 47 = .ok (.iadd, 1) := by decide +kernel
theorem dX5_drops_48 : decode cX5_drops 48 = .ok (.iconst 1, 1) := by decide +kernel
theorem dX5_drops_49 : decode cX5_drops 49 = .ok (.iadd, 1) := by decide +kernel
theorem dX5_drops_50 : decode cX5_drops 50 = .ok (.aload_n 0, 1) := by decide +kernel
theorem dX5_drops_51 : decode cX5_drops 51 = .ok (.iload_n 3, 1) := by decide +kernel
theorem dX5_drops_52 : decode cX5_drops 52 = .ok (.bipush 6, 2) := by decide +kernel
theorem dX5_drops_54 : decode cX5_drops 54 = .ok (.iadd, 1) := by decide +kernel
theorem dX5_drops_55 : decode cX5_drops 55 = .ok (.iconst 2, 1) := by decide +kernel
theorem dX5_drops_56 : decode cX5_drops 56 = .ok (.iload 4, 2) := by decide +kernel
theorem dX5_drops_58 : decode cX5_drops 58 = .ok (.imul, 1) := by decide +kernel
theorem dX5_drops_59 : decode cX5_drops 59 = .ok (.iadd, 1) := by decide +kernel
theorem dX5_drops_60 : decode cX5_drops 60 = .ok (.iconst 3, 1) := by decide +kernel
theorem dX5_drops_61 : decode cX5_drops 61 = .ok (.iadd, 1) := by decide +kernel
theorem dX5_drops_62 : decode cX5_drops 62 = .ok (.iaload, 1) := by decide +kernel
theorem dX5_drops_63 : decode cX5_drops 63 = .ok (.iastore, 1) := by decide +kernel
theorem dX5_drops_64 : decode cX5_drops 64 = .ok (.iinc 4 1, 3) := by decide +kernel
theorem dX5_drops_67 : decode cX5_drops 67 = .ok (.goto (-59), 3) := by decide +kernel
theorem dX5_drops_70 : decode cX5_drops 70 = .ok (.aload_n 0, 1) := by decide +kernel
theorem dX5_drops_71 : decode cX5_drops 71 = .ok (.iload_n 3, 1) := by decide +kernel
theorem dX5_drops_72 : decode cX5_drops 72 = .ok (.iconst 5, 1) := by decide +kernel
theorem dX5_drops_73 : decode cX5_drops 73 = .ok (.iadd, 1) := by decide +kernel
theorem dX5_drops_74 : decode cX5_drops 74 = .ok (.dup2, 1) := by decide +kernel
theorem dX5_drops_75 : decode cX5_drops 75 = .ok (.iaload, 1) := by decide +kernel
theorem dX5_drops_76 : decode cX5_drops 76 = .ok (.iconst 1, 1) := by decide +kernel
theorem dX5_drops_77 : decode cX5_drops 77 = .ok (.isub, 1) := by decide +kernel
theorem dX5_drops_78 : decode cX5_drops 78 = .ok (.iastore, 1) := by decide +kernel
theorem dX5_drops_79 : decode cX5_drops 79 = .ok (.return_, 1) := by decide +kernel
theorem dX5_frees_0 : decode cX5_frees 0 = .ok (.iload_n 1, 1) := by decide +kernel
theorem dX5_frees_1 : decode cX5_frees 1 = .ok (.invokestatic 40, 3) := by decide +kernel
theorem dX5_frees_4 : decode cX5_frees 4 = .ok (.istore_n 2, 1) := by decide +kernel
theorem dX5_frees_5 : decode cX5_frees 5 = .ok (.aload_n 0, 1) := by decide +kernel
theorem dX5_frees_6 : decode cX5_frees 6 = .ok (.iload_n 2, 1) := by decide +kernel
theorem dX5_frees_7 : decode cX5_frees 7 = .ok (.iconst (-1), 1) := by decide +kernel
theorem dX5_frees_8 : decode cX5_frees 8 = .ok (.iastore, 1) := by decide +kernel
theorem dX5_frees_9 : decode cX5_frees 9 = .ok (.aload_n 0, 1) := by decide +kernel
theorem dX5_frees_10 : decode cX5_frees 10 = .ok (.bipush 7, 2) := by decide +kernel
theorem dX5_frees_12 : decode cX5_frees 12 = .ok (.dup2, 1) := by decide +kernel
theorem dX5_frees_13 : decode cX5_frees 13 = .ok (.iaload, 1) := by decide +kernel
theorem dX5_frees_14 : decode cX5_frees 14 = .ok (.iconst 1, 1) := by decide +kernel
theorem dX5_frees_15 : decode cX5_frees 15 = .ok (.iadd, 1) := by decide +kernel
theorem dX5_frees_16 : decode cX5_frees 16 = .ok (.iastore, 1) := by decide +kernel
theorem dX5_frees_17 : decode cX5_frees 17 = .ok (.aload_n 0, 1) := by decide +kernel
theorem dX5_frees_18 : decode cX5_frees 18 = .ok (.iload_n 2, 1) := by decide +kernel
theorem dX5_frees_19 : decode cX5_frees 19 = .ok (.iaload, 1) := by decide +kernel
theorem dX5_frees_20 : decode cX5_frees 20 = .ok (.iconst (-1), 1) := by decide +kernel
theorem dX5_frees_21 : decode cX5_frees 21 = .ok (.if_icmp .ne 67, 3) := by decide +kernel
theorem dX5_frees_24 : decode cX5_frees 24 = .ok (.aload_n 0, 1) := by decide +kernel
theorem dX5_frees_25 : decode cX5_frees 25 = .ok (.iload_n 2, 1) := by decide +kernel
theorem dX5_frees_26 : decode cX5_frees 26 = .ok (.iconst 5, 1) := by decide +kernel
theorem dX5_frees_27 : decode cX5_frees 27 = .ok (.iadd, 1) := by decide +kernel
theorem dX5_frees_28 : decode cX5_frees 28 = .ok (.iaload, 1) := by decide +kernel
theorem dX5_frees_29 : decode cX5_frees 29 = .ok (.ifCond .le 59, 3) := by decide +kernel
theorem dX5_frees_32 : decode cX5_frees 32 = .ok (.aload_n 0, 1) := by decide +kernel
theorem dX5_frees_33 : decode cX5_frees 33 = .ok (.iload_n 2, 1) := by decide +kernel
theorem dX5_frees_34 : decode cX5_frees 34 = .ok (.bipush 6, 2) := by decide +kernel
theorem dX5_frees_36 : decode cX5_frees 36 = .ok (.iadd, 1) := by decide +kernel
theorem dX5_frees_37 : decode cX5_frees 37 = .ok (.iaload, 1) := by decide +kernel
theorem dX5_frees_38 : decode cX5_frees 38 = .ok (.istore_n 3, 1) := by decide +kernel
theorem dX5_frees_39 : decode cX5_frees 39 = .ok (.aload_n 0, 1) := by decide +kernel
theorem dX5_frees_40 : decode cX5_frees 40 = .ok (.iload_n 2, 1) := by decide +kernel
theorem dX5_frees_41 : decode cX5_frees 41 = .ok (.bipush 6, 2) := by decide +kernel
theorem dX5_frees_43 : decode cX5_frees 43 = .ok (.iadd, 1) := by decide +kernel
theorem dX5_frees_44 : decode cX5_frees 44 = .ok (.iconst 1, 1) := by decide +kernel
theorem dX5_frees_45 : decode cX5_frees 45 = .ok (.iadd, 1) := by decide +kernel
theorem dX5_frees_46 : decode cX5_frees 46 = .ok (.iaload, 1) := by decide +kernel
theorem dX5_frees_47 : decode cX5_frees 47 = .ok (.istore 4, 2) := by decide +kernel
theorem dX5_frees_49 : decode cX5_frees 49 = .ok (.aload_n 0, 1) := by decide +kernel
theorem dX5_frees_50 : decode cX5_frees 50 = .ok (.iload_n 1, 1) := by decide +kernel
theorem dX5_frees_51 : decode cX5_frees 51 = .ok (.iconst 0, 1) := by decide +kernel
theorem dX5_frees_52 : decode cX5_frees 52 = .ok (.invokestatic 54, 3) := by decide +kernel
theorem dX5_frees_55 : decode cX5_frees 55 = .ok (.aload_n 0, 1) := by decide +kernel
theorem dX5_frees_56 : decode cX5_frees 56 = .ok (.iload_n 3, 1) := by decide +kernel
theorem dX5_frees_57 : decode cX5_frees 57 = .ok (.iconst 1, 1) := by decide +kernel
theorem dX5_frees_58 : decode cX5_frees 58 = .ok (.invokestatic 58, 3) := by decide +kernel
theorem dX5_frees_61 : decode cX5_frees 61 = .ok (.ifCond .eq 14, 3) := by decide +kernel
theorem dX5_frees_64 : decode cX5_frees 64 = .ok (.aload_n 0, 1) := by decide +kernel
theorem dX5_frees_65 : decode cX5_frees 65 = .ok (.iload_n 1, 1) := by decide +kernel
theorem dX5_frees_66 : decode cX5_frees 66 = .ok (.iload_n 3, 1) := by decide +kernel
theorem dX5_frees_67 : decode cX5_frees 67 = .ok (.iload 4, 2) := by decide +kernel
theorem dX5_frees_69 : decode cX5_frees 69 = .ok (.invokestatic 62, 3) := by decide +kernel
theorem dX5_frees_72 : decode cX5_frees 72 = .ok (.goto 13, 3) := by decide +kernel
theorem dX5_frees_75 : decode cX5_frees 75 = .ok (.aload_n 0, 1) := by decide +kernel
theorem dX5_frees_76 : decode cX5_frees 76 = .ok (.bipush 16, 2) := by decide +kernel
theorem dX5_frees_78 : decode cX5_frees 78 = .ok (.iload_n 3, 1) := by decide +kernel
theorem dX5_frees_79 : decode cX5_frees 79 = .ok (.iadd, 1) := by decide +kernel
theorem dX5_frees_80 : decode cX5_frees 80 = .ok (.dup2, 1) := by decide +kernel
theorem dX5_frees_81 : decode cX5_frees 81 = .ok (.iaload, 1) := by decide +kernel
theorem dX5_frees_82 : decode cX5_frees 82 = .ok (.iconst 1, 1) := by decide +kernel
theorem dX5_frees_83 : decode cX5_frees 83 = .ok (.iadd, 1) := by decide +kernel
theorem dX5_frees_84 : decode cX5_frees 84 = .ok (.iastore, 1) := by decide +kernel
theorem dX5_frees_85 : decode cX5_frees 85 = .ok (.goto (-68), 3) := by decide +kernel
theorem dX5_frees_88 : decode cX5_frees 88 = .ok (.return_, 1) := by decide +kernel
theorem dX5_passes_0 : decode cX5_passes 0 = .ok (.aload_n 0, 1) := by decide +kernel
theorem dX5_passes_1 : decode cX5_passes 1 = .ok (.bipush 7, 2) := by decide +kernel
theorem dX5_passes_3 : decode cX5_passes 3 = .ok (.iaload, 1) := by decide +kernel
theorem dX5_passes_4 : decode cX5_passes 4 = .ok (.istore_n 1, 1) := by decide +kernel
theorem dX5_passes_5 : decode cX5_passes 5 = .ok (.iconst 0, 1) := by decide +kernel
theorem dX5_passes_6 : decode cX5_passes 6 = .ok (.istore_n 2, 1) := by decide +kernel
theorem dX5_passes_7 : decode cX5_passes 7 = .ok (.iload_n 2, 1) := by decide +kernel
theorem dX5_passes_8 : decode cX5_passes 8 = .ok (.aload_n 0, 1) := by decide +kernel
theorem dX5_passes_9 : decode cX5_passes 9 = .ok (.iconst 4, 1) := by decide +kernel
theorem dX5_passes_10 : decode cX5_passes 10 = .ok (.iaload, 1) := by decide +kernel
theorem dX5_passes_11 : decode cX5_passes 11 = .ok (.if_icmp .ge 33, 3) := by decide +kernel
theorem dX5_passes_14 : decode cX5_passes 14 = .ok (.aload_n 0, 1) := by decide +kernel
theorem dX5_passes_15 : decode cX5_passes 15 = .ok (.iload_n 2, 1) := by decide +kernel
theorem dX5_passes_16 : decode cX5_passes 16 = .ok (.invokestatic 51, 3) := by decide +kernel
theorem dX5_passes_19 : decode cX5_passes 19 = .ok (.iconst 1, 1) := by decide +kernel
theorem dX5_passes_20 : decode cX5_passes 20 = .ok (.if_icmp .ne 18, 3) := by decide +kernel
theorem dX5_passes_23 : decode cX5_passes 23 = .ok (.aload_n 0, 1) := by decide +kernel
theorem dX5_passes_24 : decode cX5_passes 24 = .ok (.bipush 24, 2) := by decide +kernel
theorem dX5_passes_26 : decode cX5_passes 26 = .ok (.aload_n 0, 1) := by decide +kernel
theorem dX5_passes_27 : decode cX5_passes 27 = .ok (.iload_n 2, 1) := by decide +kernel
theorem dX5_passes_28 : decode cX5_passes 28 = .ok (.invokestatic 40, 3) := by decide +kernel
theorem dX5_passes_31 : decode cX5_passes 31 = .ok (.iaload, 1) := by decide +kernel
theorem dX5_passes_32 : decode cX5_passes 32 = .ok (.iadd, 1) := by decide +kernel
theorem dX5_passes_33 : decode cX5_passes 33 = .ok (.dup2, 1) := by decide +kernel
theorem dX5_passes_34 : decode cX5_passes 34 = .ok (.iaload, 1) := by decide +kernel
theorem dX5_passes_35 : decode cX5_passes 35 = .ok (.iconst 1, 1) := by decide +kernel
theorem dX5_passes_36 : decode cX5_passes 36 = .ok (.iadd, 1) := by decide +kernel
theorem dX5_passes_37 : decode cX5_passes 37 = .ok (.iastore, 1) := by decide +kernel
theorem dX5_passes_38 : decode cX5_passes 38 = .ok (.iinc 2 1, 3) := by decide +kernel
theorem dX5_passes_41 : decode cX5_passes 41 = .ok (.goto (-34), 3) := by decide +kernel
theorem dX5_passes_44 : decode cX5_passes 44 = .ok (.aload_n 0, 1) := by decide +kernel
theorem dX5_passes_45 : decode cX5_passes 45 = .ok (.iconst 0, 1) := by decide +kernel
theorem dX5_passes_46 : decode cX5_passes 46 = .ok (.dup2, 1) := by decide +kernel
theorem dX5_passes_47 : decode cX5_passes 47 = .ok (.iaload, 1) := by decide +kernel
theorem dX5_passes_48 : decode cX5_passes 48 = .ok (.iconst 1, 1) := by decide +kernel
theorem dX5_passes_49 : decode cX5_passes 49 = .ok (.iadd, 1) := by decide +kernel
theorem dX5_passes_50 : decode cX5_passes 50 = .ok (.iastore, 1) := by decide +kernel
theorem dX5_passes_51 : decode cX5_passes 51 = .ok (.iconst 0, 1) := by decide +kernel
theorem dX5_passes_52 : decode cX5_passes 52 = .ok (.istore_n 2, 1) := by decide +kernel
theorem dX5_passes_53 : decode cX5_passes 53 = .ok (.iload_n 2, 1) := by decide +kernel
theorem dX5_passes_54 : decode cX5_passes 54 = .ok (.aload_n 0, 1) := by decide +kernel
theorem dX5_passes_55 : decode cX5_passes 55 = .ok (.iconst 4, 1) := by decide +kernel
theorem dX5_passes_56 : decode cX5_passes 56 = .ok (.iaload, 1) := by decide +kernel
theorem dX5_passes_57 : decode cX5_passes 57 = .ok (.if_icmp .ge 36, 3) := by decide +kernel
theorem dX5_passes_60 : decode cX5_passes 60 = .ok (.aload_n 0, 1) := by decide +kernel
theorem dX5_passes_61 : decode cX5_passes 61 = .ok (.iload_n 2, 1) := by decide +kernel
theorem dX5_passes_62 : decode cX5_passes 62 = .ok (.invokestatic 43, 3) := by decide +kernel
theorem dX5_passes_65 : decode cX5_passes 65 = .ok (.ifCond .ne 22, 3) := by decide +kernel
theorem dX5_passes_68 : decode cX5_passes 68 = .ok (.aload_n 0, 1) := by decide +kernel
theorem dX5_passes_69 : decode cX5_passes 69 = .ok (.iload_n 2, 1) := by decide +kernel
theorem dX5_passes_70 : decode cX5_passes 70 = .ok (.invokestatic 40, 3) := by decide +kernel
theorem dX5_passes_73 : decode cX5_passes 73 = .ok (.iconst 3, 1) := by decide +kernel
theorem dX5_passes_74 : decode cX5_passes 74 = .ok (.iadd, 1) := by decide +kernel
theorem dX5_passes_75 : decode cX5_passes 75 = .ok (.iaload, 1) := by decide +kernel
theorem dX5_passes_76 : decode cX5_passes 76 = .ok (.aload_n 0, 1) := by decide +kernel
theorem dX5_passes_77 : decode cX5_passes 77 = .ok (.iconst 0, 1) := by decide +kernel
theorem dX5_passes_78 : decode cX5_passes 78 = .ok (.iaload, 1) := by decide +kernel
theorem dX5_passes_79 : decode cX5_passes 79 = .ok (.if_icmp .ne 8, 3) := by decide +kernel
theorem dX5_passes_82 : decode cX5_passes 82 = .ok (.aload_n 0, 1) := by decide +kernel
theorem dX5_passes_83 : decode cX5_passes 83 = .ok (.iload_n 2, 1) := by decide +kernel
theorem dX5_passes_84 : decode cX5_passes 84 = .ok (.invokestatic 66, 3) := by decide +kernel
theorem dX5_passes_87 : decode cX5_passes 87 = .ok (.iinc 2 1, 3) := by decide +kernel
theorem dX5_passes_90 : decode cX5_passes 90 = .ok (.goto (-37), 3) := by decide +kernel
theorem dX5_passes_93 : decode cX5_passes 93 = .ok (.aload_n 0, 1) := by decide +kernel
theorem dX5_passes_94 : decode cX5_passes 94 = .ok (.bipush 7, 2) := by decide +kernel
theorem dX5_passes_96 : decode cX5_passes 96 = .ok (.iaload, 1) := by decide +kernel
theorem dX5_passes_97 : decode cX5_passes 97 = .ok (.iload_n 1, 1) := by decide +kernel
theorem dX5_passes_98 : decode cX5_passes 98 = .ok (.isub, 1) := by decide +kernel
theorem dX5_passes_99 : decode cX5_passes 99 = .ok (.ireturn, 1) := by decide +kernel
theorem dX5_firstFree_0 : decode cX5_firstFree 0 = .ok (.iconst 0, 1) := by decide +kernel
theorem dX5_firstFree_1 : decode cX5_firstFree 1 = .ok (.istore_n 2, 1) := by decide +kernel
theorem dX5_firstFree_2 : decode cX5_firstFree 2 = .ok (.iconst 0, 1) := by decide +kernel
theorem dX5_firstFree_3 : decode cX5_firstFree 3 = .ok (.istore_n 3, 1) := by decide +kernel
theorem dX5_firstFree_4 : decode cX5_firstFree 4 = .ok (.iload_n 3, 1) := by decide +kernel
theorem dX5_firstFree_5 : decode cX5_firstFree 5 = .ok (.aload_n 0, 1) := by decide +kernel
theorem dX5_firstFree_6 : decode cX5_firstFree 6 = .ok (.iconst 4, 1) := by decide +kernel
theorem dX5_firstFree_7 : decode cX5_firstFree 7 = .ok (.iaload, 1) := by decide +kernel
theorem dX5_firstFree_8 : decode cX5_firstFree 8 = .ok (.if_icmp .ge 36, 3) := by decide +kernel
theorem dX5_firstFree_11 : decode cX5_firstFree 11 = .ok (.aload_n 0, 1) := by decide +kernel
theorem dX5_firstFree_12 : decode cX5_firstFree 12 = .ok (.iload_n 3, 1) := by decide +kernel
theorem dX5_firstFree_13 : decode cX5_firstFree 13 = .ok (.invokestatic 43, 3) := by decide +kernel
theorem dX5_firstFree_16 : decode cX5_firstFree 16 = .ok (.ifCond .eq 9, 3) := by decide +kernel
theorem dX5_firstFree_19 : decode cX5_firstFree 19 = .ok (.iload_n 2, 1) := by decide +kernel
theorem dX5_firstFree_20 : decode cX5_firstFree 20 = .ok (.iconst 1, 1) := by decide +kernel
theorem dX5_firstFree_21 : decode cX5_firstFree 21 = .ok (.iadd, 1) := by decide +kernel
theorem dX5_firstFree_22 : decode cX5_firstFree 22 = .ok (.goto 4, 3) := by decide +kernel
theorem dX5_firstFree_25 : decode cX5_firstFree 25 = .ok (.iconst 0, 1) := by decide +kernel
theorem dX5_firstFree_26 : decode cX5_firstFree 26 = .ok (.istore_n 2, 1) := by decide +kernel
theorem dX5_firstFree_27 : decode cX5_firstFree 27 = .ok (.iload_n 2, 1) := by decide +kernel
theorem dX5_firstFree_28 : decode cX5_firstFree 28 = .ok (.iload_n 1, 1) := by decide +kernel
theorem dX5_firstFree_29 : decode cX5_firstFree 29 = .ok (.if_icmp .ne 9, 3) := by decide +kernel
theorem dX5_firstFree_32 : decode cX5_firstFree 32 = .ok (.iload_n 3, 1) := by decide +kernel
theorem dX5_firstFree_33 : decode cX5_firstFree 33 = .ok (.iload_n 1, 1) := by decide +kernel
theorem dX5_firstFree_34 : decode cX5_firstFree 34 = .ok (.isub, 1) := by decide +kernel
theorem dX5_firstFree_35 : decode cX5_firstFree 35 = .ok (.iconst 1, 1) := by decide +kernel
theorem dX5_firstFree_36 : decode cX5_firstFree 36 = .ok (.iadd, 1) := by decide +kernel
theorem dX5_firstFree_37 : decode cX5_firstFree 37 = .ok (.ireturn, 1) := by decide +kernel
theorem dX5_firstFree_38 : decode cX5_firstFree 38 = .ok (.iinc 3 1, 3) := by decide +kernel
theorem dX5_firstFree_41 : decode cX5_firstFree 41 = .ok (.goto (-37), 3) := by decide +kernel
theorem dX5_firstFree_44 : decode cX5_firstFree 44 = .ok (.iconst (-1), 1) := by decide +kernel
theorem dX5_firstFree_45 : decode cX5_firstFree 45 = .ok (.ireturn, 1) := by decide +kernel
theorem dX5_wishOf_0 : decode cX5_wishOf 0 = .ok (.iconst 0, 1) := by decide +kernel
theorem dX5_wishOf_1 : decode cX5_wishOf 1 = .ok (.istore_n 3, 1) := by decide +kernel
theorem dX5_wishOf_2 : decode cX5_wishOf 2 = .ok (.iload_n 3, 1) := by decide +kernel
theorem dX5_wishOf_3 : decode cX5_wishOf 3 = .ok (.aload_n 0, 1) := by decide +kernel
theorem dX5_wishOf_4 : decode cX5_wishOf 4 = .ok (.iload_n 1, 1) := by decide +kernel
theorem dX5_wishOf_5 : decode cX5_wishOf 5 = .ok (.invokestatic 40, 3) := by decide +kernel
theorem dX5_wishOf_8 : decode cX5_wishOf 8 = .ok (.iconst 5, 1) := by decide +kernel
theorem dX5_wishOf_9 : decode cX5_wishOf 9 = .ok (.iadd, 1) := by decide +kernel
theorem dX5_wishOf_10 : decode cX5_wishOf 10 = .ok (.iaload, 1) := by decide +kernel
theorem dX5_wishOf_11 : decode cX5_wishOf 11 = .ok (.if_icmp .ge 28, 3) := by decide +kernel
theorem dX5_wishOf_14 : decode cX5_wishOf 14 = .ok (.aload_n 0, 1) := by decide +kernel
theorem dX5_wishOf_15 : decode cX5_wishOf 15 = .ok (.iload_n 1, 1) := by decide +kernel
theorem dX5_wishOf_16 : decode cX5_wishOf 16 = .ok (.invokestatic 40, 3) := by decide +kernel
theorem dX5_wishOf_19 : decode cX5_wishOf 19 = .ok (.bipush 6, 2) := by decide +kernel
theorem dX5_wishOf_21 : decode cX5_wishOf 21 = .ok (.iadd, 1) := by decide +kernel
theorem dX5_wishOf_22 : decode cX5_wishOf 22 = .ok (.iconst 2, 1) := by decide +kernel
theorem dX5_wishOf_23 : decode cX5_wishOf 23 = .ok (.iload_n 3, 1) := by decide +kernel
theorem dX5_wishOf_24 : decode cX5_wishOf 24 = .ok (.imul, 1) := by decide +kernel
theorem dX5_wishOf_25 : decode cX5_wishOf 25 = .ok (.iadd, 1) := by decide +kernel
theorem dX5_wishOf_26 : decode cX5_wishOf 26 = .ok (.iaload, 1) := by decide +kernel
theorem dX5_wishOf_27 : decode cX5_wishOf 27 = .ok (.iload_n 2, 1) := by decide +kernel
theorem dX5_wishOf_28 : decode cX5_wishOf 28 = .ok (.if_icmp .ne 5, 3) := by decide +kernel
theorem dX5_wishOf_31 : decode cX5_wishOf 31 = .ok (.iload_n 3, 1) := by decide +kernel
end
section
theorem dX5_wishOf_32 : decode cX5_wishOf 32 = .ok (.ireturn, 1) := by decide +kernel
theorem dX5_wishOf_33 : decode cX5_wishOf 33 = .ok (.iinc 3 1, 3) := by decide +kernel
theorem dX5_wishOf_36 : decode cX5_wishOf 36 = .ok (.goto (-34), 3) := by decide +kernel
theorem dX5_wishOf_39 : decode cX5_wishOf 39 = .ok (.iconst (-1), 1) := by decide +kernel
theorem dX5_wishOf_40 : decode cX5_wishOf 40 = .ok (.ireturn, 1) := by decide +kernel
theorem dX5_waits_0 : decode cX5_waits 0 = .ok (.iload_n 1, 1) := by decide +kernel
theorem dX5_waits_1 : decode cX5_waits 1 = .ok (.invokestatic 40, 3) := by decide +kernel
theorem dX5_waits_4 : decode cX5_waits 4 = .ok (.istore 4, 2) := by decide +kernel
theorem dX5_waits_6 : decode cX5_waits 6 = .ok (.aload_n 0, 1) := by decide +kernel
theorem dX5_waits_7 : decode cX5_waits 7 = .ok (.iload 4, 2) := by decide +kernel
theorem dX5_waits_9 : decode cX5_waits 9 = .ok (.bipush 6, 2) := by decide +kernel
theorem dX5_waits_11 : decode cX5_waits 11 = .ok (.iadd, 1) := by decide +kernel
theorem dX5_waits_12 : decode cX5_waits 12 = .ok (.iconst 2, 1) := by decide +kernel
theorem dX5_waits_13 : decode cX5_waits 13 = .ok (.aload_n 0, 1) := by decide +kernel
theorem dX5_waits_14 : decode cX5_waits 14 = .ok (.iload 4, 2) := by decide +kernel
theorem dX5_waits_16 : decode cX5_waits 16 = .ok (.iconst 5, 1) := by decide +kernel
theorem dX5_waits_17 : decode cX5_waits 17 = .ok (.iadd, 1) := by decide +kernel
theorem dX5_waits_18 : decode cX5_waits 18 = .ok (.iaload, 1) := by decide +kernel
theorem dX5_waits_19 : decode cX5_waits 19 = .ok (.imul, 1) := by decide +kernel
theorem dX5_waits_20 : decode cX5_waits 20 = .ok (.iadd, 1) := by decide +kernel
theorem dX5_waits_21 : decode cX5_waits 21 = .ok (.iload_n 2, 1) := by decide +kernel
theorem dX5_waits_22 : decode cX5_waits 22 = .ok (.iastore, 1) := by decide +kernel
theorem dX5_waits_23 : decode cX5_waits 23 = .ok (.aload_n 0, 1) := by decide +kernel
theorem dX5_waits_24 : decode cX5_waits 24 = .ok (.iload 4, 2) := by decide +kernel
theorem dX5_waits_26 : decode cX5_waits 26 = .ok (.bipush 6, 2) := by decide +kernel
theorem dX5_waits_28 : decode cX5_waits 28 = .ok (.iadd, 1) := by decide +kernel
theorem dX5_waits_29 : decode cX5_waits 29 = .ok (.iconst 2, 1) := by decide +kernel
theorem dX5_waits_30 : decode cX5_waits 30 = .ok (.aload_n 0, 1) := by decide +kernel
theorem dX5_waits_31 : decode cX5_waits 31 = .ok (.iload 4, 2) := by decide +kernel
theorem dX5_waits_33 : decode cX5_waits 33 = .ok (.iconst 5, 1) := by decide +kernel
theorem dX5_waits_34 : decode cX5_waits 34 = .ok (.iadd, 1) := by decide +kernel
theorem dX5_waits_35 : decode cX5_waits 35 = .ok (.iaload, 1) := by decide +kernel
theorem dX5_waits_36 : decode cX5_waits 36 = .ok (.imul, 1) := by decide +kernel
theorem dX5_waits_37 : decode cX5_waits 37 = .ok (.iadd, 1) := by decide +kernel
theorem dX5_waits_38 : decode cX5_waits 38 = .ok (.iconst 1, 1) := by decide +kernel
theorem dX5_waits_39 : decode cX5_waits 39 = .ok (.iadd, 1) := by decide +kernel
theorem dX5_waits_40 : decode cX5_waits 40 = .ok (.iload_n 3, 1) := by decide +kernel
theorem dX5_waits_41 : decode cX5_waits 41 = .ok (.iastore, 1) := by decide +kernel
theorem dX5_waits_42 : decode cX5_waits 42 = .ok (.aload_n 0, 1) := by decide +kernel
theorem dX5_waits_43 : decode cX5_waits 43 = .ok (.iload 4, 2) := by decide +kernel
theorem dX5_waits_45 : decode cX5_waits 45 = .ok (.iconst 5, 1) := by decide +kernel
theorem dX5_waits_46 : decode cX5_waits 46 = .ok (.iadd, 1) := by decide +kernel
theorem dX5_waits_47 : decode cX5_waits 47 = .ok (.dup2, 1) := by decide +kernel
theorem dX5_waits_48 : decode cX5_waits 48 = .ok (.iaload, 1) := by decide +kernel
theorem dX5_waits_49 : decode cX5_waits 49 = .ok (.iconst 1, 1) := by decide +kernel
theorem dX5_waits_50 : decode cX5_waits 50 = .ok (.iadd, 1) := by decide +kernel
theorem dX5_waits_51 : decode cX5_waits 51 = .ok (.iastore, 1) := by decide +kernel
theorem dX5_waits_52 : decode cX5_waits 52 = .ok (.return_, 1) := by decide +kernel
theorem dX5_mayTake_0 : decode cX5_mayTake 0 = .ok (.aload_n 0, 1) := by decide +kernel
theorem dX5_mayTake_1 : decode cX5_mayTake 1 = .ok (.getfield 7, 3) := by decide +kernel
theorem dX5_mayTake_4 : decode cX5_mayTake 4 = .ok (.iconst 1, 1) := by decide +kernel
theorem dX5_mayTake_5 : decode cX5_mayTake 5 = .ok (.invokestatic 70, 3) := by decide +kernel
theorem dX5_mayTake_8 : decode cX5_mayTake 8 = .ok (.iconst (-1), 1) := by decide +kernel
theorem dX5_mayTake_9 : decode cX5_mayTake 9 = .ok (.if_icmp .eq 19, 3) := by decide +kernel
theorem dX5_mayTake_12 : decode cX5_mayTake 12 = .ok (.aload_n 0, 1) := by decide +kernel
theorem dX5_mayTake_13 : decode cX5_mayTake 13 = .ok (.getfield 7, 3) := by decide +kernel
theorem dX5_mayTake_16 : decode cX5_mayTake 16 = .ok (.iload_n 1, 1) := by decide +kernel
theorem dX5_mayTake_17 : decode cX5_mayTake 17 = .ok (.iconst 1, 1) := by decide +kernel
theorem dX5_mayTake_18 : decode cX5_mayTake 18 = .ok (.invokestatic 58, 3) := by decide +kernel
theorem dX5_mayTake_21 : decode cX5_mayTake 21 = .ok (.ifCond .eq 7, 3) := by decide +kernel
theorem dX5_mayTake_24 : decode cX5_mayTake 24 = .ok (.iconst 1, 1) := by decide +kernel
theorem dX5_mayTake_25 : decode cX5_mayTake 25 = .ok (.goto 4, 3) := by decide +kernel
theorem dX5_mayTake_28 : decode cX5_mayTake 28 = .ok (.iconst 0, 1) := by decide +kernel
theorem dX5_mayTake_29 : decode cX5_mayTake 29 = .ok (.ireturn, 1) := by decide +kernel
theorem dX5_takes_0 : decode cX5_takes 0 = .ok (.aload_n 0, 1) := by decide +kernel
theorem dX5_takes_1 : decode cX5_takes 1 = .ok (.getfield 7, 3) := by decide +kernel
theorem dX5_takes_4 : decode cX5_takes 4 = .ok (.iconst 1, 1) := by decide +kernel
theorem dX5_takes_5 : decode cX5_takes 5 = .ok (.invokestatic 70, 3) := by decide +kernel
theorem dX5_takes_8 : decode cX5_takes 8 = .ok (.istore_n 3, 1) := by decide +kernel
theorem dX5_takes_9 : decode cX5_takes 9 = .ok (.aload_n 0, 1) := by decide +kernel
theorem dX5_takes_10 : decode cX5_takes 10 = .ok (.getfield 7, 3) := by decide +kernel
theorem dX5_takes_13 : decode cX5_takes 13 = .ok (.iload_n 3, 1) := by decide +kernel
theorem dX5_takes_14 : decode cX5_takes 14 = .ok (.iload_n 1, 1) := by decide +kernel
theorem dX5_takes_15 : decode cX5_takes 15 = .ok (.iload_n 2, 1) := by decide +kernel
theorem dX5_takes_16 : decode cX5_takes 16 = .ok (.invokestatic 62, 3) := by decide +kernel
theorem dX5_takes_19 : decode cX5_takes 19 = .ok (.iload_n 3, 1) := by decide +kernel
theorem dX5_takes_20 : decode cX5_takes 20 = .ok (.ireturn, 1) := by decide +kernel
theorem dX5_take_0 : decode cX5_take 0 = .ok (.aload_n 0, 1) := by decide +kernel
theorem dX5_take_1 : decode cX5_take 1 = .ok (.iconst 0, 1) := by decide +kernel
theorem dX5_take_2 : decode cX5_take 2 = .ok (.putfield 25, 3) := by decide +kernel
theorem dX5_take_5 : decode cX5_take 5 = .ok (.iload_n 1, 1) := by decide +kernel
theorem dX5_take_6 : decode cX5_take 6 = .ok (.invokestatic 73, 3) := by decide +kernel
theorem dX5_take_9 : decode cX5_take 9 = .ok (.ifCond .ne 9, 3) := by decide +kernel
theorem dX5_take_12 : decode cX5_take 12 = .ok (.aload_n 0, 1) := by decide +kernel
theorem dX5_take_13 : decode cX5_take 13 = .ok (.iconst 1, 1) := by decide +kernel
theorem dX5_take_14 : decode cX5_take 14 = .ok (.invokevirtual 36, 3) := by decide +kernel
theorem dX5_take_17 : decode cX5_take 17 = .ok (.ireturn, 1) := by decide +kernel
theorem dX5_take_18 : decode cX5_take 18 = .ok (.iload_n 2, 1) := by decide +kernel
theorem dX5_take_19 : decode cX5_take 19 = .ok (.invokestatic 77, 3) := by decide +kernel
theorem dX5_take_22 : decode cX5_take 22 = .ok (.ifCond .ne 9, 3) := by decide +kernel
theorem dX5_take_25 : decode cX5_take 25 = .ok (.aload_n 0, 1) := by decide +kernel
theorem dX5_take_26 : decode cX5_take 26 = .ok (.iconst 2, 1) := by decide +kernel
theorem dX5_take_27 : decode cX5_take 27 = .ok (.invokevirtual 36, 3) := by decide +kernel
theorem dX5_take_30 : decode cX5_take 30 = .ok (.ireturn, 1) := by decide +kernel
theorem dX5_take_31 : decode cX5_take 31 = .ok (.aload_n 0, 1) := by decide +kernel
theorem dX5_take_32 : decode cX5_take 32 = .ok (.iload_n 1, 1) := by decide +kernel
theorem dX5_take_33 : decode cX5_take 33 = .ok (.invokevirtual 80, 3) := by decide +kernel
theorem dX5_take_36 : decode cX5_take 36 = .ok (.ifCond .ne 9, 3) := by decide +kernel
theorem dX5_take_39 : decode cX5_take 39 = .ok (.aload_n 0, 1) := by decide +kernel
theorem dX5_take_40 : decode cX5_take 40 = .ok (.iconst 3, 1) := by decide +kernel
theorem dX5_take_41 : decode cX5_take 41 = .ok (.invokevirtual 36, 3) := by decide +kernel
theorem dX5_take_44 : decode cX5_take 44 = .ok (.ireturn, 1) := by decide +kernel
theorem dX5_take_45 : decode cX5_take 45 = .ok (.aload_n 0, 1) := by decide +kernel
theorem dX5_take_46 : decode cX5_take 46 = .ok (.invokevirtual 83, 3) := by decide +kernel
theorem dX5_take_49 : decode cX5_take 49 = .ok (.aload_n 0, 1) := by decide +kernel
theorem dX5_take_50 : decode cX5_take 50 = .ok (.iload_n 1, 1) := by decide +kernel
theorem dX5_take_51 : decode cX5_take 51 = .ok (.iload_n 2, 1) := by decide +kernel
theorem dX5_take_52 : decode cX5_take 52 = .ok (.invokevirtual 86, 3) := by decide +kernel
theorem dX5_take_55 : decode cX5_take 55 = .ok (.ireturn, 1) := by decide +kernel
theorem dX5_takeSpan_0 : decode cX5_takeSpan 0 = .ok (.aload_n 0, 1) := by decide +kernel
theorem dX5_takeSpan_1 : decode cX5_takeSpan 1 = .ok (.iconst 0, 1) := by decide +kernel
theorem dX5_takeSpan_2 : decode cX5_takeSpan 2 = .ok (.putfield 25, 3) := by decide +kernel
theorem dX5_takeSpan_5 : decode cX5_takeSpan 5 = .ok (.iload_n 1, 1) := by decide +kernel
theorem dX5_takeSpan_6 : decode cX5_takeSpan 6 = .ok (.invokestatic 73, 3) := by decide +kernel
theorem dX5_takeSpan_9 : decode cX5_takeSpan 9 = .ok (.ifCond .ne 9, 3) := by decide +kernel
theorem dX5_takeSpan_12 : decode cX5_takeSpan 12 = .ok (.aload_n 0, 1) := by decide +kernel
theorem dX5_takeSpan_13 : decode cX5_takeSpan 13 = .ok (.iconst 1, 1) := by decide +kernel
theorem dX5_takeSpan_14 : decode cX5_takeSpan 14 = .ok (.invokevirtual 36, 3) := by decide +kernel
theorem dX5_takeSpan_17 : decode cX5_takeSpan 17 = .ok (.ireturn, 1) := by decide +kernel
theorem dX5_takeSpan_18 : decode cX5_takeSpan 18 = .ok (.iload_n 2, 1) := by decide +kernel
theorem dX5_takeSpan_19 : decode cX5_takeSpan 19 = .ok (.iconst 1, 1) := by decide +kernel
theorem dX5_takeSpan_20 : decode cX5_takeSpan 20 = .ok (.bipush 64, 2) := by decide +kernel
theorem dX5_takeSpan_22 : decode cX5_takeSpan 22 = .ok (.invokestatic 29, 3) := by decide +kernel
theorem dX5_takeSpan_25 : decode cX5_takeSpan 25 = .ok (.ifCond .eq 10, 3) := by decide +kernel
theorem dX5_takeSpan_28 : decode cX5_takeSpan 28 = .ok (.iload_n 3, 1) := by decide +kernel
theorem dX5_takeSpan_29 : decode cX5_takeSpan 29 = .ok (.invokestatic 77, 3) := by decide +kernel
theorem dX5_takeSpan_32 : decode cX5_takeSpan 32 = .ok (.ifCond .ne 9, 3) := by decide +kernel
theorem dX5_takeSpan_35 : decode cX5_takeSpan 35 = .ok (.aload_n 0, 1) := by decide +kernel
theorem dX5_takeSpan_36 : decode cX5_takeSpan 36 = .ok (.iconst 2, 1) := by decide +kernel
theorem dX5_takeSpan_37 : decode cX5_takeSpan 37 = .ok (.invokevirtual 36, 3) := by decide +kernel
theorem dX5_takeSpan_40 : decode cX5_takeSpan 40 = .ok (.ireturn, 1) := by decide +kernel
theorem dX5_takeSpan_41 : decode cX5_takeSpan 41 = .ok (.aload_n 0, 1) := by decide +kernel
theorem dX5_takeSpan_42 : decode cX5_takeSpan 42 = .ok (.getfield 7, 3) := by decide +kernel
theorem dX5_takeSpan_45 : decode cX5_takeSpan 45 = .ok (.iload_n 2, 1) := by decide +kernel
theorem dX5_takeSpan_46 : decode cX5_takeSpan 46 = .ok (.invokestatic 70, 3) := by decide +kernel
theorem dX5_takeSpan_49 : decode cX5_takeSpan 49 = .ok (.istore 4, 2) := by decide +kernel
theorem dX5_takeSpan_51 : decode cX5_takeSpan 51 = .ok (.iload 4, 2) := by decide +kernel
theorem dX5_takeSpan_53 : decode cX5_takeSpan 53 = .ok (.iconst (-1), 1) := by decide +kernel
theorem dX5_takeSpan_54 : decode cX5_takeSpan 54 = .ok (.if_icmp .eq 15, 3) := by decide +kernel
theorem dX5_takeSpan_57 : decode cX5_takeSpan 57 = .ok (.aload_n 0, 1) := by decide +kernel
theorem dX5_takeSpan_58 : decode cX5_takeSpan 58 = .ok (.getfield 7, 3) := by decide +kernel
theorem dX5_takeSpan_61 : decode cX5_takeSpan 61 = .ok (.iload_n 1, 1) := by decide +kernel
theorem dX5_takeSpan_62 : decode cX5_takeSpan 62 = .ok (.iload_n 2, 1) := by decide +kernel
theorem dX5_takeSpan_63 : decode cX5_takeSpan 63 = .ok (.invokestatic 58, 3) := by decide +kernel
theorem dX5_takeSpan_66 : decode cX5_takeSpan 66 = .ok (.ifCond .ne 9, 3) := by decide +kernel
theorem dX5_takeSpan_69 : decode cX5_takeSpan 69 = .ok (.aload_n 0, 1) := by decide +kernel
theorem dX5_takeSpan_70 : decode cX5_takeSpan 70 = .ok (.iconst 3, 1) := by decide +kernel
theorem dX5_takeSpan_71 : decode cX5_takeSpan 71 = .ok (.invokevirtual 36, 3) := by decide +kernel
theorem dX5_takeSpan_74 : decode cX5_takeSpan 74 = .ok (.ireturn, 1) := by decide +kernel
theorem dX5_takeSpan_75 : decode cX5_takeSpan 75 = .ok (.aload_n 0, 1) := by decide +kernel
theorem dX5_takeSpan_76 : decode cX5_takeSpan 76 = .ok (.invokevirtual 83, 3) := by decide +kernel
theorem dX5_takeSpan_79 : decode cX5_takeSpan 79 = .ok (.iconst 0, 1) := by decide +kernel
theorem dX5_takeSpan_80 : decode cX5_takeSpan 80 = .ok (.istore 5, 2) := by decide +kernel
theorem dX5_takeSpan_82 : decode cX5_takeSpan 82 = .ok (.iload 5, 2) := by decide +kernel
theorem dX5_takeSpan_84 : decode cX5_takeSpan 84 = .ok (.iload_n 2, 1) := by decide +kernel
theorem dX5_takeSpan_85 : decode cX5_takeSpan 85 = .ok (.if_icmp .ge 23, 3) := by decide +kernel
theorem dX5_takeSpan_88 : decode cX5_takeSpan 88 = .ok (.aload_n 0, 1) := by decide +kernel
theorem dX5_takeSpan_89 : decode cX5_takeSpan 89 = .ok (.getfield 7, 3) := by decide +kernel
theorem dX5_takeSpan_92 : decode cX5_takeSpan 92 = .ok (.iload 4, 2) := by decide +kernel
theorem dX5_takeSpan_94 : decode cX5_takeSpan 94 = .ok (.iload 5, 2) := by decide +kernel
theorem dX5_takeSpan_96 : decode cX5_takeSpan 96 = .ok (.iadd, 1) := by decide +kernel
theorem dX5_takeSpan_97 : decode cX5_takeSpan 97 = .ok (.iload_n 1, 1) := by decide +kernel
theorem dX5_takeSpan_98 : decode cX5_takeSpan 98 = .ok (.iload_n 3, 1) := by decide +kernel
theorem dX5_takeSpan_99 : decode cX5_takeSpan 99 = .ok (.invokestatic 62, 3) := by decide +kernel
theorem dX5_takeSpan_102 : decode cX5_takeSpan 102 = .ok (.iinc 5 1, 3) := by decide +kernel
theorem dX5_takeSpan_105 : decode cX5_takeSpan 105 = .ok (.goto (-23), 3) := by decide +kernel
theorem dX5_takeSpan_108 : decode cX5_takeSpan 108 = .ok (.iload 4, 2) := by decide +kernel
theorem dX5_takeSpan_110 : decode cX5_takeSpan 110 = .ok (.ireturn, 1) := by decide +kernel
theorem dX5_mayWish_0 : decode cX5_mayWish 0 = .ok (.aload_n 0, 1) := by decide +kernel
theorem dX5_mayWish_1 : decode cX5_mayWish 1 = .ok (.getfield 7, 3) := by decide +kernel
theorem dX5_mayWish_4 : decode cX5_mayWish 4 = .ok (.iload_n 2, 1) := by decide +kernel
theorem dX5_mayWish_5 : decode cX5_mayWish 5 = .ok (.invokestatic 43, 3) := by decide +kernel
theorem dX5_mayWish_8 : decode cX5_mayWish 8 = .ok (.ifCond .eq 13, 3) := by decide +kernel
theorem dX5_mayWish_11 : decode cX5_mayWish 11 = .ok (.aload_n 0, 1) := by decide +kernel
theorem dX5_mayWish_12 : decode cX5_mayWish 12 = .ok (.getfield 7, 3) := by decide +kernel
theorem dX5_mayWish_15 : decode cX5_mayWish 15 = .ok (.iload_n 1, 1) := by decide +kernel
theorem dX5_mayWish_16 : decode cX5_mayWish 16 = .ok (.iconst 1, 1) := by decide +kernel
theorem dX5_mayWish_17 : decode cX5_mayWish 17 = .ok (.invokestatic 58, 3) := by decide +kernel
theorem dX5_mayWish_20 : decode cX5_mayWish 20 = .ok (.ireturn, 1) := by decide +kernel
theorem dX5_mayWish_21 : decode cX5_mayWish 21 = .ok (.aload_n 0, 1) := by decide +kernel
theorem dX5_mayWish_22 : decode cX5_mayWish 22 = .ok (.getfield 7, 3) := by decide +kernel
theorem dX5_mayWish_25 : decode cX5_mayWish 25 = .ok (.iload_n 2, 1) := by decide +kernel
theorem dX5_mayWish_26 : decode cX5_mayWish 26 = .ok (.invokestatic 40, 3) := by decide +kernel
theorem dX5_mayWish_29 : decode cX5_mayWish 29 = .ok (.iconst 5, 1) := by decide +kernel
theorem dX5_mayWish_30 : decode cX5_mayWish 30 = .ok (.iadd, 1) := by decide +kernel
theorem dX5_mayWish_31 : decode cX5_mayWish 31 = .ok (.iaload, 1) := by decide +kernel
theorem dX5_mayWish_32 : decode cX5_mayWish 32 = .ok (.iconst 3, 1) := by decide +kernel
theorem dX5_mayWish_33 : decode cX5_mayWish 33 = .ok (.if_icmp .ge 33, 3) := by decide +kernel
theorem dX5_mayWish_36 : decode cX5_mayWish 36 = .ok (.aload_n 0, 1) := by decide +kernel
theorem dX5_mayWish_37 : decode cX5_mayWish 37 = .ok (.getfield 7, 3) := by decide +kernel
theorem dX5_mayWish_40 : decode cX5_mayWish 40 = .ok (.iload_n 2, 1) := by decide +kernel
theorem dX5_mayWish_41 : decode cX5_mayWish 41 = .ok (.invokestatic 40, 3) := by decide +kernel
theorem dX5_mayWish_44 : decode cX5_mayWish 44 = .ok (.iaload, 1) := by decide +kernel
theorem dX5_mayWish_45 : decode cX5_mayWish 45 = .ok (.iload_n 1, 1) := by decide +kernel
theorem dX5_mayWish_46 : decode cX5_mayWish 46 = .ok (.if_icmp .eq 20, 3) := by decide +kernel
theorem dX5_mayWish_49 : decode cX5_mayWish 49 = .ok (.aload_n 0, 1) := by decide +kernel
theorem dX5_mayWish_50 : decode cX5_mayWish 50 = .ok (.getfield 7, 3) := by decide +kernel
theorem dX5_mayWish_53 : decode cX5_mayWish 53 = .ok (.iload_n 2, 1) := by decide +kernel
theorem dX5_mayWish_54 : decode cX5_mayWish 54 = .ok (.iload_n 1, 1) := by decide +kernel
theorem dX5_mayWish_55 : decode cX5_mayWish 55 = .ok (.invokestatic 90, 3) := by decide +kernel
theorem dX5_mayWish_58 : decode cX5_mayWish 58 = .ok (.iconst (-1), 1) := by decide +kernel
theorem dX5_mayWish_59 : decode cX5_mayWish 59 = .ok (.if_icmp .ne 7, 3) := by decide +kernel
theorem dX5_mayWish_62 : decode cX5_mayWish 62 = .ok (.iconst 1, 1) := by decide +kernel
theorem dX5_mayWish_63 : decode cX5_mayWish 63 = .ok (.goto 4, 3) := by decide +kernel
theorem dX5_mayWish_66 : decode cX5_mayWish 66 = .ok (.iconst 0, 1) := by decide +kernel
theorem dX5_mayWish_67 : decode cX5_mayWish 67 = .ok (.ireturn, 1) := by decide +kernel
theorem dX5_wishes_0 : decode cX5_wishes 0 = .ok (.aload_n 0, 1) := by decide +kernel
theorem dX5_wishes_1 : decode cX5_wishes 1 = .ok (.getfield 7, 3) := by decide +kernel
theorem dX5_wishes_4 : decode cX5_wishes 4 = .ok (.iload_n 2, 1) := by decide +kernel
theorem dX5_wishes_5 : decode cX5_wishes 5 = .ok (.invokestatic 43, 3) := by decide +kernel
theorem dX5_wishes_8 : decode cX5_wishes 8 = .ok (.ifCond .eq 15, 3) := by decide +kernel
theorem dX5_wishes_11 : decode cX5_wishes 11 = .ok (.aload_n 0, 1) := by decide +kernel
theorem dX5_wishes_12 : decode cX5_wishes 12 = .ok (.getfield 7, 3) := by decide +kernel
theorem dX5_wishes_15 : decode cX5_wishes 15 = .ok (.iload_n 2, 1) := by decide +kernel
theorem dX5_wishes_16 : decode cX5_wishes 16 = .ok (.iload_n 1, 1) := by decide +kernel
theorem dX5_wishes_17 : decode cX5_wishes 17 = .ok (.iload_n 3, 1) := by decide +kernel
theorem dX5_wishes_18 : decode cX5_wishes 18 = .ok (.invokestatic 62, 3) := by decide +kernel
theorem dX5_wishes_21 : decode cX5_wishes 21 = .ok (.iconst 0, 1) := by decide +kernel
theorem dX5_wishes_22 : decode cX5_wishes 22 = .ok (.ireturn, 1) := by decide +kernel
theorem dX5_wishes_23 : decode cX5_wishes 23 = .ok (.aload_n 0, 1) := by decide +kernel
theorem dX5_wishes_24 : decode cX5_wishes 24 = .ok (.getfield 7, 3) := by decide +kernel
theorem dX5_wishes_27 : decode cX5_wishes 27 = .ok (.iload_n 2, 1) := by decide +kernel
theorem dX5_wishes_28 : decode cX5_wishes 28 = .ok (.iload_n 1, 1) := by decide +kernel
theorem dX5_wishes_29 : decode cX5_wishes 29 = .ok (.iload_n 3, 1) := by decide +kernel
theorem dX5_wishes_30 : decode cX5_wishes 30 = .ok (.invokestatic 94, 3) := by decide +kernel
theorem dX5_wishes_33 : decode cX5_wishes 33 = .ok (.aload_n 0, 1) := by decide +kernel
theorem dX5_wishes_34 : decode cX5_wishes 34 = .ok (.getfield 7, 3) := by decide +kernel
theorem dX5_wishes_37 : decode cX5_wishes 37 = .ok (.iload_n 2, 1) := by decide +kernel
theorem dX5_wishes_38 : decode cX5_wishes 38 = .ok (.invokestatic 40, 3) := by decide +kernel
theorem dX5_wishes_41 : decode cX5_wishes 41 = .ok (.iconst 5, 1) := by decide +kernel
theorem dX5_wishes_42 : decode cX5_wishes 42 = .ok (.iadd, 1) := by decide +kernel
theorem dX5_wishes_43 : decode cX5_wishes 43 = .ok (.iaload, 1) := by decide +kernel
theorem dX5_wishes_44 : decode cX5_wishes 44 = .ok (.ireturn, 1) := by decide +kernel
theorem dX5_wish_0 : decode cX5_wish 0 = .ok (.aload_n 0, 1) := by decide +kernel
theorem dX5_wish_1 : decode cX5_wish 1 = .ok (.iconst 0, 1) := by decide +kernel
theorem dX5_wish_2 : decode cX5_wish 2 = .ok (.putfield 25, 3) := by decide +kernel
theorem dX5_wish_5 : decode cX5_wish 5 = .ok (.iload_n 1, 1) := by decide +kernel
theorem dX5_wish_6 : decode cX5_wish 6 = .ok (.invokestatic 73, 3) := by decide +kernel
theorem dX5_wish_9 : decode cX5_wish 9 = .ok (.ifCond .eq 11, 3) := by decide +kernel
theorem dX5_wish_12 : decode cX5_wish 12 = .ok (.aload_n 0, 1) := by decide +kernel
theorem dX5_wish_13 : decode cX5_wish 13 = .ok (.iload_n 2, 1) := by decide +kernel
theorem dX5_wish_14 : decode cX5_wish 14 = .ok (.invokevirtual 97, 3) := by decide +kernel
theorem dX5_wish_17 : decode cX5_wish 17 = .ok (.ifCond .ne 9, 3) := by decide +kernel
theorem dX5_wish_20 : decode cX5_wish 20 = .ok (.aload_n 0, 1) := by decide +kernel
theorem dX5_wish_21 : decode cX5_wish 21 = .ok (.iconst 1, 1) := by decide +kernel
theorem dX5_wish_22 : decode cX5_wish 22 = .ok (.invokevirtual 36, 3) := by decide +kernel
theorem dX5_wish_25 : decode cX5_wish 25 = .ok (.ireturn, 1) := by decide +kernel
theorem dX5_wish_26 : decode cX5_wish 26 = .ok (.iload_n 3, 1) := by decide +kernel
theorem dX5_wish_27 : decode cX5_wish 27 = .ok (.invokestatic 77, 3) := by decide +kernel
theorem dX5_wish_30 : decode cX5_wish 30 = .ok (.ifCond .ne 9, 3) := by decide +kernel
theorem dX5_wish_33 : decode cX5_wish 33 = .ok (.aload_n 0, 1) := by decide +kernel
theorem dX5_wish_34 : decode cX5_wish 34 = .ok (.iconst 2, 1) := by decide +kernel
theorem dX5_wish_35 : decode cX5_wish 35 = .ok (.invokevirtual 36, 3) := by decide +kernel
theorem dX5_wish_38 : decode cX5_wish 38 = .ok (.ireturn, 1) := by decide +kernel
theorem dX5_wish_39 : decode cX5_wish 39 = .ok (.aload_n 0, 1) := by decide +kernel
theorem dX5_wish_40 : decode cX5_wish 40 = .ok (.iload_n 1, 1) := by decide +kernel
theorem dX5_wish_41 : decode cX5_wish 41 = .ok (.iload_n 2, 1) := by decide +kernel
theorem dX5_wish_42 : decode cX5_wish 42 = .ok (.invokevirtual 100, 3) := by decide +kernel
theorem dX5_wish_45 : decode cX5_wish 45 = .ok (.ifCond .ne 9, 3) := by decide +kernel
theorem dX5_wish_48 : decode cX5_wish 48 = .ok (.aload_n 0, 1) := by decide +kernel
theorem dX5_wish_49 : decode cX5_wish 49 = .ok (.iconst 3, 1) := by decide +kernel
theorem dX5_wish_50 : decode cX5_wish 50 = .ok (.invokevirtual 36, 3) := by decide +kernel
theorem dX5_wish_53 : decode cX5_wish 53 = .ok (.ireturn, 1) := by decide +kernel
theorem dX5_wish_54 : decode cX5_wish 54 = .ok (.aload_n 0, 1) := by decide +kernel
theorem dX5_wish_55 : decode cX5_wish 55 = .ok (.invokevirtual 83, 3) := by decide +kernel
theorem dX5_wish_58 : decode cX5_wish 58 = .ok (.aload_n 0, 1) := by decide +kernel
theorem dX5_wish_59 : decode cX5_wish 59 = .ok (.iload_n 1, 1) := by decide +kernel
theorem dX5_wish_60 : decode cX5_wish 60 = .ok (.iload_n 2, 1) := by decide +kernel
theorem dX5_wish_61 : decode cX5_wish 61 = .ok (.iload_n 3, 1) := by decide +kernel
theorem dX5_wish_62 : decode cX5_wish 62 = .ok (.invokevirtual 104, 3) := by decide +kernel
theorem dX5_wish_65 : decode cX5_wish 65 = .ok (.ireturn, 1) := by decide +kernel
theorem dX5_unwish_0 : decode cX5_unwish 0 = .ok (.aload_n 0, 1) := by decide +kernel
theorem dX5_unwish_1 : decode cX5_unwish 1 = .ok (.iconst 0, 1) := by decide +kernel
theorem dX5_unwish_2 : decode cX5_unwish 2 = .ok (.putfield 25, 3) := by decide +kernel
theorem dX5_unwish_5 : decode cX5_unwish 5 = .ok (.iload_n 1, 1) := by decide +kernel
theorem dX5_unwish_6 : decode cX5_unwish 6 = .ok (.invokestatic 73, 3) := by decide +kernel
theorem dX5_unwish_9 : decode cX5_unwish 9 = .ok (.ifCond .eq 11, 3) := by decide +kernel
theorem dX5_unwish_12 : decode cX5_unwish 12 = .ok (.aload_n 0, 1) := by decide +kernel
theorem dX5_unwish_13 : decode cX5_unwish 13 = .ok (.iload_n 2, 1) := by decide +kernel
theorem dX5_unwish_14 : decode cX5_unwish 14 = .ok (.invokevirtual 97, 3) := by decide +kernel
theorem dX5_unwish_17 : decode cX5_unwish 17 = .ok (.ifCond .ne 9, 3) := by decide +kernel
theorem dX5_unwish_20 : decode cX5_unwish 20 = .ok (.aload_n 0, 1) := by decide +kernel
theorem dX5_unwish_21 : decode cX5_unwish 21 = .ok (.iconst 1, 1) := by decide +kernel
theorem dX5_unwish_22 : decode cX5_unwish 22 = .ok (.invokevirtual 36, 3) := by decide +kernel
theorem dX5_unwish_25 : decode cX5_unwish 25 = .ok (.ireturn, 1) := by decide +kernel
theorem dX5_unwish_26 : decode cX5_unwish 26 = .ok (.aload_n 0, 1) := by decide +kernel
theorem dX5_unwish_27 : decode cX5_unwish 27 = .ok (.getfield 7, 3) := by decide +kernel
theorem dX5_unwish_30 : decode cX5_unwish 30 = .ok (.iload_n 2, 1) := by decide +kernel
theorem dX5_unwish_31 : decode cX5_unwish 31 = .ok (.iload_n 1, 1) := by decide +kernel
theorem dX5_unwish_32 : decode cX5_unwish 32 = .ok (.invokestatic 90, 3) := by decide +kernel
theorem dX5_unwish_35 : decode cX5_unwish 35 = .ok (.istore_n 3, 1) := by decide +kernel
theorem dX5_unwish_36 : decode cX5_unwish 36 = .ok (.iload_n 3, 1) := by decide +kernel
theorem dX5_unwish_37 : decode cX5_unwish 37 = .ok (.iconst (-1), 1) := by decide +kernel
theorem dX5_unwish_38 : decode cX5_unwish 38 = .ok (.if_icmp .ne 9, 3) := by decide +kernel
theorem dX5_unwish_41 : decode cX5_unwish 41 = .ok (.aload_n 0, 1) := by decide +kernel
theorem dX5_unwish_42 : decode cX5_unwish 42 = .ok (.iconst 2, 1) := by decide +kernel
theorem dX5_unwish_43 : decode cX5_unwish 43 = .ok (.invokevirtual 36, 3) := by decide +kernel
theorem dX5_unwish_46 : decode cX5_unwish 46 = .ok (.ireturn, 1) := by decide +kernel
theorem dX5_unwish_47 : decode cX5_unwish 47 = .ok (.aload_n 0, 1) := by decide +kernel
theorem dX5_unwish_48 : decode cX5_unwish 48 = .ok (.invokevirtual 83, 3) := by decide +kernel
theorem dX5_unwish_51 : decode cX5_unwish 51 = .ok (.aload_n 0, 1) := by decide +kernel
theorem dX5_unwish_52 : decode cX5_unwish 52 = .ok (.getfield 7, 3) := by decide +kernel
theorem dX5_unwish_55 : decode cX5_unwish 55 = .ok (.iload_n 2, 1) := by decide +kernel
theorem dX5_unwish_56 : decode cX5_unwish 56 = .ok (.iload_n 3, 1) := by decide +kernel
theorem dX5_unwish_57 : decode cX5_unwish 57 = .ok (.invokestatic 54, 3) := by decide +kernel
theorem dX5_unwish_60 : decode cX5_unwish 60 = .ok (.aload_n 0, 1) := by decide +kernel
theorem dX5_unwish_61 : decode cX5_unwish 61 = .ok (.getfield 7, 3) := by decide +kernel
theorem dX5_unwish_64 : decode cX5_unwish 64 = .ok (.iload_n 2, 1) := by decide +kernel
theorem dX5_unwish_65 : decode cX5_unwish 65 = .ok (.invokestatic 40, 3) := by decide +kernel
theorem dX5_unwish_68 : decode cX5_unwish 68 = .ok (.iconst 5, 1) := by decide +kernel
theorem dX5_unwish_69 : decode cX5_unwish 69 = .ok (.iadd, 1) := by decide +kernel
theorem dX5_unwish_70 : decode cX5_unwish 70 = .ok (.iaload, 1) := by decide +kernel
theorem dX5_unwish_71 : decode cX5_unwish 71 = .ok (.ireturn, 1) := by decide +kernel
theorem dX5_renew_0 : decode cX5_renew 0 = .ok (.aload_n 0, 1) := by decide +kernel
theorem dX5_renew_1 : decode cX5_renew 1 = .ok (.iconst 0, 1) := by decide +kernel
theorem dX5_renew_2 : decode cX5_renew 2 = .ok (.putfield 25, 3) := by decide +kernel
theorem dX5_renew_5 : decode cX5_renew 5 = .ok (.iload_n 1, 1) := by decide +kernel
theorem dX5_renew_6 : decode cX5_renew 6 = .ok (.invokestatic 73, 3) := by decide +kernel
theorem dX5_renew_9 : decode cX5_renew 9 = .ok (.ifCond .eq 11, 3) := by decide +kernel
theorem dX5_renew_12 : decode cX5_renew 12 = .ok (.aload_n 0, 1) := by decide +kernel
theorem dX5_renew_13 : decode cX5_renew 13 = .ok (.iload_n 2, 1) := by decide +kernel
theorem dX5_renew_14 : decode cX5_renew 14 = .ok (.invokevirtual 97, 3) := by decide +kernel
theorem dX5_renew_17 : decode cX5_renew 17 = .ok (.ifCond .ne 9, 3) := by decide +kernel
theorem dX5_renew_20 : decode cX5_renew 20 = .ok (.aload_n 0, 1) := by decide +kernel
theorem dX5_renew_21 : decode cX5_renew 21 = .ok (.iconst 1, 1) := by decide +kernel
theorem dX5_renew_22 : decode cX5_renew 22 = .ok (.invokevirtual 36, 3) := by decide +kernel
theorem dX5_renew_25 : decode cX5_renew 25 = .ok (.ireturn, 1) := by decide +kernel
theorem dX5_renew_26 : decode cX5_renew 26 = .ok (.iload_n 3, 1) := by decide +kernel
theorem dX5_renew_27 : decode cX5_renew 27 = .ok (.invokestatic 77, 3) := by decide +kernel
theorem dX5_renew_30 : decode cX5_renew 30 = .ok (.ifCond .ne 9, 3) := by decide +kernel
theorem dX5_renew_33 : decode cX5_renew 33 = .ok (.aload_n 0, 1) := by decide +kernel
theorem dX5_renew_34 : decode cX5_renew 34 = .ok (.iconst 2, 1) := by decide +kernel
theorem dX5_renew_35 : decode cX5_renew 35 = .ok (.invokevirtual 36, 3) := by decide +kernel
theorem dX5_renew_38 : decode cX5_renew 38 = .ok (.ireturn, 1) := by decide +kernel
theorem dX5_renew_39 : decode cX5_renew 39 = .ok (.iload_n 2, 1) := by decide +kernel
theorem dX5_renew_40 : decode cX5_renew 40 = .ok (.invokestatic 40, 3) := by decide +kernel
theorem dX5_renew_43 : decode cX5_renew 43 = .ok (.istore 4, 2) := by decide +kernel
theorem dX5_renew_45 : decode cX5_renew 45 = .ok (.aload_n 0, 1) := by decide +kernel
theorem dX5_renew_46 : decode cX5_renew 46 = .ok (.getfield 7, 3) := by decide +kernel
theorem dX5_renew_49 : decode cX5_renew 49 = .ok (.iload 4, 2) := by decide +kernel
theorem dX5_renew_51 : decode cX5_renew 51 = .ok (.iaload, 1) := by decide +kernel
theorem dX5_renew_52 : decode cX5_renew 52 = .ok (.iload_n 1, 1) := by decide +kernel
theorem dX5_renew_53 : decode cX5_renew 53 = .ok (.if_icmp .ne 25, 3) := by decide +kernel
theorem dX5_renew_56 : decode cX5_renew 56 = .ok (.aload_n 0, 1) := by decide +kernel
theorem dX5_renew_57 : decode cX5_renew 57 = .ok (.getfield 7, 3) := by decide +kernel
theorem dX5_renew_60 : decode cX5_renew 60 = .ok (.iload 4, 2) := by decide +kernel
theorem dX5_renew_62 : decode cX5_renew 62 = .ok (.iconst 5, 1) := by decide +kernel
theorem dX5_renew_63 : decode cX5_renew 63 = .ok (.iadd, 1) := by decide +kernel
theorem dX5_renew_64 : decode cX5_renew 64 = .ok (.iaload, 1) := by decide +kernel
theorem dX5_renew_65 : decode cX5_renew 65 = .ok (.ifCond .le 19, 3) := by decide +kernel
theorem dX5_renew_68 : decode cX5_renew 68 = .ok (.aload_n 0, 1) := by decide +kernel
theorem dX5_renew_69 : decode cX5_renew 69 = .ok (.getfield 7, 3) := by decide +kernel
theorem dX5_renew_72 : decode cX5_renew 72 = .ok (.iconst 3, 1) := by decide +kernel
theorem dX5_renew_73 : decode cX5_renew 73 = .ok (.iaload, 1) := by decide +kernel
theorem dX5_renew_74 : decode cX5_renew 74 = .ok (.iconst 1, 1) := by decide +kernel
theorem dX5_renew_75 : decode cX5_renew 75 = .ok (.if_icmp .ne 9, 3) := by decide +kernel
theorem dX5_renew_78 : decode cX5_renew 78 = .ok (.aload_n 0, 1) := by decide +kernel
theorem dX5_renew_79 : decode cX5_renew 79 = .ok (.iconst 3, 1) := by decide +kernel
theorem dX5_renew_80 : decode cX5_renew 80 = .ok (.invokevirtual 36, 3) := by decide +kernel
theorem dX5_renew_83 : decode cX5_renew 83 = .ok (.ireturn, 1) := by decide +kernel
theorem dX5_renew_84 : decode cX5_renew 84 = .ok (.aload_n 0, 1) := by decide +kernel
theorem dX5_renew_85 : decode cX5_renew 85 = .ok (.invokevirtual 83, 3) := by decide +kernel
theorem dX5_renew_88 : decode cX5_renew 88 = .ok (.aload_n 0, 1) := by decide +kernel
theorem dX5_renew_89 : decode cX5_renew 89 = .ok (.getfield 7, 3) := by decide +kernel
theorem dX5_renew_92 : decode cX5_renew 92 = .ok (.iload 4, 2) := by decide +kernel
theorem dX5_renew_94 : decode cX5_renew 94 = .ok (.iconst 2, 1) := by decide +kernel
theorem dX5_renew_95 : decode cX5_renew 95 = .ok (.iadd, 1) := by decide +kernel
theorem dX5_renew_96 : decode cX5_renew 96 = .ok (.iaload, 1) := by decide +kernel
theorem dX5_renew_97 : decode cX5_renew 97 = .ok (.istore 5, 2) := by decide +kernel
theorem dX5_renew_99 : decode cX5_renew 99 = .ok (.aload_n 0, 1) := by decide +kernel
theorem dX5_renew_100 : decode cX5_renew 100 = .ok (.getfield 7, 3) := by decide +kernel
theorem dX5_renew_103 : decode cX5_renew 103 = .ok (.iconst 5, 1) := by decide +kernel
theorem dX5_renew_104 : decode cX5_renew 104 = .ok (.dup2, 1) := by decide +kernel
theorem dX5_renew_105 : decode cX5_renew 105 = .ok (.iaload, 1) := by decide +kernel
theorem dX5_renew_106 : decode cX5_renew 106 = .ok (.iconst 1, 1) := by decide +kernel
theorem dX5_renew_107 : decode cX5_renew 107 = .ok (.iadd, 1) := by decide +kernel
theorem dX5_renew_108 : decode cX5_renew 108 = .ok (.iastore, 1) := by decide +kernel
theorem dX5_renew_109 : decode cX5_renew 109 = .ok (.aload_n 0, 1) := by decide +kernel
theorem dX5_renew_110 : decode cX5_renew 110 = .ok (.getfield 7, 3) := by decide +kernel
theorem dX5_renew_113 : decode cX5_renew 113 = .ok (.bipush 6, 2) := by decide +kernel
theorem dX5_renew_115 : decode cX5_renew 115 = .ok (.dup2, 1) := by decide +kernel
theorem dX5_renew_116 : decode cX5_renew 116 = .ok (.iaload, 1) := by decide +kernel
theorem dX5_renew_117 : decode cX5_renew 117 = .ok (.aload_n 0, 1) := by decide +kernel
theorem dX5_renew_118 : decode cX5_renew 118 = .ok (.getfield 7, 3) := by decide +kernel
theorem dX5_renew_121 : decode cX5_renew 121 = .ok (.iload_n 2, 1) := by decide +kernel
theorem dX5_renew_122 : decode cX5_renew 122 = .ok (.invokestatic 51, 3) := by decide +kernel
theorem dX5_renew_125 : decode cX5_renew 125 = .ok (.iconst 2, 1) := by decide +kernel
theorem dX5_renew_126 : decode cX5_renew 126 = .ok (.if_icmp .ne 7, 3) := by decide +kernel
theorem dX5_renew_129 : decode cX5_renew 129 = .ok (.iconst 1, 1) := by decide +kernel
theorem dX5_renew_130 : decode cX5_renew 130 = .ok (.goto 4, 3) := by decide +kernel
theorem dX5_renew_133 : decode cX5_renew 133 = .ok (.iconst 0, 1) := by decide +kernel
theorem dX5_renew_134 : decode cX5_renew 134 = .ok (.iadd, 1) := by decide +kernel
theorem dX5_renew_135 : decode cX5_renew 135 = .ok (.iastore, 1) := by decide +kernel
theorem dX5_renew_136 : decode cX5_renew 136 = .ok (.aload_n 0, 1) := by decide +kernel
theorem dX5_renew_137 : decode cX5_renew 137 = .ok (.getfield 7, 3) := by decide +kernel
theorem dX5_renew_140 : decode cX5_renew 140 = .ok (.iload 4, 2) := by decide +kernel
theorem dX5_renew_142 : decode cX5_renew 142 = .ok (.iconst 2, 1) := by decide +kernel
theorem dX5_renew_143 : decode cX5_renew 143 = .ok (.iadd, 1) := by decide +kernel
theorem dX5_renew_144 : decode cX5_renew 144 = .ok (.aload_n 0, 1) := by decide +kernel
theorem dX5_renew_145 : decode cX5_renew 145 = .ok (.getfield 7, 3) := by decide +kernel
theorem dX5_renew_148 : decode cX5_renew 148 = .ok (.iconst 0, 1) := by decide +kernel
theorem dX5_renew_149 : decode cX5_renew 149 = .ok (.iaload, 1) := by decide +kernel
theorem dX5_renew_150 : decode cX5_renew 150 = .ok (.iload_n 3, 1) := by decide +kernel
theorem dX5_renew_151 : decode cX5_renew 151 = .ok (.iadd, 1) := by decide +kernel
theorem dX5_renew_152 : decode cX5_renew 152 = .ok (.iastore, 1) := by decide +kernel
theorem dX5_renew_153 : decode cX5_renew 153 = .ok (.aload_n 0, 1) := by decide +kernel
theorem dX5_renew_154 : decode cX5_renew 154 = .ok (.getfield 7, 3) := by decide +kernel
theorem dX5_renew_157 : decode cX5_renew 157 = .ok (.iload 4, 2) := by decide +kernel
theorem dX5_renew_159 : decode cX5_renew 159 = .ok (.iconst 3, 1) := by decide +kernel
theorem dX5_renew_160 : decode cX5_renew 160 = .ok (.iadd, 1) := by decide +kernel
theorem dX5_renew_161 : decode cX5_renew 161 = .ok (.aload_n 0, 1) := by decide +kernel
theorem dX5_renew_162 : decode cX5_renew 162 = .ok (.getfield 7, 3) := by decide +kernel
theorem dX5_renew_165 : decode cX5_renew 165 = .ok (.iconst 0, 1) := by decide +kernel
theorem dX5_renew_166 : decode cX5_renew 166 = .ok (.iaload, 1) := by decide +kernel
theorem dX5_renew_167 : decode cX5_renew 167 = .ok (.iload_n 3, 1) := by decide +kernel
theorem dX5_renew_168 : decode cX5_renew 168 = .ok (.iadd, 1) := by decide +kernel
theorem dX5_renew_169 : decode cX5_renew 169 = .ok (.aload_n 0, 1) := by decide +kernel
theorem dX5_renew_170 : decode cX5_renew 170 = .ok (.getfield 7, 3) := by decide +kernel
theorem dX5_renew_173 : decode cX5_renew 173 = .ok (.iconst 1, 1) := by decide +kernel
theorem dX5_renew_174 : decode cX5_renew 174 = .ok (.iaload, 1) := by decide +kernel
theorem dX5_renew_175 : decode cX5_renew 175 = .ok (.iadd, 1) := by decide +kernel
theorem dX5_renew_176 : decode cX5_renew 176 = .ok (.iastore, 1) := by decide +kernel
theorem dX5_renew_177 : decode cX5_renew 177 = .ok (.iload 5, 2) := by decide +kernel
theorem dX5_renew_179 : decode cX5_renew 179 = .ok (.ireturn, 1) := by decide +kernel
theorem dX5_givesBack_0 : decode cX5_givesBack 0 = .ok (.iconst 0, 1) := by decide +kernel
theorem dX5_givesBack_1 : decode cX5_givesBack 1 = .ok (.istore 4, 2) := by decide +kernel
theorem dX5_givesBack_3 : decode cX5_givesBack 3 = .ok (.iload_n 2, 1) := by decide +kernel
theorem dX5_givesBack_4 : decode cX5_givesBack 4 = .ok (.istore 5, 2) := by decide +kernel
theorem dX5_givesBack_6 : decode cX5_givesBack 6 = .ok (.iload 5, 2) := by decide +kernel
theorem dX5_givesBack_8 : decode cX5_givesBack 8 = .ok (.iload_n 3, 1) := by decide +kernel
theorem dX5_givesBack_9 : decode cX5_givesBack 9 = .ok (.if_icmp .gt 35, 3) := by decide +kernel
theorem dX5_givesBack_12 : decode cX5_givesBack 12 = .ok (.aload_n 0, 1) := by decide +kernel
theorem dX5_givesBack_13 : decode cX5_givesBack 13 = .ok (.getfield 7, 3) := by decide +kernel
theorem dX5_givesBack_16 : decode cX5_givesBack 16 = .ok (.iload 5, 2) := by decide +kernel
theorem dX5_givesBack_18 : decode cX5_givesBack 18 = .ok (.invokestatic 40, 3) := by decide +kernel
theorem dX5_givesBack_21 : decode cX5_givesBack 21 = .ok (.iaload, 1) := by decide +kernel
theorem dX5_givesBack_22 : decode cX5_givesBack 22 = .ok (.iload_n 1, 1) := by decide +kernel
theorem dX5_givesBack_23 : decode cX5_givesBack 23 = .ok (.if_icmp .ne 15, 3) := by decide +kernel
theorem dX5_givesBack_26 : decode cX5_givesBack 26 = .ok (.aload_n 0, 1) := by decide +kernel
theorem dX5_givesBack_27 : decode cX5_givesBack 27 = .ok (.getfield 7, 3) := by decide +kernel
theorem dX5_givesBack_30 : decode cX5_givesBack 30 = .ok (.iload 5, 2) := by decide +kernel
theorem dX5_givesBack_32 : decode cX5_givesBack 32 = .ok (.invokestatic 66, 3) := by decide +kernel
theorem dX5_givesBack_35 : decode cX5_givesBack 35 = .ok (.iinc 4 1, 3) := by decide +kernel
theorem dX5_givesBack_38 : decode cX5_givesBack 38 = .ok (.iinc 5 1, 3) := by decide +kernel
theorem dX5_givesBack_41 : decode cX5_givesBack 41 = .ok (.goto (-35), 3) := by decide +kernel
theorem dX5_givesBack_44 : decode cX5_givesBack 44 = .ok (.iload 4, 2) := by decide +kernel
theorem dX5_givesBack_46 : decode cX5_givesBack 46 = .ok (.ireturn, 1) := by decide +kernel
theorem dX5_giveBack_0 : decode cX5_giveBack 0 = .ok (.aload_n 0, 1) := by decide +kernel
theorem dX5_giveBack_1 : decode cX5_giveBack 1 = .ok (.iconst 0, 1) := by decide +kernel
theorem dX5_giveBack_2 : decode cX5_giveBack 2 = .ok (.putfield 25, 3) := by decide +kernel
theorem dX5_giveBack_5 : decode cX5_giveBack 5 = .ok (.iload_n 1, 1) := by decide +kernel
theorem dX5_giveBack_6 : decode cX5_giveBack 6 = .ok (.invokestatic 73, 3) := by decide +kernel
theorem dX5_giveBack_9 : decode cX5_giveBack 9 = .ok (.ifCond .eq 19, 3) := by decide +kernel
theorem dX5_giveBack_12 : decode cX5_giveBack 12 = .ok (.aload_n 0, 1) := by decide +kernel
theorem dX5_giveBack_13 : decode cX5_giveBack 13 = .ok (.iload_n 2, 1) := by decide +kernel
theorem dX5_giveBack_14 : decode cX5_giveBack 14 = .ok (.invokevirtual 97, 3) := by decide +kernel
theorem dX5_giveBack_17 : decode cX5_giveBack 17 = .ok (.ifCond .eq 11, 3) := by decide +kernel
theorem dX5_giveBack_20 : decode cX5_giveBack 20 = .ok (.aload_n 0, 1) := by decide +kernel
theorem dX5_giveBack_21 : decode cX5_giveBack 21 = .ok (.iload_n 3, 1) := by decide +kernel
theorem dX5_giveBack_22 : decode cX5_giveBack 22 = .ok (.invokevirtual 97, 3) := by decide +kernel
theorem dX5_giveBack_25 : decode cX5_giveBack 25 = .ok (.ifCond .ne 9, 3) := by decide +kernel
theorem dX5_giveBack_28 : decode cX5_giveBack 28 = .ok (.aload_n 0, 1) := by decide +kernel
theorem dX5_giveBack_29 : decode cX5_giveBack 29 = .ok (.iconst 1, 1) := by decide +kernel
theorem dX5_giveBack_30 : decode cX5_giveBack 30 = .ok (.invokevirtual 36, 3) := by decide +kernel
theorem dX5_giveBack_33 : decode cX5_giveBack 33 = .ok (.ireturn, 1) := by decide +kernel
theorem dX5_giveBack_34 : decode cX5_giveBack 34 = .ok (.iload_n 3, 1) := by decide +kernel
theorem dX5_giveBack_35 : decode cX5_giveBack 35 = .ok (.iload_n 2, 1) := by decide +kernel
theorem dX5_giveBack_36 : decode cX5_giveBack 36 = .ok (.if_icmp .ge 9, 3) := by decide +kernel
theorem dX5_giveBack_39 : decode cX5_giveBack 39 = .ok (.aload_n 0, 1) := by decide +kernel
theorem dX5_giveBack_40 : decode cX5_giveBack 40 = .ok (.iconst 2, 1) := by decide +kernel
theorem dX5_giveBack_41 : decode cX5_giveBack 41 = .ok (.invokevirtual 36, 3) := by decide +kernel
theorem dX5_giveBack_44 : decode cX5_giveBack 44 = .ok (.ireturn, 1) := by decide +kernel
theorem dX5_giveBack_45 : decode cX5_giveBack 45 = .ok (.aload_n 0, 1) := by decide +kernel
theorem dX5_giveBack_46 : decode cX5_giveBack 46 = .ok (.invokevirtual 83, 3) := by decide +kernel
theorem dX5_giveBack_49 : decode cX5_giveBack 49 = .ok (.aload_n 0, 1) := by decide +kernel
theorem dX5_giveBack_50 : decode cX5_giveBack 50 = .ok (.iload_n 1, 1) := by decide +kernel
theorem dX5_giveBack_51 : decode cX5_giveBack 51 = .ok (.iload_n 2, 1) := by decide +kernel
theorem dX5_giveBack_52 : decode cX5_giveBack 52 = .ok (.iload_n 3, 1) := by decide +kernel
theorem dX5_giveBack_53 : decode cX5_giveBack 53 = .ok (.invokevirtual 108, 3) := by decide +kernel
theorem dX5_giveBack_56 : decode cX5_giveBack 56 = .ok (.ireturn, 1) := by decide +kernel
theorem dX5_passesBy_0 : decode cX5_passesBy 0 = .ok (.iconst 0, 1) := by decide +kernel
theorem dX5_passesBy_1 : decode cX5_passesBy 1 = .ok (.istore_n 2, 1) := by decide +kernel
theorem dX5_passesBy_2 : decode cX5_passesBy 2 = .ok (.iconst 0, 1) := by decide +kernel
theorem dX5_passesBy_3 : decode cX5_passesBy 3 = .ok (.istore_n 3, 1) := by decide +kernel
theorem dX5_passesBy_4 : decode cX5_passesBy 4 = .ok (.iload_n 3, 1) := by decide +kernel
theorem dX5_passesBy_5 : decode cX5_passesBy 5 = .ok (.iload_n 1, 1) := by decide +kernel
theorem dX5_passesBy_6 : decode cX5_passesBy 6 = .ok (.if_icmp .ge 19, 3) := by decide +kernel
theorem dX5_passesBy_9 : decode cX5_passesBy 9 = .ok (.iload_n 2, 1) := by decide +kernel
theorem dX5_passesBy_10 : decode cX5_passesBy 10 = .ok (.aload_n 0, 1) := by decide +kernel
theorem dX5_passesBy_11 : decode cX5_passesBy 11 = .ok (.getfield 7, 3) := by decide +kernel
theorem dX5_passesBy_14 : decode cX5_passesBy 14 = .ok (.invokestatic 111, 3) := by decide +kernel
theorem dX5_passesBy_17 : decode cX5_passesBy 17 = .ok (.iadd, 1) := by decide +kernel
theorem dX5_passesBy_18 : decode cX5_passesBy 18 = .ok (.istore_n 2, 1) := by decide +kernel
theorem dX5_passesBy_19 : decode cX5_passesBy 19 = .ok (.iinc 3 1, 3) := by decide +kernel
theorem dX5_passesBy_22 : decode cX5_passesBy 22 = .ok (.goto (-18), 3) := by decide +kernel
theorem dX5_passesBy_25 : decode cX5_passesBy 25 = .ok (.iload_n 2, 1) := by decide +kernel
theorem dX5_passesBy_26 : decode cX5_passesBy 26 = .ok (.ireturn, 1) := by decide +kernel
theorem dX5_pass_0 : decode cX5_pass 0 = .ok (.aload_n 0, 1) := by decide +kernel
theorem dX5_pass_1 : decode cX5_pass 1 = .ok (.iconst 0, 1) := by decide +kernel
theorem dX5_pass_2 : decode cX5_pass 2 = .ok (.putfield 25, 3) := by decide +kernel
theorem dX5_pass_5 : decode cX5_pass 5 = .ok (.iload_n 1, 1) := by decide +kernel
theorem dX5_pass_6 : decode cX5_pass 6 = .ok (.iconst 1, 1) := by decide +kernel
theorem dX5_pass_7 : decode cX5_pass 7 = .ok (.bipush 99, 2) := by decide +kernel
theorem dX5_pass_9 : decode cX5_pass 9 = .ok (.invokestatic 29, 3) := by decide +kernel
theorem dX5_pass_12 : decode cX5_pass 12 = .ok (.ifCond .ne 9, 3) := by decide +kernel
theorem dX5_pass_15 : decode cX5_pass 15 = .ok (.aload_n 0, 1) := by decide +kernel
theorem dX5_pass_16 : decode cX5_pass 16 = .ok (.iconst 1, 1) := by decide +kernel
theorem dX5_pass_17 : decode cX5_pass 17 = .ok (.invokevirtual 36, 3) := by decide +kernel
theorem dX5_pass_20 : decode cX5_pass 20 = .ok (.ireturn, 1) := by decide +kernel
theorem dX5_pass_21 : decode cX5_pass 21 = .ok (.aload_n 0, 1) := by decide +kernel
theorem dX5_pass_22 : decode cX5_pass 22 = .ok (.getfield 7, 3) := by decide +kernel
theorem dX5_pass_25 : decode cX5_pass 25 = .ok (.iconst 0, 1) := by decide +kernel
theorem dX5_pass_26 : decode cX5_pass 26 = .ok (.iaload, 1) := by decide +kernel
theorem dX5_pass_27 : decode cX5_pass 27 = .ok (.iload_n 1, 1) := by decide +kernel
theorem dX5_pass_28 : decode cX5_pass 28 = .ok (.iadd, 1) := by decide +kernel
theorem dX5_pass_29 : decode cX5_pass 29 = .ok (.sipush 9999, 3) := by decide +kernel
theorem dX5_pass_32 : decode cX5_pass 32 = .ok (.if_icmp .le 9, 3) := by decide +kernel
theorem dX5_pass_35 : decode cX5_pass 35 = .ok (.aload_n 0, 1) := by decide +kernel
theorem dX5_pass_36 : decode cX5_pass 36 = .ok (.iconst 2, 1) := by decide +kernel
theorem dX5_pass_37 : decode cX5_pass 37 = .ok (.invokevirtual 36, 3) := by decide +kernel
theorem dX5_pass_40 : decode cX5_pass 40 = .ok (.ireturn, 1) := by decide +kernel
theorem dX5_pass_41 : decode cX5_pass 41 = .ok (.aload_n 0, 1) := by decide +kernel
theorem dX5_pass_42 : decode cX5_pass 42 = .ok (.invokevirtual 83, 3) := by decide +kernel
theorem dX5_pass_45 : decode cX5_pass 45 = .ok (.aload_n 0, 1) := by decide +kernel
theorem dX5_pass_46 : decode cX5_pass 46 = .ok (.iload_n 1, 1) := by decide +kernel
theorem dX5_pass_47 : decode cX5_pass 47 = .ok (.invokevirtual 115, 3) := by decide +kernel
theorem dX5_pass_50 : decode cX5_pass 50 = .ok (.ireturn, 1) := by decide +kernel
theorem dX5_isFor_0 : decode cX5_isFor 0 = .ok (.iload_n 1, 1) := by decide +kernel
theorem dX5_isFor_1 : decode cX5_isFor 1 = .ok (.ifCond .ne 13, 3) := by decide +kernel
theorem dX5_isFor_4 : decode cX5_isFor 4 = .ok (.iload_n 2, 1) := by decide +kernel
theorem dX5_isFor_5 : decode cX5_isFor 5 = .ok (.iconst 0, 1) := by decide +kernel
theorem dX5_isFor_6 : decode cX5_isFor 6 = .ok (.bipush 50, 2) := by decide +kernel
theorem dX5_isFor_8 : decode cX5_isFor 8 = .ok (.invokestatic 29, 3) := by decide +kernel
theorem dX5_isFor_11 : decode cX5_isFor 11 = .ok (.goto 39, 3) := by decide +kernel
theorem dX5_isFor_14 : decode cX5_isFor 14 = .ok (.iload_n 1, 1) := by decide +kernel
theorem dX5_isFor_15 : decode cX5_isFor 15 = .ok (.iconst 1, 1) := by decide +kernel
theorem dX5_isFor_16 : decode cX5_isFor 16 = .ok (.if_icmp .ne 13, 3) := by decide +kernel
theorem dX5_isFor_19 : decode cX5_isFor 19 = .ok (.iload_n 2, 1) := by decide +kernel
theorem dX5_isFor_20 : decode cX5_isFor 20 = .ok (.iconst 1, 1) := by decide +kernel
theorem dX5_isFor_21 : decode cX5_isFor 21 = .ok (.bipush 64, 2) := by decide +kernel
theorem dX5_isFor_23 : decode cX5_isFor 23 = .ok (.invokestatic 29, 3) := by decide +kernel
theorem dX5_isFor_26 : decode cX5_isFor 26 = .ok (.goto 24, 3) := by decide +kernel
theorem dX5_isFor_29 : decode cX5_isFor 29 = .ok (.iload_n 1, 1) := by decide +kernel
theorem dX5_isFor_30 : decode cX5_isFor 30 = .ok (.iconst 2, 1) := by decide +kernel
theorem dX5_isFor_31 : decode cX5_isFor 31 = .ok (.if_icmp .ne 12, 3) := by decide +kernel
theorem dX5_isFor_34 : decode cX5_isFor 34 = .ok (.iload_n 2, 1) := by decide +kernel
theorem dX5_isFor_35 : decode cX5_isFor 35 = .ok (.iconst 0, 1) := by decide +kernel
theorem dX5_isFor_36 : decode cX5_isFor 36 = .ok (.iconst 1, 1) := by decide +kernel
theorem dX5_isFor_37 : decode cX5_isFor 37 = .ok (.invokestatic 29, 3) := by decide +kernel
theorem dX5_isFor_40 : decode cX5_isFor 40 = .ok (.goto 10, 3) := by decide +kernel
theorem dX5_isFor_43 : decode cX5_isFor 43 = .ok (.iload_n 2, 1) := by decide +kernel
theorem dX5_isFor_44 : decode cX5_isFor 44 = .ok (.iconst 4, 1) := by decide +kernel
theorem dX5_isFor_45 : decode cX5_isFor 45 = .ok (.bipush 64, 2) := by decide +kernel
theorem dX5_isFor_47 : decode cX5_isFor 47 = .ok (.invokestatic 29, 3) := by decide +kernel
theorem dX5_isFor_50 : decode cX5_isFor 50 = .ok (.ireturn, 1) := by decide +kernel
theorem dX5_set_0 : decode cX5_set 0 = .ok (.aload_n 0, 1) := by decide +kernel
theorem dX5_set_1 : decode cX5_set 1 = .ok (.iconst 0, 1) := by decide +kernel
theorem dX5_set_2 : decode cX5_set 2 = .ok (.putfield 25, 3) := by decide +kernel
theorem dX5_set_5 : decode cX5_set 5 = .ok (.iload_n 1, 1) := by decide +kernel
theorem dX5_set_6 : decode cX5_set 6 = .ok (.iconst 0, 1) := by decide +kernel
theorem dX5_set_7 : decode cX5_set 7 = .ok (.iconst 3, 1) := by decide +kernel
theorem dX5_set_8 : decode cX5_set 8 = .ok (.invokestatic 29, 3) := by decide +kernel
theorem dX5_set_11 : decode cX5_set 11 = .ok (.ifCond .ne 9, 3) := by decide +kernel
theorem dX5_set_14 : decode cX5_set 14 = .ok (.aload_n 0, 1) := by decide +kernel
theorem dX5_set_15 : decode cX5_set 15 = .ok (.iconst 1, 1) := by decide +kernel
theorem dX5_set_16 : decode cX5_set 16 = .ok (.invokevirtual 36, 3) := by decide +kernel
theorem dX5_set_19 : decode cX5_set 19 = .ok (.ireturn, 1) := by decide +kernel
theorem dX5_set_20 : decode cX5_set 20 = .ok (.aload_n 0, 1) := by decide +kernel
theorem dX5_set_21 : decode cX5_set 21 = .ok (.iload_n 1, 1) := by decide +kernel
theorem dX5_set_22 : decode cX5_set 22 = .ok (.iload_n 2, 1) := by decide +kernel
theorem dX5_set_23 : decode cX5_set 23 = .ok (.invokevirtual 118, 3) := by decide +kernel
theorem dX5_set_26 : decode cX5_set 26 = .ok (.ifCond .ne 9, 3) := by decide +kernel
theorem dX5_set_29 : decode cX5_set 29 = .ok (.aload_n 0, 1) := by decide +kernel
theorem dX5_set_30 : decode cX5_set 30 = .ok (.iconst 2, 1) := by decide +kernel
theorem dX5_set_31 : decode cX5_set 31 = .ok (.invokevirtual 36, 3) := by decide +kernel
theorem dX5_set_34 : decode cX5_set 34 = .ok (.ireturn, 1) := by decide +kernel
theorem dX5_set_35 : decode cX5_set 35 = .ok (.iload_n 2, 1) := by decide +kernel
theorem dX5_set_36 : decode cX5_set 36 = .ok (.istore_n 3, 1) := by decide +kernel
theorem dX5_set_37 : decode cX5_set 37 = .ok (.iload_n 1, 1) := by decide +kernel
theorem dX5_set_38 : decode cX5_set 38 = .ok (.iconst 3, 1) := by decide +kernel
theorem dX5_set_39 : decode cX5_set 39 = .ok (.if_icmp .ne 36, 3) := by decide +kernel
theorem dX5_set_42 : decode cX5_set 42 = .ok (.iload_n 3, 1) := by decide +kernel
theorem dX5_set_43 : decode cX5_set 43 = .ok (.aload_n 0, 1) := by decide +kernel
theorem dX5_set_44 : decode cX5_set 44 = .ok (.getfield 7, 3) := by decide +kernel
theorem dX5_set_47 : decode cX5_set 47 = .ok (.iconst 4, 1) := by decide +kernel
theorem dX5_set_48 : decode cX5_set 48 = .ok (.iaload, 1) := by decide +kernel
theorem dX5_set_49 : decode cX5_set 49 = .ok (.if_icmp .ge 26, 3) := by decide +kernel
theorem dX5_set_52 : decode cX5_set 52 = .ok (.aload_n 0, 1) := by decide +kernel
theorem dX5_set_53 : decode cX5_set 53 = .ok (.getfield 7, 3) := by decide +kernel
theorem dX5_set_56 : decode cX5_set 56 = .ok (.iload_n 3, 1) := by decide +kernel
theorem dX5_set_57 : decode cX5_set 57 = .ok (.invokestatic 43, 3) := by decide +kernel
theorem dX5_set_60 : decode cX5_set 60 = .ok (.ifCond .ne 9, 3) := by decide +kernel
theorem dX5_set_63 : decode cX5_set 63 = .ok (.aload_n 0, 1) := by decide +kernel
theorem dX5_set_64 : decode cX5_set 64 = .ok (.iconst 3, 1) := by decide +kernel
theorem dX5_set_65 : decode cX5_set 65 = .ok (.invokevirtual 36, 3) := by decide +kernel
theorem dX5_set_68 : decode cX5_set 68 = .ok (.ireturn, 1) := by decide +kernel
theorem dX5_set_69 : decode cX5_set 69 = .ok (.iinc 3 1, 3) := by decide +kernel
theorem dX5_set_72 : decode cX5_set 72 = .ok (.goto (-35), 3) := by decide +kernel
theorem dX5_set_75 : decode cX5_set 75 = .ok (.aload_n 0, 1) := by decide +kernel
theorem dX5_set_76 : decode cX5_set 76 = .ok (.invokevirtual 83, 3) := by decide +kernel
theorem dX5_set_79 : decode cX5_set 79 = .ok (.aload_n 0, 1) := by decide +kernel
theorem dX5_set_80 : decode cX5_set 80 = .ok (.getfield 7, 3) := by decide +kernel
theorem dX5_set_83 : decode cX5_set 83 = .ok (.iconst 1, 1) := by decide +kernel
theorem dX5_set_84 : decode cX5_set 84 = .ok (.iload_n 1, 1) := by decide +kernel
theorem dX5_set_85 : decode cX5_set 85 = .ok (.iadd, 1) := by decide +kernel
theorem dX5_set_86 : decode cX5_set 86 = .ok (.iaload, 1) := by decide +kernel
theorem dX5_set_87 : decode cX5_set 87 = .ok (.istore_n 3, 1) := by decide +kernel
theorem dX5_set_88 : decode cX5_set 88 = .ok (.aload_n 0, 1) := by decide +kernel
theorem dX5_set_89 : decode cX5_set 89 = .ok (.getfield 7, 3) := by decide +kernel
theorem dX5_set_92 : decode cX5_set 92 = .ok (.iconst 1, 1) := by decide +kernel
theorem dX5_set_93 : decode cX5_set 93 = .ok (.iload_n 1, 1) := by decide +kernel
theorem dX5_set_94 : decode cX5_set 94 = .ok (.iadd, 1) := by decide +kernel
theorem dX5_set_95 : decode cX5_set 95 = .ok (.iload_n 2, 1) := by decide +kernel
theorem dX5_set_96 : decode cX5_set 96 = .ok (.iastore, 1) := by decide +kernel
theorem dX5_set_97 : decode cX5_set 97 = .ok (.iload_n 3, 1) := by decide +kernel
theorem dX5_set_98 : decode cX5_set 98 = .ok (.ireturn, 1) := by decide +kernel
theorem dX5_append_0 : decode cX5_append 0 = .ok (.aload_n 0, 1) := by decide +kernel
theorem dX5_append_1 : decode cX5_append 1 = .ok (.iconst 0, 1) := by decide +kernel
theorem dX5_append_2 : decode cX5_append 2 = .ok (.putfield 25, 3) := by decide +kernel
theorem dX5_append_5 : decode cX5_append 5 = .ok (.iload_n 1, 1) := by decide +kernel
theorem dX5_append_6 : decode cX5_append 6 = .ok (.bipush 33, 2) := by decide +kernel
theorem dX5_append_8 : decode cX5_append 8 = .ok (.bipush 126, 2) := by decide +kernel
theorem dX5_append_10 : decode cX5_append 10 = .ok (.invokestatic 29, 3) := by decide +kernel
theorem dX5_append_13 : decode cX5_append 13 = .ok (.ifCond .ne 9, 3) := by decide +kernel
theorem dX5_append_16 : decode cX5_append 16 = .ok (.aload_n 0, 1) := by decide +kernel
theorem dX5_append_17 : decode cX5_append 17 = .ok (.iconst 1, 1) := by decide +kernel
theorem dX5_append_18 : decode cX5_append 18 = .ok (.invokevirtual 36, 3) := by decide +kernel
theorem dX5_append_21 : decode cX5_append 21 = .ok (.ireturn, 1) := by decide +kernel
theorem dX5_append_22 : decode cX5_append 22 = .ok (.aload_n 0, 1) := by decide +kernel
theorem dX5_append_23 : decode cX5_append 23 = .ok (.getfield 121, 3) := by decide +kernel
theorem dX5_append_26 : decode cX5_append 26 = .ok (.bipush 60, 2) := by decide +kernel
theorem dX5_append_28 : decode cX5_append 28 = .ok (.if_icmp .ne 9, 3) := by decide +kernel
theorem dX5_append_31 : decode cX5_append 31 = .ok (.aload_n 0, 1) := by decide +kernel
theorem dX5_append_32 : decode cX5_append 32 = .ok (.iconst 2, 1) := by decide +kernel
theorem dX5_append_33 : decode cX5_append 33 = .ok (.invokevirtual 36, 3) := by decide +kernel
theorem dX5_append_36 : decode cX5_append 36 = .ok (.ireturn, 1) := by decide +kernel
theorem dX5_append_37 : decode cX5_append 37 = .ok (.aload_n 0, 1) := by decide +kernel
theorem dX5_append_38 : decode cX5_append 38 = .ok (.getfield 19, 3) := by decide +kernel
theorem dX5_append_41 : decode cX5_append 41 = .ok (.aload_n 0, 1) := by decide +kernel
theorem dX5_append_42 : decode cX5_append 42 = .ok (.getfield 121, 3) := by decide +kernel
theorem dX5_append_45 : decode cX5_append 45 = .ok (.iload_n 1, 1) := by decide +kernel
theorem dX5_append_46 : decode cX5_append 46 = .ok (.iastore, 1) := by decide +kernel
theorem dX5_append_47 : decode cX5_append 47 = .ok (.aload_n 0, 1) := by decide +kernel
theorem dX5_append_48 : decode cX5_append 48 = .ok (.dup, 1) := by decide +kernel
theorem dX5_append_49 : decode cX5_append 49 = .ok (.getfield 121, 3) := by decide +kernel
theorem dX5_append_52 : decode cX5_append 52 = .ok (.iconst 1, 1) := by decide +kernel
theorem dX5_append_53 : decode cX5_append 53 = .ok (.iadd, 1) := by decide +kernel
theorem dX5_append_54 : decode cX5_append 54 = .ok (.putfield 121, 3) := by decide +kernel
theorem dX5_append_57 : decode cX5_append 57 = .ok (.aload_n 0, 1) := by decide +kernel
theorem dX5_append_58 : decode cX5_append 58 = .ok (.getfield 121, 3) := by decide +kernel
theorem dX5_append_61 : decode cX5_append 61 = .ok (.ireturn, 1) := by decide +kernel
theorem dX5_clearBuffer_0 : decode cX5_clearBuffer 0 = .ok (.aload_n 0, 1) := by decide +kernel
theorem dX5_clearBuffer_1 : decode cX5_clearBuffer 1 = .ok (.iconst 0, 1) := by decide +kernel
theorem dX5_clearBuffer_2 : decode cX5_clearBuffer 2 = .ok (.putfield 25, 3) := by decide +kernel
theorem dX5_clearBuffer_5 : decode cX5_clearBuffer 5 = .ok (.aload_n 0, 1) := by decide +kernel
theorem dX5_clearBuffer_6 : decode cX5_clearBuffer 6 = .ok (.getfield 121, 3) := by decide +kernel
theorem dX5_clearBuffer_9 : decode cX5_clearBuffer 9 = .ok (.istore_n 1, 1) := by decide +kernel
theorem dX5_clearBuffer_10 : decode cX5_clearBuffer 10 = .ok (.aload_n 0, 1) := by decide +kernel
theorem dX5_clearBuffer_11 : decode cX5_clearBuffer 11 = .ok (.iconst 0, 1) := by decide +kernel
theorem dX5_clearBuffer_12 : decode cX5_clearBuffer 12 = .ok (.putfield 121, 3) := by decide +kernel
theorem dX5_clearBuffer_15 : decode cX5_clearBuffer 15 = .ok (.iload_n 1, 1) := by decide +kernel
theorem dX5_clearBuffer_16 : decode cX5_clearBuffer 16 = .ok (.ireturn, 1) := by decide +kernel
theorem dX5_isAt_0 : decode cX5_isAt 0 = .ok (.aload_n 0, 1) := by decide +kernel
theorem dX5_isAt_1 : decode cX5_isAt 1 = .ok (.getfield 124, 3) := by decide +kernel
theorem dX5_isAt_4 : decode cX5_isAt 4 = .ok (.aload_n 0, 1) := by decide +kernel
theorem dX5_isAt_5 : decode cX5_isAt 5 = .ok (.getfield 121, 3) := by decide +kernel
theorem dX5_isAt_8 : decode cX5_isAt 8 = .ok (.if_icmp .ge 24, 3) := by decide +kernel
theorem dX5_isAt_11 : decode cX5_isAt 11 = .ok (.aload_n 0, 1) := by decide +kernel
theorem dX5_isAt_12 : decode cX5_isAt 12 = .ok (.getfield 19, 3) := by decide +kernel
theorem dX5_isAt_15 : decode cX5_isAt 15 = .ok (.aload_n 0, 1) := by decide +kernel
theorem dX5_isAt_16 : decode cX5_isAt 16 = .ok (.getfield 124, 3) := by decide +kernel
theorem dX5_isAt_19 : decode cX5_isAt 19 = .ok (.iaload, 1) := by decide +kernel
theorem dX5_isAt_20 : decode cX5_isAt 20 = .ok (.iload_n 1, 1) := by decide +kernel
theorem dX5_isAt_21 : decode cX5_isAt 21 = .ok (.iload_n 2, 1) := by decide +kernel
theorem dX5_isAt_22 : decode cX5_isAt 22 = .ok (.invokestatic 29, 3) := by decide +kernel
theorem dX5_isAt_25 : decode cX5_isAt 25 = .ok (.ifCond .eq 7, 3) := by decide +kernel
theorem dX5_isAt_28 : decode cX5_isAt 28 = .ok (.iconst 1, 1) := by decide +kernel
theorem dX5_isAt_29 : decode cX5_isAt 29 = .ok (.goto 4, 3) := by decide +kernel
theorem dX5_isAt_32 : decode cX5_isAt 32 = .ok (.iconst 0, 1) := by decide +kernel
theorem dX5_isAt_33 : decode cX5_isAt 33 = .ok (.ireturn, 1) := by decide +kernel
theorem dX5_stops_0 : decode cX5_stops 0 = .ok (.aload_n 0, 1) := by decide +kernel
theorem dX5_stops_1 : decode cX5_stops 1 = .ok (.aload_n 0, 1) := by decide +kernel
theorem dX5_stops_2 : decode cX5_stops 2 = .ok (.getfield 124, 3) := by decide +kernel
theorem dX5_stops_5 : decode cX5_stops 5 = .ok (.aload_n 0, 1) := by decide +kernel
theorem dX5_stops_6 : decode cX5_stops 6 = .ok (.getfield 121, 3) := by decide +kernel
theorem dX5_stops_9 : decode cX5_stops 9 = .ok (.if_icmp .ge 7, 3) := by decide +kernel
theorem dX5_stops_12 : decode cX5_stops 12 = .ok (.iconst 1, 1) := by decide +kernel
theorem dX5_stops_13 : decode cX5_stops 13 = .ok (.goto 4, 3) := by decide +kernel
theorem dX5_stops_16 : decode cX5_stops 16 = .ok (.iconst 0, 1) := by decide +kernel
theorem dX5_stops_17 : decode cX5_stops 17 = .ok (.putfield 127, 3) := by decide +kernel
theorem dX5_stops_20 : decode cX5_stops 20 = .ok (.iconst 0, 1) := by decide +kernel
theorem dX5_stops_21 : decode cX5_stops 21 = .ok (.ireturn, 1) := by decide +kernel
theorem dX5_isSign_0 : decode cX5_isSign 0 = .ok (.aload_n 0, 1) := by decide +kernel
theorem dX5_isSign_1 : decode cX5_isSign 1 = .ok (.iload_n 1, 1) := by decide +kernel
theorem dX5_isSign_2 : decode cX5_isSign 2 = .ok (.iload_n 1, 1) := by decide +kernel
theorem dX5_isSign_3 : decode cX5_isSign 3 = .ok (.invokevirtual 131, 3) := by decide +kernel
theorem dX5_isSign_6 : decode cX5_isSign 6 = .ok (.ifCond .ne 8, 3) := by decide +kernel
theorem dX5_isSign_9 : decode cX5_isSign 9 = .ok (.aload_n 0, 1) := by decide +kernel
theorem dX5_isSign_10 : decode cX5_isSign 10 = .ok (.invokevirtual 134, 3) := by decide +kernel
theorem dX5_isSign_13 : decode cX5_isSign 13 = .ok (.ireturn, 1) := by decide +kernel
theorem dX5_isSign_14 : decode cX5_isSign 14 = .ok (.aload_n 0, 1) := by decide +kernel
theorem dX5_isSign_15 : decode cX5_isSign 15 = .ok (.dup, 1) := by decide +kernel
theorem dX5_isSign_16 : decode cX5_isSign 16 = .ok (.getfield 124, 3) := by decide +kernel
theorem dX5_isSign_19 : decode cX5_isSign 19 = .ok (.iconst 1, 1) := by decide +kernel
theorem dX5_isSign_20 : decode cX5_isSign 20 = .ok (.iadd, 1) := by decide +kernel
theorem dX5_isSign_21 : decode cX5_isSign 21 = .ok (.putfield 124, 3) := by decide +kernel
theorem dX5_isSign_24 : decode cX5_isSign 24 = .ok (.iconst 1, 1) := by decide +kernel
theorem dX5_isSign_25 : decode cX5_isSign 25 = .ok (.ireturn, 1) := by decide +kernel
theorem dX5_begins_0 : decode cX5_begins 0 = .ok (.iload_n 0, 1) := by decide +kernel
theorem dX5_begins_1 : decode cX5_begins 1 = .ok (.iload_n 1, 1) := by decide +kernel
theorem dX5_begins_2 : decode cX5_begins 2 = .ok (.iload_n 2, 1) := by decide +kernel
theorem dX5_begins_3 : decode cX5_begins 3 = .ok (.invokestatic 29, 3) := by decide +kernel
theorem dX5_begins_6 : decode cX5_begins 6 = .ok (.ifCond .ne 26, 3) := by decide +kernel
theorem dX5_begins_9 : decode cX5_begins 9 = .ok (.iload_n 0, 1) := by decide +kernel
theorem dX5_begins_10 : decode cX5_begins 10 = .ok (.ifCond .le 26, 3) := by decide +kernel
theorem dX5_begins_13 : decode cX5_begins 13 = .ok (.bipush 10, 2) := by decide +kernel
theorem dX5_begins_15 : decode cX5_begins 15 = .ok (.iload_n 0, 1) := by decide +kernel
theorem dX5_begins_16 : decode cX5_begins 16 = .ok (.imul, 1) := by decide +kernel
theorem dX5_begins_17 : decode cX5_begins 17 = .ok (.bipush 9, 2) := by decide +kernel
theorem dX5_begins_19 : decode cX5_begins 19 = .ok (.iadd, 1) := by decide +kernel
theorem dX5_begins_20 : decode cX5_begins 20 = .ok (.iload_n 1, 1) := by decide +kernel
theorem dX5_begins_21 : decode cX5_begins 21 = .ok (.if_icmp .lt 15, 3) := by decide +kernel
theorem dX5_begins_24 : decode cX5_begins 24 = .ok (.bipush 10, 2) := by decide +kernel
theorem dX5_begins_26 : decode cX5_begins 26 = .ok (.iload_n 0, 1) := by decide +kernel
theorem dX5_begins_27 : decode cX5_begins 27 = .ok (.imul, 1) := by decide +kernel
theorem dX5_begins_28 : decode cX5_begins 28 = .ok (.iload_n 2, 1) := by decide +kernel
theorem dX5_begins_29 : decode cX5_begins 29 = .ok (.if_icmp .gt 7, 3) := by decide +kernel
theorem dX5_begins_32 : decode cX5_begins 32 = .ok (.iconst 1, 1) := by decide +kernel
theorem dX5_begins_33 : decode cX5_begins 33 = .ok (.goto 4, 3) := by decide +kernel
theorem dX5_begins_36 : decode cX5_begins 36 = .ok (.iconst 0, 1) := by decide +kernel
theorem dX5_begins_37 : decode cX5_begins 37 = .ok (.ireturn, 1) := by decide +kernel
theorem dX5_isWhole_0 : decode cX5_isWhole 0 = .ok (.aload_n 0, 1) := by decide +kernel
theorem dX5_isWhole_1 : decode cX5_isWhole 1 = .ok (.bipush 48, 2) := by decide +kernel
theorem dX5_isWhole_3 : decode cX5_isWhole 3 = .ok (.bipush 57, 2) := by decide +kernel
theorem dX5_isWhole_5 : decode cX5_isWhole 5 = .ok (.invokevirtual 131, 3) := by decide +kernel
theorem dX5_isWhole_8 : decode cX5_isWhole 8 = .ok (.ifCond .eq 23, 3) := by decide +kernel
theorem dX5_isWhole_11 : decode cX5_isWhole 11 = .ok (.aload_n 0, 1) := by decide +kernel
theorem dX5_isWhole_12 : decode cX5_isWhole 12 = .ok (.getfield 19, 3) := by decide +kernel
theorem dX5_isWhole_15 : decode cX5_isWhole 15 = .ok (.aload_n 0, 1) := by decide +kernel
theorem dX5_isWhole_16 : decode cX5_isWhole 16 = .ok (.getfield 124, 3) := by decide +kernel
theorem dX5_isWhole_19 : decode cX5_isWhole 19 = .ok (.iaload, 1) := by decide +kernel
theorem dX5_isWhole_20 : decode cX5_isWhole 20 = .ok (.bipush 48, 2) := by decide +kernel
theorem dX5_isWhole_22 : decode cX5_isWhole 22 = .ok (.isub, 1) := by decide +kernel
theorem dX5_isWhole_23 : decode cX5_isWhole 23 = .ok (.iload_n 1, 1) := by decide +kernel
theorem dX5_isWhole_24 : decode cX5_isWhole 24 = .ok (.iload_n 2, 1) := by decide +kernel
theorem dX5_isWhole_25 : decode cX5_isWhole 25 = .ok (.invokestatic 138, 3) := by decide +kernel
theorem dX5_isWhole_28 : decode cX5_isWhole 28 = .ok (.ifCond .ne 8, 3) := by decide +kernel
theorem dX5_isWhole_31 : decode cX5_isWhole 31 = .ok (.aload_n 0, 1) := by decide +kernel
theorem dX5_isWhole_32 : decode cX5_isWhole 32 = .ok (.invokevirtual 134, 3) := by decide +kernel
theorem dX5_isWhole_35 : decode cX5_isWhole 35 = .ok (.ireturn, 1) := by decide +kernel
theorem dX5_isWhole_36 : decode cX5_isWhole 36 = .ok (.aload_n 0, 1) := by decide +kernel
theorem dX5_isWhole_37 : decode cX5_isWhole 37 = .ok (.aload_n 0, 1) := by decide +kernel
theorem dX5_isWhole_38 : decode cX5_isWhole 38 = .ok (.getfield 19, 3) := by decide +kernel
theorem dX5_isWhole_41 : decode cX5_isWhole 41 = .ok (.aload_n 0, 1) := by decide +kernel
theorem dX5_isWhole_42 : decode cX5_isWhole 42 = .ok (.getfield 124, 3) := by decide +kernel
theorem dX5_isWhole_45 : decode cX5_isWhole 45 = .ok (.iaload, 1) := by decide +kernel
theorem dX5_isWhole_46 : decode cX5_isWhole 46 = .ok (.bipush 48, 2) := by decide +kernel
theorem dX5_isWhole_48 : decode cX5_isWhole 48 = .ok (.isub, 1) := by decide +kernel
theorem dX5_isWhole_49 : decode cX5_isWhole 49 = .ok (.putfield 141, 3) := by decide +kernel
theorem dX5_isWhole_52 : decode cX5_isWhole 52 = .ok (.aload_n 0, 1) := by decide +kernel
theorem dX5_isWhole_53 : decode cX5_isWhole 53 = .ok (.dup, 1) := by decide +kernel
theorem dX5_isWhole_54 : decode cX5_isWhole 54 = .ok (.getfield 124, 3) := by decide +kernel
theorem dX5_isWhole_57 : decode cX5_isWhole 57 = .ok (.iconst 1, 1) := by decide +kernel
theorem dX5_isWhole_58 : decode cX5_isWhole 58 = .ok (.iadd, 1) := by decide +kernel
theorem dX5_isWhole_59 : decode cX5_isWhole 59 = .ok (.putfield 124, 3) := by decide +kernel
theorem dX5_isWhole_62 : decode cX5_isWhole 62 = .ok (.aload_n 0, 1) := by decide +kernel
theorem dX5_isWhole_63 : decode cX5_isWhole 63 = .ok (.getfield 141, 3) := by decide +kernel
theorem dX5_isWhole_66 : decode cX5_isWhole 66 = .ok (.ifCond .le 78, 3) := by decide +kernel
theorem dX5_isWhole_69 : decode cX5_isWhole 69 = .ok (.aload_n 0, 1) := by decide +kernel
theorem dX5_isWhole_70 : decode cX5_isWhole 70 = .ok (.bipush 48, 2) := by decide +kernel
theorem dX5_isWhole_72 : decode cX5_isWhole 72 = .ok (.bipush 57, 2) := by decide +kernel
theorem dX5_isWhole_74 : decode cX5_isWhole 74 = .ok (.invokevirtual 131, 3) := by decide +kernel
theorem dX5_isWhole_77 : decode cX5_isWhole 77 = .ok (.ifCond .eq 67, 3) := by decide +kernel
theorem dX5_isWhole_80 : decode cX5_isWhole 80 = .ok (.bipush 10, 2) := by decide +kernel
theorem dX5_isWhole_82 : decode cX5_isWhole 82 = .ok (.aload_n 0, 1) := by decide +kernel
theorem dX5_isWhole_83 : decode cX5_isWhole 83 = .ok (.getfield 141, 3) := by decide +kernel
theorem dX5_isWhole_86 : decode cX5_isWhole 86 = .ok (.imul, 1) := by decide +kernel
theorem dX5_isWhole_87 : decode cX5_isWhole 87 = .ok (.aload_n 0, 1) := by decide +kernel
theorem dX5_isWhole_88 : decode cX5_isWhole 88 = .ok (.getfield 19, 3) := by decide +kernel
theorem dX5_isWhole_91 : decode cX5_isWhole 91 = .ok (.aload_n 0, 1) := by decide +kernel
theorem dX5_isWhole_92 : decode cX5_isWhole 92 = .ok (.getfield 124, 3) := by decide +kernel
theorem dX5_isWhole_95 : decode cX5_isWhole 95 = .ok (.iaload, 1) := by decide +kernel
theorem dX5_isWhole_96 : decode cX5_isWhole 96 = .ok (.iadd, 1) := by decide +kernel
theorem dX5_isWhole_97 : decode cX5_isWhole 97 = .ok (.bipush 48, 2) := by decide +kernel
theorem dX5_isWhole_99 : decode cX5_isWhole 99 = .ok (.isub, 1) := by decide +kernel
theorem dX5_isWhole_100 : decode cX5_isWhole 100 = .ok (.iload_n 1, 1) := by decide +kernel
theorem dX5_isWhole_101 : decode cX5_isWhole 101 = .ok (.iload_n 2, 1) := by decide +kernel
theorem dX5_isWhole_102 : decode cX5_isWhole 102 = .ok (.invokestatic 29, 3) := by decide +kernel
theorem dX5_isWhole_105 : decode cX5_isWhole 105 = .ok (.ifCond .eq 39, 3) := by decide +kernel
theorem dX5_isWhole_108 : decode cX5_isWhole 108 = .ok (.aload_n 0, 1) := by decide +kernel
theorem dX5_isWhole_109 : decode cX5_isWhole 109 = .ok (.bipush 10, 2) := by decide +kernel
theorem dX5_isWhole_111 : decode cX5_isWhole 111 = .ok (.aload_n 0, 1) := by decide +kernel
theorem dX5_isWhole_112 : decode cX5_isWhole 112 = .ok (.getfield 141, 3) := by decide +kernel
theorem dX5_isWhole_115 : decode cX5_isWhole 115 = .ok (.imul, 1) := by decide +kernel
theorem dX5_isWhole_116 : decode cX5_isWhole 116 = .ok (.aload_n 0, 1) := by decide +kernel
theorem dX5_isWhole_117 : decode cX5_isWhole 117 = .ok (.getfield 19, 3) := by decide +kernel
theorem dX5_isWhole_120 : decode cX5_isWhole 120 = .ok (.aload_n 0, 1) := by decide +kernel
theorem dX5_isWhole_121 : decode cX5_isWhole 121 = .ok (.getfield 124, 3) := by decide +kernel
theorem dX5_isWhole_124 : decode cX5_isWhole 124 = .ok (.iaload, 1) := by decide +kernel
theorem dX5_isWhole_125 : decode cX5_isWhole 125 = .ok (.iadd, 1) := by decide +kernel
theorem dX5_isWhole_126 : decode cX5_isWhole 126 = .ok (.bipush 48, 2) := by decide +kernel
theorem dX5_isWhole_128 : decode cX5_isWhole 128 = .ok (.isub, 1) := by decide +kernel
theorem dX5_isWhole_129 : decode cX5_isWhole 129 = .ok (.putfield 141, 3) := by decide +kernel
theorem dX5_isWhole_132 : decode cX5_isWhole 132 = .ok (.aload_n 0, 1) := by decide +kernel
theorem dX5_isWhole_133 : decode cX5_isWhole 133 = .ok (.dup, 1) := by decide +kernel
theorem dX5_isWhole_134 : decode cX5_isWhole 134 = .ok (.getfield 124, 3) := by decide +kernel
theorem dX5_isWhole_137 : decode cX5_isWhole 137 = .ok (.iconst 1, 1) := by decide +kernel
theorem dX5_isWhole_138 : decode cX5_isWhole 138 = .ok (.iadd, 1) := by decide +kernel
theorem dX5_isWhole_139 : decode cX5_isWhole 139 = .ok (.putfield 124, 3) := by decide +kernel
theorem dX5_isWhole_142 : decode cX5_isWhole 142 = .ok (.iconst 1, 1) := by decide +kernel
theorem dX5_isWhole_143 : decode cX5_isWhole 143 = .ok (.ireturn, 1) := by decide +kernel
theorem dX5_isWhole_144 : decode cX5_isWhole 144 = .ok (.aload_n 0, 1) := by decide +kernel
theorem dX5_isWhole_145 : decode cX5_isWhole 145 = .ok (.getfield 141, 3) := by decide +kernel
theorem dX5_isWhole_148 : decode cX5_isWhole 148 = .ok (.iload_n 1, 1) := by decide +kernel
theorem dX5_isWhole_149 : decode cX5_isWhole 149 = .ok (.iload_n 2, 1) := by decide +kernel
theorem dX5_isWhole_150 : decode cX5_isWhole 150 = .ok (.invokestatic 29, 3) := by decide +kernel
theorem dX5_isWhole_153 : decode cX5_isWhole 153 = .ok (.ifCond .ne 10, 3) := by decide +kernel
theorem dX5_isWhole_156 : decode cX5_isWhole 156 = .ok (.aload_n 0, 1) := by decide +kernel
theorem dX5_isWhole_157 : decode cX5_isWhole 157 = .ok (.invokevirtual 134, 3) := by decide +kernel
theorem dX5_isWhole_160 : decode cX5_isWhole 160 = .ok (.ifCond .eq 7, 3) := by decide +kernel
theorem dX5_isWhole_163 : decode cX5_isWhole 163 = .ok (.iconst 1, 1) := by decide +kernel
theorem dX5_isWhole_164 : decode cX5_isWhole 164 = .ok (.goto 4, 3) := by decide +kernel
theorem dX5_isWhole_167 : decode cX5_isWhole 167 = .ok (.iconst 0, 1) := by decide +kernel
theorem dX5_isWhole_168 : decode cX5_isWhole 168 = .ok (.ireturn, 1) := by decide +kernel
theorem dX5_isTold_0 : decode cX5_isTold 0 = .ok (.aload_n 0, 1) := by decide +kernel
theorem dX5_isTold_1 : decode cX5_isTold 1 = .ok (.iload_n 2, 1) := by decide +kernel
theorem dX5_isTold_2 : decode cX5_isTold 2 = .ok (.iload_n 3, 1) := by decide +kernel
theorem dX5_isTold_3 : decode cX5_isTold 3 = .ok (.invokevirtual 144, 3) := by decide +kernel
theorem dX5_isTold_6 : decode cX5_isTold 6 = .ok (.istore 4, 2) := by decide +kernel
theorem dX5_isTold_8 : decode cX5_isTold 8 = .ok (.aload_n 0, 1) := by decide +kernel
theorem dX5_isTold_9 : decode cX5_isTold 9 = .ok (.getfield 22, 3) := by decide +kernel
theorem dX5_isTold_12 : decode cX5_isTold 12 = .ok (.iconst 4, 1) := by decide +kernel
theorem dX5_isTold_13 : decode cX5_isTold 13 = .ok (.aload_n 0, 1) := by decide +kernel
theorem dX5_isTold_14 : decode cX5_isTold 14 = .ok (.getfield 147, 3) := by decide +kernel
theorem dX5_isTold_17 : decode cX5_isTold 17 = .ok (.imul, 1) := by decide +kernel
theorem dX5_isTold_18 : decode cX5_isTold 18 = .ok (.iload_n 1, 1) := by decide +kernel
theorem dX5_isTold_19 : decode cX5_isTold 19 = .ok (.iadd, 1) := by decide +kernel
theorem dX5_isTold_20 : decode cX5_isTold 20 = .ok (.aload_n 0, 1) := by decide +kernel
theorem dX5_isTold_21 : decode cX5_isTold 21 = .ok (.getfield 141, 3) := by decide +kernel
theorem dX5_isTold_24 : decode cX5_isTold 24 = .ok (.iastore, 1) := by decide +kernel
theorem dX5_isTold_25 : decode cX5_isTold 25 = .ok (.iload 4, 2) := by decide +kernel
theorem dX5_isTold_27 : decode cX5_isTold 27 = .ok (.ireturn, 1) := by decide +kernel
theorem dX5_isOrder_0 : decode cX5_isOrder 0 = .ok (.aload_n 0, 1) := by decide +kernel
theorem dX5_isOrder_1 : decode cX5_isOrder 1 = .ok (.bipush 116, 2) := by decide +kernel
theorem dX5_isOrder_3 : decode cX5_isOrder 3 = .ok (.bipush 116, 2) := by decide +kernel
theorem dX5_isOrder_5 : decode cX5_isOrder 5 = .ok (.invokevirtual 131, 3) := by decide +kernel
theorem dX5_isOrder_8 : decode cX5_isOrder 8 = .ok (.ifCond .ne 41, 3) := by decide +kernel
theorem dX5_isOrder_11 : decode cX5_isOrder 11 = .ok (.aload_n 0, 1) := by decide +kernel
theorem dX5_isOrder_12 : decode cX5_isOrder 12 = .ok (.bipush 119, 2) := by decide +kernel
theorem dX5_isOrder_14 : decode cX5_isOrder 14 = .ok (.bipush 119, 2) := by decide +kernel
theorem dX5_isOrder_16 : decode cX5_isOrder 16 = .ok (.invokevirtual 131, 3) := by decide +kernel
theorem dX5_isOrder_19 : decode cX5_isOrder 19 = .ok (.ifCond .ne 30, 3) := by decide +kernel
theorem dX5_isOrder_22 : decode cX5_isOrder 22 = .ok (.aload_n 0, 1) := by decide +kernel
theorem dX5_isOrder_23 : decode cX5_isOrder 23 = .ok (.bipush 103, 2) := by decide +kernel
theorem dX5_isOrder_25 : decode cX5_isOrder 25 = .ok (.bipush 103, 2) := by decide +kernel
theorem dX5_isOrder_27 : decode cX5_isOrder 27 = .ok (.invokevirtual 131, 3) := by decide +kernel
theorem dX5_isOrder_30 : decode cX5_isOrder 30 = .ok (.ifCond .ne 19, 3) := by decide +kernel
theorem dX5_isOrder_33 : decode cX5_isOrder 33 = .ok (.aload_n 0, 1) := by decide +kernel
theorem dX5_isOrder_34 : decode cX5_isOrder 34 = .ok (.bipush 100, 2) := by decide +kernel
theorem dX5_isOrder_36 : decode cX5_isOrder 36 = .ok (.bipush 100, 2) := by decide +kernel
theorem dX5_isOrder_38 : decode cX5_isOrder 38 = .ok (.invokevirtual 131, 3) := by decide +kernel
theorem dX5_isOrder_41 : decode cX5_isOrder 41 = .ok (.ifCond .ne 8, 3) := by decide +kernel
theorem dX5_isOrder_44 : decode cX5_isOrder 44 = .ok (.aload_n 0, 1) := by decide +kernel
theorem dX5_isOrder_45 : decode cX5_isOrder 45 = .ok (.invokevirtual 134, 3) := by decide +kernel
theorem dX5_isOrder_48 : decode cX5_isOrder 48 = .ok (.ireturn, 1) := by decide +kernel
theorem dX5_isOrder_49 : decode cX5_isOrder 49 = .ok (.aload_n 0, 1) := by decide +kernel
theorem dX5_isOrder_50 : decode cX5_isOrder 50 = .ok (.getfield 19, 3) := by decide +kernel
theorem dX5_isOrder_53 : decode cX5_isOrder 53 = .ok (.aload_n 0, 1) := by decide +kernel
theorem dX5_isOrder_54 : decode cX5_isOrder 54 = .ok (.getfield 124, 3) := by decide +kernel
theorem dX5_isOrder_57 : decode cX5_isOrder 57 = .ok (.iaload, 1) := by decide +kernel
theorem dX5_isOrder_58 : decode cX5_isOrder 58 = .ok (.istore_n 1, 1) := by decide +kernel
theorem dX5_isOrder_59 : decode cX5_isOrder 59 = .ok (.aload_n 0, 1) := by decide +kernel
theorem dX5_isOrder_60 : decode cX5_isOrder 60 = .ok (.getfield 22, 3) := by decide +kernel
theorem dX5_isOrder_63 : decode cX5_isOrder 63 = .ok (.iconst 4, 1) := by decide +kernel
theorem dX5_isOrder_64 : decode cX5_isOrder 64 = .ok (.aload_n 0, 1) := by decide +kernel
theorem dX5_isOrder_65 : decode cX5_isOrder 65 = .ok (.getfield 147, 3) := by decide +kernel
theorem dX5_isOrder_68 : decode cX5_isOrder 68 = .ok (.imul, 1) := by decide +kernel
theorem dX5_isOrder_69 : decode cX5_isOrder 69 = .ok (.iload_n 1, 1) := by decide +kernel
theorem dX5_isOrder_70 : decode cX5_isOrder 70 = .ok (.iastore, 1) := by decide +kernel
theorem dX5_isOrder_71 : decode cX5_isOrder 71 = .ok (.aload_n 0, 1) := by decide +kernel
theorem dX5_isOrder_72 : decode cX5_isOrder 72 = .ok (.dup, 1) := by decide +kernel
theorem dX5_isOrder_73 : decode cX5_isOrder 73 = .ok (.getfield 124, 3) := by decide +kernel
theorem dX5_isOrder_76 : decode cX5_isOrder 76 = .ok (.iconst 1, 1) := by decide +kernel
theorem dX5_isOrder_77 : decode cX5_isOrder 77 = .ok (.iadd, 1) := by decide +kernel
theorem dX5_isOrder_78 : decode cX5_isOrder 78 = .ok (.putfield 124, 3) := by decide +kernel
theorem dX5_isOrder_81 : decode cX5_isOrder 81 = .ok (.iload_n 1, 1) := by decide +kernel
theorem dX5_isOrder_82 : decode cX5_isOrder 82 = .ok (.bipush 100, 2) := by decide +kernel
theorem dX5_isOrder_84 : decode cX5_isOrder 84 = .ok (.if_icmp .ne 12, 3) := by decide +kernel
theorem dX5_isOrder_87 : decode cX5_isOrder 87 = .ok (.aload_n 0, 1) := by decide +kernel
theorem dX5_isOrder_88 : decode cX5_isOrder 88 = .ok (.iconst 1, 1) := by decide +kernel
theorem dX5_isOrder_89 : decode cX5_isOrder 89 = .ok (.iconst 1, 1) := by decide +kernel
theorem dX5_isOrder_90 : decode cX5_isOrder 90 = .ok (.bipush 99, 2) := by decide +kernel
theorem dX5_isOrder_92 : decode cX5_isOrder 92 = .ok (.invokevirtual 150, 3) := by decide +kernel
theorem dX5_isOrder_95 : decode cX5_isOrder 95 = .ok (.ireturn, 1) := by decide +kernel
theorem dX5_isOrder_96 : decode cX5_isOrder 96 = .ok (.aload_n 0, 1) := by decide +kernel
theorem dX5_isOrder_97 : decode cX5_isOrder 97 = .ok (.iconst 1, 1) := by decide +kernel
theorem dX5_isOrder_98 : decode cX5_isOrder 98 = .ok (.iconst 0, 1) := by decide +kernel
theorem dX5_isOrder_99 : decode cX5_isOrder 99 = .ok (.bipush 7, 2) := by decide +kernel
theorem dX5_isOrder_101 : decode cX5_isOrder 101 = .ok (.invokevirtual 150, 3) := by decide +kernel
theorem dX5_isOrder_104 : decode cX5_isOrder 104 = .ok (.ifCond .ne 5, 3) := by decide +kernel
theorem dX5_isOrder_107 : decode cX5_isOrder 107 = .ok (.iconst 0, 1) := by decide +kernel
theorem dX5_isOrder_108 : decode cX5_isOrder 108 = .ok (.ireturn, 1) := by decide +kernel
theorem dX5_isOrder_109 : decode cX5_isOrder 109 = .ok (.iload_n 1, 1) := by decide +kernel
theorem dX5_isOrder_110 : decode cX5_isOrder 110 = .ok (.bipush 116, 2) := by decide +kernel
theorem dX5_isOrder_112 : decode cX5_isOrder 112 = .ok (.if_icmp .ne 29, 3) := by decide +kernel
theorem dX5_isOrder_115 : decode cX5_isOrder 115 = .ok (.aload_n 0, 1) := by decide +kernel
theorem dX5_isOrder_116 : decode cX5_isOrder 116 = .ok (.bipush 42, 2) := by decide +kernel
theorem dX5_isOrder_118 : decode cX5_isOrder 118 = .ok (.invokevirtual 153, 3) := by decide +kernel
theorem dX5_isOrder_121 : decode cX5_isOrder 121 = .ok (.ifCond .eq 18, 3) := by decide +kernel
theorem dX5_isOrder_124 : decode cX5_isOrder 124 = .ok (.aload_n 0, 1) := by decide +kernel
theorem dX5_isOrder_125 : decode cX5_isOrder 125 = .ok (.iconst 2, 1) := by decide +kernel
theorem dX5_isOrder_126 : decode cX5_isOrder 126 = .ok (.iconst 1, 1) := by decide +kernel
theorem dX5_isOrder_127 : decode cX5_isOrder 127 = .ok (.bipush 99, 2) := by decide +kernel
theorem dX5_isOrder_129 : decode cX5_isOrder 129 = .ok (.invokevirtual 150, 3) := by decide +kernel
theorem dX5_isOrder_132 : decode cX5_isOrder 132 = .ok (.ifCond .eq 7, 3) := by decide +kernel
theorem dX5_isOrder_135 : decode cX5_isOrder 135 = .ok (.iconst 1, 1) := by decide +kernel
theorem dX5_isOrder_136 : decode cX5_isOrder 136 = .ok (.goto 4, 3) := by decide +kernel
theorem dX5_isOrder_139 : decode cX5_isOrder 139 = .ok (.iconst 0, 1) := by decide +kernel
theorem dX5_isOrder_140 : decode cX5_isOrder 140 = .ok (.ireturn, 1) := by decide +kernel
theorem dX5_isOrder_141 : decode cX5_isOrder 141 = .ok (.iload_n 1, 1) := by decide +kernel
theorem dX5_isOrder_142 : decode cX5_isOrder 142 = .ok (.bipush 119, 2) := by decide +kernel
theorem dX5_isOrder_144 : decode cX5_isOrder 144 = .ok (.if_icmp .ne 49, 3) := by decide +kernel
theorem dX5_isOrder_147 : decode cX5_isOrder 147 = .ok (.aload_n 0, 1) := by decide +kernel
theorem dX5_isOrder_148 : decode cX5_isOrder 148 = .ok (.bipush 64, 2) := by decide +kernel
theorem dX5_isOrder_150 : decode cX5_isOrder 150 = .ok (.invokevirtual 153, 3) := by decide +kernel
theorem dX5_isOrder_153 : decode cX5_isOrder 153 = .ok (.ifCond .eq 38, 3) := by decide +kernel
theorem dX5_isOrder_156 : decode cX5_isOrder 156 = .ok (.aload_n 0, 1) := by decide +kernel
theorem dX5_isOrder_157 : decode cX5_isOrder 157 = .ok (.iconst 2, 1) := by decide +kernel
theorem dX5_isOrder_158 : decode cX5_isOrder 158 = .ok (.iconst 0, 1) := by decide +kernel
theorem dX5_isOrder_159 : decode cX5_isOrder 159 = .ok (.bipush 63, 2) := by decide +kernel
theorem dX5_isOrder_161 : decode cX5_isOrder 161 = .ok (.invokevirtual 150, 3) := by decide +kernel
theorem dX5_isOrder_164 : decode cX5_isOrder 164 = .ok (.ifCond .eq 27, 3) := by decide +kernel
theorem dX5_isOrder_167 : decode cX5_isOrder 167 = .ok (.aload_n 0, 1) := by decide +kernel
theorem dX5_isOrder_168 : decode cX5_isOrder 168 = .ok (.bipush 42, 2) := by decide +kernel
theorem dX5_isOrder_170 : decode cX5_isOrder 170 = .ok (.invokevirtual 153, 3) := by decide +kernel
theorem dX5_isOrder_173 : decode cX5_isOrder 173 = .ok (.ifCond .eq 18, 3) := by decide +kernel
theorem dX5_isOrder_176 : decode cX5_isOrder 176 = .ok (.aload_n 0, 1) := by decide +kernel
theorem dX5_isOrder_177 : decode cX5_isOrder 177 = .ok (.iconst 3, 1) := by decide +kernel
theorem dX5_isOrder_178 : decode cX5_isOrder 178 = .ok (.iconst 1, 1) := by decide +kernel
theorem dX5_isOrder_179 : decode cX5_isOrder 179 = .ok (.bipush 99, 2) := by decide +kernel
theorem dX5_isOrder_181 : decode cX5_isOrder 181 = .ok (.invokevirtual 150, 3) := by decide +kernel
theorem dX5_isOrder_184 : decode cX5_isOrder 184 = .ok (.ifCond .eq 7, 3) := by decide +kernel
theorem dX5_isOrder_187 : decode cX5_isOrder 187 = .ok (.iconst 1, 1) := by decide +kernel
theorem dX5_isOrder_188 : decode cX5_isOrder 188 = .ok (.goto 4, 3) := by decide +kernel
theorem dX5_isOrder_191 : decode cX5_isOrder 191 = .ok (.iconst 0, 1) := by decide +kernel
theorem dX5_isOrder_192 : decode cX5_isOrder 192 = .ok (.ireturn, 1) := by decide +kernel
theorem dX5_isOrder_193 : decode cX5_isOrder 193 = .ok (.aload_n 0, 1) := by decide +kernel
theorem dX5_isOrder_194 : decode cX5_isOrder 194 = .ok (.bipush 58, 2) := by decide +kernel
theorem dX5_isOrder_196 : decode cX5_isOrder 196 = .ok (.invokevirtual 153, 3) := by decide +kernel
theorem dX5_isOrder_199 : decode cX5_isOrder 199 = .ok (.ifCond .eq 50, 3) := by decide +kernel
theorem dX5_isOrder_202 : decode cX5_isOrder 202 = .ok (.aload_n 0, 1) := by decide +kernel
theorem dX5_isOrder_203 : decode cX5_isOrder 203 = .ok (.iconst 2, 1) := by decide +kernel
theorem dX5_isOrder_204 : decode cX5_isOrder 204 = .ok (.iconst 0, 1) := by decide +kernel
theorem dX5_isOrder_205 : decode cX5_isOrder 205 = .ok (.bipush 63, 2) := by decide +kernel
theorem dX5_isOrder_207 : decode cX5_isOrder 207 = .ok (.invokevirtual 150, 3) := by decide +kernel
theorem dX5_isOrder_210 : decode cX5_isOrder 210 = .ok (.ifCond .eq 39, 3) := by decide +kernel
theorem dX5_isOrder_213 : decode cX5_isOrder 213 = .ok (.aload_n 0, 1) := by decide +kernel
theorem dX5_isOrder_214 : decode cX5_isOrder 214 = .ok (.bipush 45, 2) := by decide +kernel
theorem dX5_isOrder_216 : decode cX5_isOrder 216 = .ok (.invokevirtual 153, 3) := by decide +kernel
theorem dX5_isOrder_219 : decode cX5_isOrder 219 = .ok (.ifCond .eq 30, 3) := by decide +kernel
theorem dX5_isOrder_222 : decode cX5_isOrder 222 = .ok (.aload_n 0, 1) := by decide +kernel
theorem dX5_isOrder_223 : decode cX5_isOrder 223 = .ok (.iconst 3, 1) := by decide +kernel
theorem dX5_isOrder_224 : decode cX5_isOrder 224 = .ok (.aload_n 0, 1) := by decide +kernel
theorem dX5_isOrder_225 : decode cX5_isOrder 225 = .ok (.getfield 22, 3) := by decide +kernel
theorem dX5_isOrder_228 : decode cX5_isOrder 228 = .ok (.iconst 4, 1) := by decide +kernel
theorem dX5_isOrder_229 : decode cX5_isOrder 229 = .ok (.aload_n 0, 1) := by decide +kernel
theorem dX5_isOrder_230 : decode cX5_isOrder 230 = .ok (.getfield 147, 3) := by decide +kernel
theorem dX5_isOrder_233 : decode cX5_isOrder 233 = .ok (.imul, 1) := by decide +kernel
theorem dX5_isOrder_234 : decode cX5_isOrder 234 = .ok (.iconst 2, 1) := by decide +kernel
theorem dX5_isOrder_235 : decode cX5_isOrder 235 = .ok (.iadd, 1) := by decide +kernel
theorem dX5_isOrder_236 : decode cX5_isOrder 236 = .ok (.iaload, 1) := by decide +kernel
theorem dX5_isOrder_237 : decode cX5_isOrder 237 = .ok (.bipush 63, 2) := by decide +kernel
theorem dX5_isOrder_239 : decode cX5_isOrder 239 = .ok (.invokevirtual 150, 3) := by decide +kernel
theorem dX5_isOrder_242 : decode cX5_isOrder 242 = .ok (.ifCond .eq 7, 3) := by decide +kernel
theorem dX5_isOrder_245 : decode cX5_isOrder 245 = .ok (.iconst 1, 1) := by decide +kernel
theorem dX5_isOrder_246 : decode cX5_isOrder 246 = .ok (.goto 4, 3) := by decide +kernel
theorem dX5_isOrder_249 : decode cX5_isOrder 249 = .ok (.iconst 0, 1) := by decide +kernel
theorem dX5_isOrder_250 : decode cX5_isOrder 250 = .ok (.ireturn, 1) := by decide +kernel
theorem dX5_isText_0 : decode cX5_isText 0 = .ok (.aload_n 0, 1) := by decide +kernel
theorem dX5_isText_1 : decode cX5_isText 1 = .ok (.iconst 0, 1) := by decide +kernel
theorem dX5_isText_2 : decode cX5_isText 2 = .ok (.putfield 124, 3) := by decide +kernel
theorem dX5_isText_5 : decode cX5_isText 5 = .ok (.aload_n 0, 1) := by decide +kernel
theorem dX5_isText_6 : decode cX5_isText 6 = .ok (.iconst 0, 1) := by decide +kernel
theorem dX5_isText_7 : decode cX5_isText 7 = .ok (.putfield 147, 3) := by decide +kernel
theorem dX5_isText_10 : decode cX5_isText 10 = .ok (.aload_n 0, 1) := by decide +kernel
theorem dX5_isText_11 : decode cX5_isText 11 = .ok (.iconst 0, 1) := by decide +kernel
theorem dX5_isText_12 : decode cX5_isText 12 = .ok (.putfield 127, 3) := by decide +kernel
theorem dX5_isText_15 : decode cX5_isText 15 = .ok (.iconst 1, 1) := by decide +kernel
theorem dX5_isText_16 : decode cX5_isText 16 = .ok (.istore_n 1, 1) := by decide +kernel
theorem dX5_isText_17 : decode cX5_isText 17 = .ok (.iload_n 1, 1) := by decide +kernel
theorem dX5_isText_18 : decode cX5_isText 18 = .ok (.ifCond .eq 52, 3) := by decide +kernel
theorem dX5_isText_21 : decode cX5_isText 21 = .ok (.aload_n 0, 1) := by decide +kernel
theorem dX5_isText_22 : decode cX5_isText 22 = .ok (.invokevirtual 156, 3) := by decide +kernel
theorem dX5_isText_25 : decode cX5_isText 25 = .ok (.ifCond .ne 5, 3) := by decide +kernel
theorem dX5_isText_28 : decode cX5_isText 28 = .ok (.iconst 0, 1) := by decide +kernel
theorem dX5_isText_29 : decode cX5_isText 29 = .ok (.ireturn, 1) := by decide +kernel
theorem dX5_isText_30 : decode cX5_isText 30 = .ok (.aload_n 0, 1) := by decide +kernel
theorem dX5_isText_31 : decode cX5_isText 31 = .ok (.dup, 1) := by decide +kernel
theorem dX5_isText_32 : decode cX5_isText 32 = .ok (.getfield 147, 3) := by decide +kernel
theorem dX5_isText_35 : decode cX5_isText 35 = .ok (.iconst 1, 1) := by decide +kernel
theorem dX5_isText_36 : decode cX5_isText 36 = .ok (.iadd, 1) := by decide +kernel
theorem dX5_isText_37 : decode cX5_isText 37 = .ok (.putfield 147, 3) := by decide +kernel
theorem dX5_isText_40 : decode cX5_isText 40 = .ok (.aload_n 0, 1) := by decide +kernel
theorem dX5_isText_41 : decode cX5_isText 41 = .ok (.bipush 59, 2) := by decide +kernel
theorem dX5_isText_43 : decode cX5_isText 43 = .ok (.bipush 59, 2) := by decide +kernel
theorem dX5_isText_45 : decode cX5_isText 45 = .ok (.invokevirtual 131, 3) := by decide +kernel
theorem dX5_isText_48 : decode cX5_isText 48 = .ok (.istore_n 1, 1) := by decide +kernel
theorem dX5_isText_49 : decode cX5_isText 49 = .ok (.aload_n 0, 1) := by decide +kernel
theorem dX5_isText_50 : decode cX5_isText 50 = .ok (.dup, 1) := by decide +kernel
theorem dX5_isText_51 : decode cX5_isText 51 = .ok (.getfield 124, 3) := by decide +kernel
theorem dX5_isText_54 : decode cX5_isText 54 = .ok (.iload_n 1, 1) := by decide +kernel
theorem dX5_isText_55 : decode cX5_isText 55 = .ok (.ifCond .eq 7, 3) := by decide +kernel
theorem dX5_isText_58 : decode cX5_isText 58 = .ok (.iconst 1, 1) := by decide +kernel
theorem dX5_isText_59 : decode cX5_isText 59 = .ok (.goto 4, 3) := by decide +kernel
theorem dX5_isText_62 : decode cX5_isText 62 = .ok (.iconst 0, 1) := by decide +kernel
theorem dX5_isText_63 : decode cX5_isText 63 = .ok (.iadd, 1) := by decide +kernel
theorem dX5_isText_64 : decode cX5_isText 64 = .ok (.putfield 124, 3) := by decide +kernel
theorem dX5_isText_67 : decode cX5_isText 67 = .ok (.goto (-50), 3) := by decide +kernel
theorem dX5_isText_70 : decode cX5_isText 70 = .ok (.aload_n 0, 1) := by decide +kernel
theorem dX5_isText_71 : decode cX5_isText 71 = .ok (.aload_n 0, 1) := by decide +kernel
theorem dX5_isText_72 : decode cX5_isText 72 = .ok (.getfield 124, 3) := by decide +kernel
theorem dX5_isText_75 : decode cX5_isText 75 = .ok (.aload_n 0, 1) := by decide +kernel
theorem dX5_isText_76 : decode cX5_isText 76 = .ok (.getfield 121, 3) := by decide +kernel
theorem dX5_isText_79 : decode cX5_isText 79 = .ok (.if_icmp .ge 7, 3) := by decide +kernel
theorem dX5_isText_82 : decode cX5_isText 82 = .ok (.iconst 1, 1) := by decide +kernel
theorem dX5_isText_83 : decode cX5_isText 83 = .ok (.goto 4, 3) := by decide +kernel
theorem dX5_isText_86 : decode cX5_isText 86 = .ok (.iconst 0, 1) := by decide +kernel
theorem dX5_isText_87 : decode cX5_isText 87 = .ok (.putfield 127, 3) := by decide +kernel
theorem dX5_isText_90 : decode cX5_isText 90 = .ok (.aload_n 0, 1) := by decide +kernel
theorem dX5_isText_91 : decode cX5_isText 91 = .ok (.getfield 124, 3) := by decide +kernel
theorem dX5_isText_94 : decode cX5_isText 94 = .ok (.aload_n 0, 1) := by decide +kernel
theorem dX5_isText_95 : decode cX5_isText 95 = .ok (.getfield 121, 3) := by decide +kernel
theorem dX5_isText_98 : decode cX5_isText 98 = .ok (.if_icmp .ne 7, 3) := by decide +kernel
theorem dX5_isText_101 : decode cX5_isText 101 = .ok (.iconst 1, 1) := by decide +kernel
theorem dX5_isText_102 : decode cX5_isText 102 = .ok (.goto 4, 3) := by decide +kernel
theorem dX5_isText_105 : decode cX5_isText 105 = .ok (.iconst 0, 1) := by decide +kernel
theorem dX5_isText_106 : decode cX5_isText 106 = .ok (.ireturn, 1) := by decide +kernel
theorem dX5_firstError_0 : decode cX5_firstError 0 = .ok (.aload_n 0, 1) := by decide +kernel
theorem dX5_firstError_1 : decode cX5_firstError 1 = .ok (.iconst 0, 1) := by decide +kernel
theorem dX5_firstError_2 : decode cX5_firstError 2 = .ok (.putfield 25, 3) := by decide +kernel
theorem dX5_firstError_5 : decode cX5_firstError 5 = .ok (.aload_n 0, 1) := by decide +kernel
theorem dX5_firstError_6 : decode cX5_firstError 6 = .ok (.invokevirtual 159, 3) := by decide +kernel
theorem dX5_firstError_9 : decode cX5_firstError 9 = .ok (.istore_n 1, 1) := by decide +kernel
theorem dX5_firstError_10 : decode cX5_firstError 10 = .ok (.iload_n 1, 1) := by decide +kernel
theorem dX5_firstError_11 : decode cX5_firstError 11 = .ok (.ifCond .ne 17, 3) := by decide +kernel
theorem dX5_firstError_14 : decode cX5_firstError 14 = .ok (.aload_n 0, 1) := by decide +kernel
theorem dX5_firstError_15 : decode cX5_firstError 15 = .ok (.getfield 127, 3) := by decide +kernel
theorem dX5_firstError_18 : decode cX5_firstError 18 = .ok (.ifCond .eq 10, 3) := by decide +kernel
theorem dX5_firstError_21 : decode cX5_firstError 21 = .ok (.aload_n 0, 1) := by decide +kernel
theorem dX5_firstError_22 : decode cX5_firstError 22 = .ok (.getfield 124, 3) := by decide +kernel
theorem dX5_firstError_25 : decode cX5_firstError 25 = .ok (.goto 7, 3) := by decide +kernel
theorem dX5_firstError_28 : decode cX5_firstError 28 = .ok (.aload_n 0, 1) := by decide +kernel
theorem dX5_firstError_29 : decode cX5_firstError 29 = .ok (.getfield 121, 3) := by decide +kernel
theorem dX5_firstError_32 : decode cX5_firstError 32 = .ok (.ireturn, 1) := by decide +kernel
theorem dX5_isDone_0 : decode cX5_isDone 0 = .ok (.aload_n 0, 1) := by decide +kernel
theorem dX5_isDone_1 : decode cX5_isDone 1 = .ok (.getfield 22, 3) := by decide +kernel
theorem dX5_isDone_4 : decode cX5_isDone 4 = .ok (.iconst 4, 1) := by decide +kernel
theorem dX5_isDone_5 : decode cX5_isDone 5 = .ok (.iload_n 1, 1) := by decide +kernel
theorem dX5_isDone_6 : decode cX5_isDone 6 = .ok (.imul, 1) := by decide +kernel
theorem dX5_isDone_7 : decode cX5_isDone 7 = .ok (.iaload, 1) := by decide +kernel
theorem dX5_isDone_8 : decode cX5_isDone 8 = .ok (.istore_n 2, 1) := by decide +kernel
theorem dX5_isDone_9 : decode cX5_isDone 9 = .ok (.aload_n 0, 1) := by decide +kernel
theorem dX5_isDone_10 : decode cX5_isDone 10 = .ok (.getfield 22, 3) := by decide +kernel
theorem dX5_isDone_13 : decode cX5_isDone 13 = .ok (.iconst 4, 1) := by decide +kernel
theorem dX5_isDone_14 : decode cX5_isDone 14 = .ok (.iload_n 1, 1) := by decide +kernel
theorem dX5_isDone_15 : decode cX5_isDone 15 = .ok (.imul, 1) := by decide +kernel
theorem dX5_isDone_16 : decode cX5_isDone 16 = .ok (.iconst 1, 1) := by decide +kernel
theorem dX5_isDone_17 : decode cX5_isDone 17 = .ok (.iadd, 1) := by decide +kernel
theorem dX5_isDone_18 : decode cX5_isDone 18 = .ok (.iaload, 1) := by decide +kernel
theorem dX5_isDone_19 : decode cX5_isDone 19 = .ok (.istore_n 3, 1) := by decide +kernel
theorem dX5_isDone_20 : decode cX5_isDone 20 = .ok (.aload_n 0, 1) := by decide +kernel
theorem dX5_isDone_21 : decode cX5_isDone 21 = .ok (.getfield 22, 3) := by decide +kernel
theorem dX5_isDone_24 : decode cX5_isDone 24 = .ok (.iconst 4, 1) := by decide +kernel
theorem dX5_isDone_25 : decode cX5_isDone 25 = .ok (.iload_n 1, 1) := by decide +kernel
theorem dX5_isDone_26 : decode cX5_isDone 26 = .ok (.imul, 1) := by decide +kernel
theorem dX5_isDone_27 : decode cX5_isDone 27 = .ok (.iconst 2, 1) := by decide +kernel
theorem dX5_isDone_28 : decode cX5_isDone 28 = .ok (.iadd, 1) := by decide +kernel
theorem dX5_isDone_29 : decode cX5_isDone 29 = .ok (.iaload, 1) := by decide +kernel
theorem dX5_isDone_30 : decode cX5_isDone 30 = .ok (.istore 4, 2) := by decide +kernel
theorem dX5_isDone_32 : decode cX5_isDone 32 = .ok (.aload_n 0, 1) := by decide +kernel
theorem dX5_isDone_33 : decode cX5_isDone 33 = .ok (.getfield 22, 3) := by decide +kernel
theorem dX5_isDone_36 : decode cX5_isDone 36 = .ok (.iconst 4, 1) := by decide +kernel
theorem dX5_isDone_37 : decode cX5_isDone 37 = .ok (.iload_n 1, 1) := by decide +kernel
theorem dX5_isDone_38 : decode cX5_isDone 38 = .ok (.imul, 1) := by decide +kernel
theorem dX5_isDone_39 : decode cX5_isDone 39 = .ok (.iconst 3, 1) := by decide +kernel
theorem dX5_isDone_40 : decode cX5_isDone 40 = .ok (.iadd, 1) := by decide +kernel
theorem dX5_isDone_41 : decode cX5_isDone 41 = .ok (.iaload, 1) := by decide +kernel
theorem dX5_isDone_42 : decode cX5_isDone 42 = .ok (.istore 5, 2) := by decide +kernel
theorem dX5_isDone_44 : decode cX5_isDone 44 = .ok (.iload_n 2, 1) := by decide +kernel
theorem dX5_isDone_45 : decode cX5_isDone 45 = .ok (.bipush 100, 2) := by decide +kernel
theorem dX5_isDone_47 : decode cX5_isDone 47 = .ok (.if_icmp .ne 25, 3) := by decide +kernel
theorem dX5_isDone_50 : decode cX5_isDone 50 = .ok (.aload_n 0, 1) := by decide +kernel
theorem dX5_isDone_51 : decode cX5_isDone 51 = .ok (.getfield 7, 3) := by decide +kernel
theorem dX5_isDone_54 : decode cX5_isDone 54 = .ok (.iconst 0, 1) := by decide +kernel
theorem dX5_isDone_55 : decode cX5_isDone 55 = .ok (.iaload, 1) := by decide +kernel
theorem dX5_isDone_56 : decode cX5_isDone 56 = .ok (.iload_n 3, 1) := by decide +kernel
theorem dX5_isDone_57 : decode cX5_isDone 57 = .ok (.iadd, 1) := by decide +kernel
theorem dX5_isDone_58 : decode cX5_isDone 58 = .ok (.sipush 9999, 3) := by decide +kernel
theorem dX5_isDone_61 : decode cX5_isDone 61 = .ok (.if_icmp .gt 7, 3) := by decide +kernel
theorem dX5_isDone_64 : decode cX5_isDone 64 = .ok (.iconst 1, 1) := by decide +kernel
theorem dX5_isDone_65 : decode cX5_isDone 65 = .ok (.goto 77, 3) := by decide +kernel
theorem dX5_isDone_68 : decode cX5_isDone 68 = .ok (.iconst 0, 1) := by decide +kernel
theorem dX5_isDone_69 : decode cX5_isDone 69 = .ok (.goto 73, 3) := by decide +kernel
theorem dX5_isDone_72 : decode cX5_isDone 72 = .ok (.iload_n 2, 1) := by decide +kernel
theorem dX5_isDone_73 : decode cX5_isDone 73 = .ok (.bipush 116, 2) := by decide +kernel
theorem dX5_isDone_75 : decode cX5_isDone 75 = .ok (.if_icmp .ne 11, 3) := by decide +kernel
theorem dX5_isDone_78 : decode cX5_isDone 78 = .ok (.aload_n 0, 1) := by decide +kernel
theorem dX5_isDone_79 : decode cX5_isDone 79 = .ok (.iload_n 3, 1) := by decide +kernel
theorem dX5_isDone_80 : decode cX5_isDone 80 = .ok (.invokevirtual 80, 3) := by decide +kernel
theorem dX5_isDone_83 : decode cX5_isDone 83 = .ok (.goto 59, 3) := by decide +kernel
theorem dX5_isDone_86 : decode cX5_isDone 86 = .ok (.iload_n 2, 1) := by decide +kernel
theorem dX5_isDone_87 : decode cX5_isDone 87 = .ok (.bipush 119, 2) := by decide +kernel
theorem dX5_isDone_89 : decode cX5_isDone 89 = .ok (.if_icmp .ne 30, 3) := by decide +kernel
theorem dX5_isDone_92 : decode cX5_isDone 92 = .ok (.aload_n 0, 1) := by decide +kernel
theorem dX5_isDone_93 : decode cX5_isDone 93 = .ok (.iload 4, 2) := by decide +kernel
theorem dX5_isDone_95 : decode cX5_isDone 95 = .ok (.invokevirtual 97, 3) := by decide +kernel
theorem dX5_isDone_98 : decode cX5_isDone 98 = .ok (.ifCond .eq 17, 3) := by decide +kernel
theorem dX5_isDone_101 : decode cX5_isDone 101 = .ok (.aload_n 0, 1) := by decide +kernel
theorem dX5_isDone_102 : decode cX5_isDone 102 = .ok (.iload_n 3, 1) := by decide +kernel
theorem dX5_isDone_103 : decode cX5_isDone 103 = .ok (.iload 4, 2) := by decide +kernel
theorem dX5_isDone_105 : decode cX5_isDone 105 = .ok (.invokevirtual 100, 3) := by decide +kernel
theorem dX5_isDone_108 : decode cX5_isDone 108 = .ok (.ifCond .eq 7, 3) := by decide +kernel
theorem dX5_isDone_111 : decode cX5_isDone 111 = .ok (.iconst 1, 1) := by decide +kernel
theorem dX5_isDone_112 : decode cX5_isDone 112 = .ok (.goto 30, 3) := by decide +kernel
theorem dX5_isDone_115 : decode cX5_isDone 115 = .ok (.iconst 0, 1) := by decide +kernel
theorem dX5_isDone_116 : decode cX5_isDone 116 = .ok (.goto 26, 3) := by decide +kernel
theorem dX5_isDone_119 : decode cX5_isDone 119 = .ok (.aload_n 0, 1) := by decide +kernel
theorem dX5_isDone_120 : decode cX5_isDone 120 = .ok (.iload 4, 2) := by decide +kernel
theorem dX5_isDone_122 : decode cX5_isDone 122 = .ok (.invokevirtual 97, 3) := by decide +kernel
theorem dX5_isDone_125 : decode cX5_isDone 125 = .ok (.ifCond .eq 16, 3) := by decide +kernel
theorem dX5_isDone_128 : decode cX5_isDone 128 = .ok (.aload_n 0, 1) := by decide +kernel
theorem dX5_isDone_129 : decode cX5_isDone 129 = .ok (.iload 5, 2) := by decide +kernel
theorem dX5_isDone_131 : decode cX5_isDone 131 = .ok (.invokevirtual 97, 3) := by decide +kernel
theorem dX5_isDone_134 : decode cX5_isDone 134 = .ok (.ifCond .eq 7, 3) := by decide +kernel
theorem dX5_isDone_137 : decode cX5_isDone 137 = .ok (.iconst 1, 1) := by decide +kernel
theorem dX5_isDone_138 : decode cX5_isDone 138 = .ok (.goto 4, 3) := by decide +kernel
theorem dX5_isDone_141 : decode cX5_isDone 141 = .ok (.iconst 0, 1) := by decide +kernel
theorem dX5_isDone_142 : decode cX5_isDone 142 = .ok (.istore 6, 2) := by decide +kernel
theorem dX5_isDone_144 : decode cX5_isDone 144 = .ok (.iload 6, 2) := by decide +kernel
theorem dX5_isDone_146 : decode cX5_isDone 146 = .ok (.ifCond .eq 15, 3) := by decide +kernel
theorem dX5_isDone_149 : decode cX5_isDone 149 = .ok (.iload_n 2, 1) := by decide +kernel
theorem dX5_isDone_150 : decode cX5_isDone 150 = .ok (.bipush 100, 2) := by decide +kernel
theorem dX5_isDone_152 : decode cX5_isDone 152 = .ok (.if_icmp .ne 9, 3) := by decide +kernel
theorem dX5_isDone_155 : decode cX5_isDone 155 = .ok (.aload_n 0, 1) := by decide +kernel
theorem dX5_isDone_156 : decode cX5_isDone 156 = .ok (.iload_n 3, 1) := by decide +kernel
theorem dX5_isDone_157 : decode cX5_isDone 157 = .ok (.invokevirtual 115, 3) := by decide +kernel
theorem dX5_isDone_160 : decode cX5_isDone 160 = .ok (.pop, 1) := by decide +kernel
theorem dX5_isDone_161 : decode cX5_isDone 161 = .ok (.iload 6, 2) := by decide +kernel
theorem dX5_isDone_163 : decode cX5_isDone 163 = .ok (.ifCond .eq 17, 3) := by decide +kernel
theorem dX5_isDone_166 : decode cX5_isDone 166 = .ok (.iload_n 2, 1) := by decide +kernel
theorem dX5_isDone_167 : decode cX5_isDone 167 = .ok (.bipush 116, 2) := by decide +kernel
theorem dX5_isDone_169 : decode cX5_isDone 169 = .ok (.if_icmp .ne 11, 3) := by decide +kernel
theorem dX5_isDone_172 : decode cX5_isDone 172 = .ok (.aload_n 0, 1) := by decide +kernel
theorem dX5_isDone_173 : decode cX5_isDone 173 = .ok (.iload_n 3, 1) := by decide +kernel
theorem dX5_isDone_174 : decode cX5_isDone 174 = .ok (.iload 4, 2) := by decide +kernel
theorem dX5_isDone_176 : decode cX5_isDone 176 = .ok (.invokevirtual 86, 3) := by decide +kernel
theorem dX5_isDone_179 : decode cX5_isDone 179 = .ok (.pop, 1) := by decide +kernel
theorem dX5_isDone_180 : decode cX5_isDone 180 = .ok (.iload 6, 2) := by decide +kernel
theorem dX5_isDone_182 : decode cX5_isDone 182 = .ok (.ifCond .eq 19, 3) := by decide +kernel
theorem dX5_isDone_185 : decode cX5_isDone 185 = .ok (.iload_n 2, 1) := by decide +kernel
theorem dX5_isDone_186 : decode cX5_isDone 186 = .ok (.bipush 119, 2) := by decide +kernel
theorem dX5_isDone_188 : decode cX5_isDone 188 = .ok (.if_icmp .ne 13, 3) := by decide +kernel
theorem dX5_isDone_191 : decode cX5_isDone 191 = .ok (.aload_n 0, 1) := by decide +kernel
theorem dX5_isDone_192 : decode cX5_isDone 192 = .ok (.iload_n 3, 1) := by decide +kernel
theorem dX5_isDone_193 : decode cX5_isDone 193 = .ok (.iload 4, 2) := by decide +kernel
theorem dX5_isDone_195 : decode cX5_isDone 195 = .ok (.iload 5, 2) := by decide +kernel
theorem dX5_isDone_197 : decode cX5_isDone 197 = .ok (.invokevirtual 104, 3) := by decide +kernel
theorem dX5_isDone_200 : decode cX5_isDone 200 = .ok (.pop, 1) := by decide +kernel
theorem dX5_isDone_201 : decode cX5_isDone 201 = .ok (.iload 6, 2) := by decide +kernel
theorem dX5_isDone_203 : decode cX5_isDone 203 = .ok (.ifCond .eq 19, 3) := by decide +kernel
theorem dX5_isDone_206 : decode cX5_isDone 206 = .ok (.iload_n 2, 1) := by decide +kernel
theorem dX5_isDone_207 : decode cX5_isDone 207 = .ok (.bipush 103, 2) := by decide +kernel
theorem dX5_isDone_209 : decode cX5_isDone 209 = .ok (.if_icmp .ne 13, 3) := by decide +kernel
theorem dX5_isDone_212 : decode cX5_isDone 212 = .ok (.aload_n 0, 1) := by decide +kernel
theorem dX5_isDone_213 : decode cX5_isDone 213 = .ok (.iload_n 3, 1) := by decide +kernel
theorem dX5_isDone_214 : decode cX5_isDone 214 = .ok (.iload 4, 2) := by decide +kernel
theorem dX5_isDone_216 : decode cX5_isDone 216 = .ok (.iload 5, 2) := by decide +kernel
theorem dX5_isDone_218 : decode cX5_isDone 218 = .ok (.invokevirtual 108, 3) := by decide +kernel
theorem dX5_isDone_221 : decode cX5_isDone 221 = .ok (.pop, 1) := by decide +kernel
theorem dX5_isDone_222 : decode cX5_isDone 222 = .ok (.iload 6, 2) := by decide +kernel
theorem dX5_isDone_224 : decode cX5_isDone 224 = .ok (.ireturn, 1) := by decide +kernel
theorem dX5_run_0 : decode cX5_run 0 = .ok (.aload_n 0, 1) := by decide +kernel
theorem dX5_run_1 : decode cX5_run 1 = .ok (.iconst 0, 1) := by decide +kernel
theorem dX5_run_2 : decode cX5_run 2 = .ok (.putfield 25, 3) := by decide +kernel
theorem dX5_run_5 : decode cX5_run 5 = .ok (.aload_n 0, 1) := by decide +kernel
theorem dX5_run_6 : decode cX5_run 6 = .ok (.invokevirtual 159, 3) := by decide +kernel
theorem dX5_run_9 : decode cX5_run 9 = .ok (.ifCond .ne 9, 3) := by decide +kernel
theorem dX5_run_12 : decode cX5_run 12 = .ok (.aload_n 0, 1) := by decide +kernel
theorem dX5_run_13 : decode cX5_run 13 = .ok (.iconst 1, 1) := by decide +kernel
theorem dX5_run_14 : decode cX5_run 14 = .ok (.invokevirtual 36, 3) := by decide +kernel
theorem dX5_run_17 : decode cX5_run 17 = .ok (.ireturn, 1) := by decide +kernel
theorem dX5_run_18 : decode cX5_run 18 = .ok (.aload_n 0, 1) := by decide +kernel
theorem dX5_run_19 : decode cX5_run 19 = .ok (.invokevirtual 83, 3) := by decide +kernel
theorem dX5_run_22 : decode cX5_run 22 = .ok (.aload_n 0, 1) := by decide +kernel
theorem dX5_run_23 : decode cX5_run 23 = .ok (.iconst 0, 1) := by decide +kernel
theorem dX5_run_24 : decode cX5_run 24 = .ok (.putfield 121, 3) := by decide +kernel
theorem dX5_run_27 : decode cX5_run 27 = .ok (.iconst 0, 1) := by decide +kernel
theorem dX5_run_28 : decode cX5_run 28 = .ok (.istore_n 1, 1) := by decide +kernel
theorem dX5_run_29 : decode cX5_run 29 = .ok (.iload_n 1, 1) := by decide +kernel
theorem dX5_run_30 : decode cX5_run 30 = .ok (.aload_n 0, 1) := by decide +kernel
theorem dX5_run_31 : decode cX5_run 31 = .ok (.getfield 147, 3) := by decide +kernel
theorem dX5_run_34 : decode cX5_run 34 = .ok (.if_icmp .ge 17, 3) := by decide +kernel
theorem dX5_run_37 : decode cX5_run 37 = .ok (.aload_n 0, 1) := by decide +kernel
theorem dX5_run_38 : decode cX5_run 38 = .ok (.iload_n 1, 1) := by decide +kernel
theorem dX5_run_39 : decode cX5_run 39 = .ok (.invokevirtual 162, 3) := by decide +kernel
theorem dX5_run_42 : decode cX5_run 42 = .ok (.ifCond .eq 9, 3) := by decide +kernel
theorem dX5_run_45 : decode cX5_run 45 = .ok (.iinc 1 1, 3) := by decide +kernel
theorem dX5_run_48 : decode cX5_run 48 = .ok (.goto (-19), 3) := by decide +kernel
theorem dX5_run_51 : decode cX5_run 51 = .ok (.iload_n 1, 1) := by decide +kernel
theorem dX5_run_52 : decode cX5_run 52 = .ok (.ireturn, 1) := by decide +kernel
theorem dX5_ofNumber_0 : decode cX5_ofNumber 0 = .ok (.iload_n 1, 1) := by decide +kernel
theorem dX5_ofNumber_1 : decode cX5_ofNumber 1 = .ok (.invokestatic 40, 3) := by decide +kernel
theorem dX5_ofNumber_4 : decode cX5_ofNumber 4 = .ok (.istore_n 3, 1) := by decide +kernel
theorem dX5_ofNumber_5 : decode cX5_ofNumber 5 = .ok (.iload_n 2, 1) := by decide +kernel
theorem dX5_ofNumber_6 : decode cX5_ofNumber 6 = .ok (.ifCond .ne 12, 3) := by decide +kernel
theorem dX5_ofNumber_9 : decode cX5_ofNumber 9 = .ok (.aload_n 0, 1) := by decide +kernel
theorem dX5_ofNumber_10 : decode cX5_ofNumber 10 = .ok (.getfield 7, 3) := by decide +kernel
theorem dX5_ofNumber_13 : decode cX5_ofNumber 13 = .ok (.iload_n 1, 1) := by decide +kernel
theorem dX5_ofNumber_14 : decode cX5_ofNumber 14 = .ok (.invokestatic 51, 3) := by decide +kernel
theorem dX5_ofNumber_17 : decode cX5_ofNumber 17 = .ok (.ireturn, 1) := by decide +kernel
theorem dX5_ofNumber_18 : decode cX5_ofNumber 18 = .ok (.iload_n 2, 1) := by decide +kernel
theorem dX5_ofNumber_19 : decode cX5_ofNumber 19 = .ok (.iconst 5, 1) := by decide +kernel
theorem dX5_ofNumber_20 : decode cX5_ofNumber 20 = .ok (.if_icmp .ge 29, 3) := by decide +kernel
theorem dX5_ofNumber_23 : decode cX5_ofNumber 23 = .ok (.aload_n 0, 1) := by decide +kernel
theorem dX5_ofNumber_24 : decode cX5_ofNumber 24 = .ok (.getfield 7, 3) := by decide +kernel
theorem dX5_ofNumber_27 : decode cX5_ofNumber 27 = .ok (.iload_n 1, 1) := by decide +kernel
theorem dX5_ofNumber_28 : decode cX5_ofNumber 28 = .ok (.invokestatic 43, 3) := by decide +kernel
theorem dX5_ofNumber_31 : decode cX5_ofNumber 31 = .ok (.ifCond .eq 7, 3) := by decide +kernel
theorem dX5_ofNumber_34 : decode cX5_ofNumber 34 = .ok (.iconst (-1), 1) := by decide +kernel
theorem dX5_ofNumber_35 : decode cX5_ofNumber 35 = .ok (.goto 13, 3) := by decide +kernel
theorem dX5_ofNumber_38 : decode cX5_ofNumber 38 = .ok (.aload_n 0, 1) := by decide +kernel
theorem dX5_ofNumber_39 : decode cX5_ofNumber 39 = .ok (.getfield 7, 3) := by decide +kernel
theorem dX5_ofNumber_42 : decode cX5_ofNumber 42 = .ok (.iload_n 3, 1) := by decide +kernel
theorem dX5_ofNumber_43 : decode cX5_ofNumber 43 = .ok (.iload_n 2, 1) := by decide +kernel
theorem dX5_ofNumber_44 : decode cX5_ofNumber 44 = .ok (.iadd, 1) := by decide +kernel
theorem dX5_ofNumber_45 : decode cX5_ofNumber 45 = .ok (.iconst 1, 1) := by decide +kernel
theorem dX5_ofNumber_46 : decode cX5_ofNumber 46 = .ok (.isub, 1) := by decide +kernel
theorem dX5_ofNumber_47 : decode cX5_ofNumber 47 = .ok (.iaload, 1) := by decide +kernel
theorem dX5_ofNumber_48 : decode cX5_ofNumber 48 = .ok (.ireturn, 1) := by decide +kernel
theorem dX5_ofNumber_49 : decode cX5_ofNumber 49 = .ok (.iload_n 2, 1) := by decide +kernel
theorem dX5_ofNumber_50 : decode cX5_ofNumber 50 = .ok (.iconst 5, 1) := by decide +kernel
theorem dX5_ofNumber_51 : decode cX5_ofNumber 51 = .ok (.if_icmp .eq 9, 3) := by decide +kernel
theorem dX5_ofNumber_54 : decode cX5_ofNumber 54 = .ok (.iload_n 2, 1) := by decide +kernel
theorem dX5_ofNumber_55 : decode cX5_ofNumber 55 = .ok (.bipush 8, 2) := by decide +kernel
theorem dX5_ofNumber_57 : decode cX5_ofNumber 57 = .ok (.if_icmp .ne 23, 3) := by decide +kernel
theorem dX5_ofNumber_60 : decode cX5_ofNumber 60 = .ok (.aload_n 0, 1) := by decide +kernel
theorem dX5_ofNumber_61 : decode cX5_ofNumber 61 = .ok (.getfield 7, 3) := by decide +kernel
theorem dX5_ofNumber_64 : decode cX5_ofNumber 64 = .ok (.iload_n 2, 1) := by decide +kernel
theorem dX5_ofNumber_65 : decode cX5_ofNumber 65 = .ok (.iconst 5, 1) := by decide +kernel
theorem dX5_ofNumber_66 : decode cX5_ofNumber 66 = .ok (.if_icmp .ne 9, 3) := by decide +kernel
theorem dX5_ofNumber_69 : decode cX5_ofNumber 69 = .ok (.iload_n 3, 1) := by decide +kernel
theorem dX5_ofNumber_70 : decode cX5_ofNumber 70 = .ok (.iconst 5, 1) := by decide +kernel
theorem dX5_ofNumber_71 : decode cX5_ofNumber 71 = .ok (.iadd, 1) := by decide +kernel
theorem dX5_ofNumber_72 : decode cX5_ofNumber 72 = .ok (.goto 6, 3) := by decide +kernel
theorem dX5_ofNumber_75 : decode cX5_ofNumber 75 = .ok (.iload_n 3, 1) := by decide +kernel
theorem dX5_ofNumber_76 : decode cX5_ofNumber 76 = .ok (.iconst 4, 1) := by decide +kernel
theorem dX5_ofNumber_77 : decode cX5_ofNumber 77 = .ok (.iadd, 1) := by decide +kernel
theorem dX5_ofNumber_78 : decode cX5_ofNumber 78 = .ok (.iaload, 1) := by decide +kernel
theorem dX5_ofNumber_79 : decode cX5_ofNumber 79 = .ok (.ireturn, 1) := by decide +kernel
theorem dX5_ofNumber_80 : decode cX5_ofNumber 80 = .ok (.aload_n 0, 1) := by decide +kernel
theorem dX5_ofNumber_81 : decode cX5_ofNumber 81 = .ok (.getfield 7, 3) := by decide +kernel
theorem dX5_ofNumber_84 : decode cX5_ofNumber 84 = .ok (.iload_n 3, 1) := by decide +kernel
theorem dX5_ofNumber_85 : decode cX5_ofNumber 85 = .ok (.iconst 5, 1) := by decide +kernel
theorem dX5_ofNumber_86 : decode cX5_ofNumber 86 = .ok (.iadd, 1) := by decide +kernel
theorem dX5_ofNumber_87 : decode cX5_ofNumber 87 = .ok (.iaload, 1) := by decide +kernel
theorem dX5_ofNumber_88 : decode cX5_ofNumber 88 = .ok (.ifCond .ne 7, 3) := by decide +kernel
theorem dX5_ofNumber_91 : decode cX5_ofNumber 91 = .ok (.iconst (-1), 1) := by decide +kernel
theorem dX5_ofNumber_92 : decode cX5_ofNumber 92 = .ok (.goto 17, 3) := by decide +kernel
theorem dX5_ofNumber_95 : decode cX5_ofNumber 95 = .ok (.aload_n 0, 1) := by decide +kernel
theorem dX5_ofNumber_96 : decode cX5_ofNumber 96 = .ok (.getfield 7, 3) := by decide +kernel
theorem dX5_ofNumber_99 : decode cX5_ofNumber 99 = .ok (.iload_n 3, 1) := by decide +kernel
theorem dX5_ofNumber_100 : decode cX5_ofNumber 100 = .ok (.bipush 6, 2) := by decide +kernel
theorem dX5_ofNumber_102 : decode cX5_ofNumber 102 = .ok (.iadd, 1) := by decide +kernel
theorem dX5_ofNumber_103 : decode cX5_ofNumber 103 = .ok (.iload_n 2, 1) := by decide +kernel
theorem dX5_ofNumber_104 : decode cX5_ofNumber 104 = .ok (.iadd, 1) := by decide +kernel
theorem dX5_ofNumber_105 : decode cX5_ofNumber 105 = .ok (.bipush 6, 2) := by decide +kernel
theorem dX5_ofNumber_107 : decode cX5_ofNumber 107 = .ok (.isub, 1) := by decide +kernel
theorem dX5_ofNumber_108 : decode cX5_ofNumber 108 = .ok (.iaload, 1) := by decide +kernel
theorem dX5_ofNumber_109 : decode cX5_ofNumber 109 = .ok (.ireturn, 1) := by decide +kernel
theorem dX5_number_0 : decode cX5_number 0 = .ok (.aload_n 0, 1) := by decide +kernel
theorem dX5_number_1 : decode cX5_number 1 = .ok (.iconst 0, 1) := by decide +kernel
theorem dX5_number_2 : decode cX5_number 2 = .ok (.putfield 25, 3) := by decide +kernel
theorem dX5_number_5 : decode cX5_number 5 = .ok (.aload_n 0, 1) := by decide +kernel
theorem dX5_number_6 : decode cX5_number 6 = .ok (.iload_n 1, 1) := by decide +kernel
theorem dX5_number_7 : decode cX5_number 7 = .ok (.invokevirtual 97, 3) := by decide +kernel
theorem dX5_number_10 : decode cX5_number 10 = .ok (.ifCond .ne 9, 3) := by decide +kernel
theorem dX5_number_13 : decode cX5_number 13 = .ok (.aload_n 0, 1) := by decide +kernel
theorem dX5_number_14 : decode cX5_number 14 = .ok (.iconst 1, 1) := by decide +kernel
theorem dX5_number_15 : decode cX5_number 15 = .ok (.invokevirtual 36, 3) := by decide +kernel
theorem dX5_number_18 : decode cX5_number 18 = .ok (.ireturn, 1) := by decide +kernel
theorem dX5_number_19 : decode cX5_number 19 = .ok (.iload_n 2, 1) := by decide +kernel
theorem dX5_number_20 : decode cX5_number 20 = .ok (.iconst 0, 1) := by decide +kernel
theorem dX5_number_21 : decode cX5_number 21 = .ok (.bipush 8, 2) := by decide +kernel
theorem dX5_number_23 : decode cX5_number 23 = .ok (.invokestatic 29, 3) := by decide +kernel
theorem dX5_number_26 : decode cX5_number 26 = .ok (.ifCond .eq 12, 3) := by decide +kernel
theorem dX5_number_29 : decode cX5_number 29 = .ok (.aload_n 0, 1) := by decide +kernel
theorem dX5_number_30 : decode cX5_number 30 = .ok (.iload_n 1, 1) := by decide +kernel
theorem dX5_number_31 : decode cX5_number 31 = .ok (.iload_n 2, 1) := by decide +kernel
theorem dX5_number_32 : decode cX5_number 32 = .ok (.invokevirtual 165, 3) := by decide +kernel
theorem dX5_number_35 : decode cX5_number 35 = .ok (.goto 8, 3) := by decide +kernel
theorem dX5_number_38 : decode cX5_number 38 = .ok (.aload_n 0, 1) := by decide +kernel
theorem dX5_number_39 : decode cX5_number 39 = .ok (.iconst 2, 1) := by decide +kernel
theorem dX5_number_40 : decode cX5_number 40 = .ok (.invokevirtual 36, 3) := by decide +kernel
theorem dX5_number_43 : decode cX5_number 43 = .ok (.ireturn, 1) := by decide +kernel
theorem dX5_ofHolder_0 : decode cX5_ofHolder 0 = .ok (.iload_n 2, 1) := by decide +kernel
theorem dX5_ofHolder_1 : decode cX5_ofHolder 1 = .ok (.iconst 4, 1) := by decide +kernel
theorem dX5_ofHolder_2 : decode cX5_ofHolder 2 = .ok (.if_icmp .le 38, 3) := by decide +kernel
theorem dX5_ofHolder_5 : decode cX5_ofHolder 5 = .ok (.aload_n 0, 1) := by decide +kernel
theorem dX5_ofHolder_6 : decode cX5_ofHolder 6 = .ok (.getfield 7, 3) := by decide +kernel
theorem dX5_ofHolder_9 : decode cX5_ofHolder 9 = .ok (.iload_n 2, 1) := by decide +kernel
theorem dX5_ofHolder_10 : decode cX5_ofHolder 10 = .ok (.iconst 5, 1) := by decide +kernel
theorem dX5_ofHolder_11 : decode cX5_ofHolder 11 = .ok (.if_icmp .ne 10, 3) := by decide +kernel
theorem dX5_ofHolder_14 : decode cX5_ofHolder 14 = .ok (.bipush 8, 2) := by decide +kernel
theorem dX5_ofHolder_16 : decode cX5_ofHolder 16 = .ok (.iload_n 1, 1) := by decide +kernel
theorem dX5_ofHolder_17 : decode cX5_ofHolder 17 = .ok (.iadd, 1) := by decide +kernel
theorem dX5_ofHolder_18 : decode cX5_ofHolder 18 = .ok (.goto 20, 3) := by decide +kernel
theorem dX5_ofHolder_21 : decode cX5_ofHolder 21 = .ok (.iload_n 2, 1) := by decide +kernel
theorem dX5_ofHolder_22 : decode cX5_ofHolder 22 = .ok (.bipush 6, 2) := by decide +kernel
theorem dX5_ofHolder_24 : decode cX5_ofHolder 24 = .ok (.if_icmp .ne 10, 3) := by decide +kernel
theorem dX5_ofHolder_27 : decode cX5_ofHolder 27 = .ok (.bipush 16, 2) := by decide +kernel
theorem dX5_ofHolder_29 : decode cX5_ofHolder 29 = .ok (.iload_n 1, 1) := by decide +kernel
theorem dX5_ofHolder_30 : decode cX5_ofHolder 30 = .ok (.iadd, 1) := by decide +kernel
theorem dX5_ofHolder_31 : decode cX5_ofHolder 31 = .ok (.goto 7, 3) := by decide +kernel
theorem dX5_ofHolder_34 : decode cX5_ofHolder 34 = .ok (.bipush 24, 2) := by decide +kernel
theorem dX5_ofHolder_36 : decode cX5_ofHolder 36 = .ok (.iload_n 1, 1) := by decide +kernel
theorem dX5_ofHolder_37 : decode cX5_ofHolder 37 = .ok (.iadd, 1) := by decide +kernel
theorem dX5_ofHolder_38 : decode cX5_ofHolder 38 = .ok (.iaload, 1) := by decide +kernel
theorem dX5_ofHolder_39 : decode cX5_ofHolder 39 = .ok (.ireturn, 1) := by decide +kernel
theorem dX5_ofHolder_40 : decode cX5_ofHolder 40 = .ok (.iconst 0, 1) := by decide +kernel
theorem dX5_ofHolder_41 : decode cX5_ofHolder 41 = .ok (.istore_n 3, 1) := by decide +kernel
theorem dX5_ofHolder_42 : decode cX5_ofHolder 42 = .ok (.iconst 0, 1) := by decide +kernel
theorem dX5_ofHolder_43 : decode cX5_ofHolder 43 = .ok (.istore 4, 2) := by decide +kernel
theorem dX5_ofHolder_45 : decode cX5_ofHolder 45 = .ok (.iconst 0, 1) := by decide +kernel
theorem dX5_ofHolder_46 : decode cX5_ofHolder 46 = .ok (.istore 5, 2) := by decide +kernel
theorem dX5_ofHolder_48 : decode cX5_ofHolder 48 = .ok (.iconst (-1), 1) := by decide +kernel
theorem dX5_ofHolder_49 : decode cX5_ofHolder 49 = .ok (.istore 6, 2) := by decide +kernel
theorem dX5_ofHolder_51 : decode cX5_ofHolder 51 = .ok (.iconst (-1), 1) := by decide +kernel
theorem dX5_ofHolder_52 : decode cX5_ofHolder 52 = .ok (.istore 7, 2) := by decide +kernel
theorem dX5_ofHolder_54 : decode cX5_ofHolder 54 = .ok (.aload_n 0, 1) := by decide +kernel
theorem dX5_ofHolder_55 : decode cX5_ofHolder 55 = .ok (.getfield 7, 3) := by decide +kernel
theorem dX5_ofHolder_58 : decode cX5_ofHolder 58 = .ok (.iconst 4, 1) := by decide +kernel
theorem dX5_ofHolder_59 : decode cX5_ofHolder 59 = .ok (.iaload, 1) := by decide +kernel
theorem dX5_ofHolder_60 : decode cX5_ofHolder 60 = .ok (.iconst 1, 1) := by decide +kernel
theorem dX5_ofHolder_61 : decode cX5_ofHolder 61 = .ok (.isub, 1) := by decide +kernel
theorem dX5_ofHolder_62 : decode cX5_ofHolder 62 = .ok (.istore 8, 2) := by decide +kernel
theorem dX5_ofHolder_64 : decode cX5_ofHolder 64 = .ok (.iload 8, 2) := by decide +kernel
theorem dX5_ofHolder_66 : decode cX5_ofHolder 66 = .ok (.ifCond .lt 172, 3) := by decide +kernel
theorem dX5_ofHolder_69 : decode cX5_ofHolder 69 = .ok (.aload_n 0, 1) := by decide +kernel
theorem dX5_ofHolder_70 : decode cX5_ofHolder 70 = .ok (.getfield 7, 3) := by decide +kernel
theorem dX5_ofHolder_73 : decode cX5_ofHolder 73 = .ok (.iload 8, 2) := by decide +kernel
theorem dX5_ofHolder_75 : decode cX5_ofHolder 75 = .ok (.invokestatic 40, 3) := by decide +kernel
theorem dX5_ofHolder_78 : decode cX5_ofHolder 78 = .ok (.iaload, 1) := by decide +kernel
theorem dX5_ofHolder_79 : decode cX5_ofHolder 79 = .ok (.iload_n 1, 1) := by decide +kernel
theorem dX5_ofHolder_80 : decode cX5_ofHolder 80 = .ok (.if_icmp .ne 7, 3) := by decide +kernel
theorem dX5_ofHolder_83 : decode cX5_ofHolder 83 = .ok (.iconst 1, 1) := by decide +kernel
theorem dX5_ofHolder_84 : decode cX5_ofHolder 84 = .ok (.goto 4, 3) := by decide +kernel
theorem dX5_ofHolder_87 : decode cX5_ofHolder 87 = .ok (.iconst 0, 1) := by decide +kernel
theorem dX5_ofHolder_88 : decode cX5_ofHolder 88 = .ok (.istore 9, 2) := by decide +kernel
theorem dX5_ofHolder_90 : decode cX5_ofHolder 90 = .ok (.aload_n 0, 1) := by decide +kernel
theorem dX5_ofHolder_91 : decode cX5_ofHolder 91 = .ok (.getfield 7, 3) := by decide +kernel
theorem dX5_ofHolder_94 : decode cX5_ofHolder 94 = .ok (.iload 8, 2) := by decide +kernel
theorem dX5_ofHolder_96 : decode cX5_ofHolder 96 = .ok (.invokestatic 51, 3) := by decide +kernel
theorem dX5_ofHolder_99 : decode cX5_ofHolder 99 = .ok (.istore 10, 2) := by decide +kernel
theorem dX5_ofHolder_101 : decode cX5_ofHolder 101 = .ok (.iload_n 3, 1) := by decide +kernel
theorem dX5_ofHolder_102 : decode cX5_ofHolder 102 = .ok (.iload 9, 2) := by decide +kernel
theorem dX5_ofHolder_104 : decode cX5_ofHolder 104 = .ok (.ifCond .eq 13, 3) := by decide +kernel
theorem dX5_ofHolder_107 : decode cX5_ofHolder 107 = .ok (.iload 10, 2) := by decide +kernel
theorem dX5_ofHolder_109 : decode cX5_ofHolder 109 = .ok (.iconst 1, 1) := by decide +kernel
theorem dX5_ofHolder_110 : decode cX5_ofHolder 110 = .ok (.if_icmp .ne 7, 3) := by decide +kernel
theorem dX5_ofHolder_113 : decode cX5_ofHolder 113 = .ok (.iconst 1, 1) := by decide +kernel
theorem dX5_ofHolder_114 : decode cX5_ofHolder 114 = .ok (.goto 4, 3) := by decide +kernel
theorem dX5_ofHolder_117 : decode cX5_ofHolder 117 = .ok (.iconst 0, 1) := by decide +kernel
theorem dX5_ofHolder_118 : decode cX5_ofHolder 118 = .ok (.iadd, 1) := by decide +kernel
theorem dX5_ofHolder_119 : decode cX5_ofHolder 119 = .ok (.istore_n 3, 1) := by decide +kernel
theorem dX5_ofHolder_120 : decode cX5_ofHolder 120 = .ok (.iload 4, 2) := by decide +kernel
theorem dX5_ofHolder_122 : decode cX5_ofHolder 122 = .ok (.iload 9, 2) := by decide +kernel
theorem dX5_ofHolder_124 : decode cX5_ofHolder 124 = .ok (.ifCond .eq 13, 3) := by decide +kernel
theorem dX5_ofHolder_127 : decode cX5_ofHolder 127 = .ok (.iload 10, 2) := by decide +kernel
theorem dX5_ofHolder_129 : decode cX5_ofHolder 129 = .ok (.iconst 2, 1) := by decide +kernel
theorem dX5_ofHolder_130 : decode cX5_ofHolder 130 = .ok (.if_icmp .ne 7, 3) := by decide +kernel
theorem dX5_ofHolder_133 : decode cX5_ofHolder 133 = .ok (.iconst 1, 1) := by decide +kernel
theorem dX5_ofHolder_134 : decode cX5_ofHolder 134 = .ok (.goto 4, 3) := by decide +kernel
theorem dX5_ofHolder_137 : decode cX5_ofHolder 137 = .ok (.iconst 0, 1) := by decide +kernel
theorem dX5_ofHolder_138 : decode cX5_ofHolder 138 = .ok (.iadd, 1) := by decide +kernel
theorem dX5_ofHolder_139 : decode cX5_ofHolder 139 = .ok (.istore 4, 2) := by decide +kernel
theorem dX5_ofHolder_141 : decode cX5_ofHolder 141 = .ok (.iload 5, 2) := by decide +kernel
theorem dX5_ofHolder_143 : decode cX5_ofHolder 143 = .ok (.aload_n 0, 1) := by decide +kernel
theorem dX5_ofHolder_144 : decode cX5_ofHolder 144 = .ok (.getfield 7, 3) := by decide +kernel
theorem dX5_ofHolder_147 : decode cX5_ofHolder 147 = .ok (.iload 8, 2) := by decide +kernel
theorem dX5_ofHolder_149 : decode cX5_ofHolder 149 = .ok (.iload_n 1, 1) := by decide +kernel
theorem dX5_ofHolder_150 : decode cX5_ofHolder 150 = .ok (.invokestatic 90, 3) := by decide +kernel
theorem dX5_ofHolder_153 : decode cX5_ofHolder 153 = .ok (.iconst (-1), 1) := by decide +kernel
theorem dX5_ofHolder_154 : decode cX5_ofHolder 154 = .ok (.if_icmp .ne 7, 3) := by decide +kernel
theorem dX5_ofHolder_157 : decode cX5_ofHolder 157 = .ok (.iconst 0, 1) := by decide +kernel
theorem dX5_ofHolder_158 : decode cX5_ofHolder 158 = .ok (.goto 4, 3) := by decide +kernel
theorem dX5_ofHolder_161 : decode cX5_ofHolder 161 = .ok (.iconst 1, 1) := by decide +kernel
theorem dX5_ofHolder_162 : decode cX5_ofHolder 162 = .ok (.iadd, 1) := by decide +kernel
theorem dX5_ofHolder_163 : decode cX5_ofHolder 163 = .ok (.istore 5, 2) := by decide +kernel
theorem dX5_ofHolder_165 : decode cX5_ofHolder 165 = .ok (.iload 9, 2) := by decide +kernel
theorem dX5_ofHolder_167 : decode cX5_ofHolder 167 = .ok (.ifCond .eq 8, 3) := by decide +kernel
theorem dX5_ofHolder_170 : decode cX5_ofHolder 170 = .ok (.iload 8, 2) := by decide +kernel
theorem dX5_ofHolder_172 : decode cX5_ofHolder 172 = .ok (.goto 5, 3) := by decide +kernel
theorem dX5_ofHolder_175 : decode cX5_ofHolder 175 = .ok (.iload 6, 2) := by decide +kernel
theorem dX5_ofHolder_177 : decode cX5_ofHolder 177 = .ok (.istore 6, 2) := by decide +kernel
theorem dX5_ofHolder_179 : decode cX5_ofHolder 179 = .ok (.iload 9, 2) := by decide +kernel
theorem dX5_ofHolder_181 : decode cX5_ofHolder 181 = .ok (.ifCond .eq 47, 3) := by decide +kernel
theorem dX5_ofHolder_184 : decode cX5_ofHolder 184 = .ok (.iload 10, 2) := by decide +kernel
theorem dX5_ofHolder_186 : decode cX5_ofHolder 186 = .ok (.iconst 1, 1) := by decide +kernel
theorem dX5_ofHolder_187 : decode cX5_ofHolder 187 = .ok (.if_icmp .ne 41, 3) := by decide +kernel
theorem dX5_ofHolder_190 : decode cX5_ofHolder 190 = .ok (.iload 7, 2) := by decide +kernel
theorem dX5_ofHolder_192 : decode cX5_ofHolder 192 = .ok (.iconst (-1), 1) := by decide +kernel
theorem dX5_ofHolder_193 : decode cX5_ofHolder 193 = .ok (.if_icmp .eq 20, 3) := by decide +kernel
theorem dX5_ofHolder_196 : decode cX5_ofHolder 196 = .ok (.aload_n 0, 1) := by decide +kernel
theorem dX5_ofHolder_197 : decode cX5_ofHolder 197 = .ok (.getfield 7, 3) := by decide +kernel
theorem dX5_ofHolder_200 : decode cX5_ofHolder 200 = .ok (.iload 8, 2) := by decide +kernel
theorem dX5_ofHolder_202 : decode cX5_ofHolder 202 = .ok (.invokestatic 40, 3) := by decide +kernel
theorem dX5_ofHolder_205 : decode cX5_ofHolder 205 = .ok (.iconst 2, 1) := by decide +kernel
theorem dX5_ofHolder_206 : decode cX5_ofHolder 206 = .ok (.iadd, 1) := by decide +kernel
theorem dX5_ofHolder_207 : decode cX5_ofHolder 207 = .ok (.iaload, 1) := by decide +kernel
theorem dX5_ofHolder_208 : decode cX5_ofHolder 208 = .ok (.iload 7, 2) := by decide +kernel
theorem dX5_ofHolder_210 : decode cX5_ofHolder 210 = .ok (.if_icmp .ge 18, 3) := by decide +kernel
theorem dX5_ofHolder_213 : decode cX5_ofHolder 213 = .ok (.aload_n 0, 1) := by decide +kernel
theorem dX5_ofHolder_214 : decode cX5_ofHolder 214 = .ok (.getfield 7, 3) := by decide +kernel
theorem dX5_ofHolder_217 : decode cX5_ofHolder 217 = .ok (.iload 8, 2) := by decide +kernel
theorem dX5_ofHolder_219 : decode cX5_ofHolder 219 = .ok (.invokestatic 40, 3) := by decide +kernel
theorem dX5_ofHolder_222 : decode cX5_ofHolder 222 = .ok (.iconst 2, 1) := by decide +kernel
theorem dX5_ofHolder_223 : decode cX5_ofHolder 223 = .ok (.iadd, 1) := by decide +kernel
theorem dX5_ofHolder_224 : decode cX5_ofHolder 224 = .ok (.iaload, 1) := by decide +kernel
theorem dX5_ofHolder_225 : decode cX5_ofHolder 225 = .ok (.goto 5, 3) := by decide +kernel
theorem dX5_ofHolder_228 : decode cX5_ofHolder 228 = .ok (.iload 7, 2) := by decide +kernel
theorem dX5_ofHolder_230 : decode cX5_ofHolder 230 = .ok (.istore 7, 2) := by decide +kernel
theorem dX5_ofHolder_232 : decode cX5_ofHolder 232 = .ok (.iinc 8 (-1), 3) := by decide +kernel
theorem dX5_ofHolder_235 : decode cX5_ofHolder 235 = .ok (.goto (-171), 3) := by decide +kernel
theorem dX5_ofHolder_238 : decode cX5_ofHolder 238 = .ok (.iload_n 2, 1) := by decide +kernel
theorem dX5_ofHolder_239 : decode cX5_ofHolder 239 = .ok (.ifCond .ne 7, 3) := by decide +kernel
theorem dX5_ofHolder_242 : decode cX5_ofHolder 242 = .ok (.iload_n 3, 1) := by decide +kernel
theorem dX5_ofHolder_243 : decode cX5_ofHolder 243 = .ok (.goto 35, 3) := by decide +kernel
theorem dX5_ofHolder_246 : decode cX5_ofHolder 246 = .ok (.iload_n 2, 1) := by decide +kernel
theorem dX5_ofHolder_247 : decode cX5_ofHolder 247 = .ok (.iconst 1, 1) := by decide +kernel
theorem dX5_ofHolder_248 : decode cX5_ofHolder 248 = .ok (.if_icmp .ne 8, 3) := by decide +kernel
theorem dX5_ofHolder_251 : decode cX5_ofHolder 251 = .ok (.iload 4, 2) := by decide +kernel
theorem dX5_ofHolder_253 : decode cX5_ofHolder 253 = .ok (.goto 25, 3) := by decide +kernel
theorem dX5_ofHolder_256 : decode cX5_ofHolder 256 = .ok (.iload_n 2, 1) := by decide +kernel
theorem dX5_ofHolder_257 : decode cX5_ofHolder 257 = .ok (.iconst 2, 1) := by decide +kernel
theorem dX5_ofHolder_258 : decode cX5_ofHolder 258 = .ok (.if_icmp .ne 8, 3) := by decide +kernel
theorem dX5_ofHolder_261 : decode cX5_ofHolder 261 = .ok (.iload 5, 2) := by decide +kernel
theorem dX5_ofHolder_263 : decode cX5_ofHolder 263 = .ok (.goto 15, 3) := by decide +kernel
theorem dX5_ofHolder_266 : decode cX5_ofHolder 266 = .ok (.iload_n 2, 1) := by decide +kernel
theorem dX5_ofHolder_267 : decode cX5_ofHolder 267 = .ok (.iconst 3, 1) := by decide +kernel
theorem dX5_ofHolder_268 : decode cX5_ofHolder 268 = .ok (.if_icmp .ne 8, 3) := by decide +kernel
theorem dX5_ofHolder_271 : decode cX5_ofHolder 271 = .ok (.iload 6, 2) := by decide +kernel
theorem dX5_ofHolder_273 : decode cX5_ofHolder 273 = .ok (.goto 5, 3) := by decide +kernel
theorem dX5_ofHolder_276 : decode cX5_ofHolder 276 = .ok (.iload 7, 2) := by decide +kernel
theorem dX5_ofHolder_278 : decode cX5_ofHolder 278 = .ok (.ireturn, 1) := by decide +kernel
theorem dX5_holder_0 : decode cX5_holder 0 = .ok (.aload_n 0, 1) := by decide +kernel
theorem dX5_holder_1 : decode cX5_holder 1 = .ok (.iconst 0, 1) := by decide +kernel
theorem dX5_holder_2 : decode cX5_holder 2 = .ok (.putfield 25, 3) := by decide +kernel
theorem dX5_holder_5 : decode cX5_holder 5 = .ok (.iload_n 1, 1) := by decide +kernel
theorem dX5_holder_6 : decode cX5_holder 6 = .ok (.invokestatic 73, 3) := by decide +kernel
theorem dX5_holder_9 : decode cX5_holder 9 = .ok (.ifCond .ne 9, 3) := by decide +kernel
theorem dX5_holder_12 : decode cX5_holder 12 = .ok (.aload_n 0, 1) := by decide +kernel
theorem dX5_holder_13 : decode cX5_holder 13 = .ok (.iconst 1, 1) := by decide +kernel
theorem dX5_holder_14 : decode cX5_holder 14 = .ok (.invokevirtual 36, 3) := by decide +kernel
theorem dX5_holder_17 : decode cX5_holder 17 = .ok (.ireturn, 1) := by decide +kernel
theorem dX5_holder_18 : decode cX5_holder 18 = .ok (.iload_n 2, 1) := by decide +kernel
theorem dX5_holder_19 : decode cX5_holder 19 = .ok (.iconst 0, 1) := by decide +kernel
theorem dX5_holder_20 : decode cX5_holder 20 = .ok (.bipush 7, 2) := by decide +kernel
theorem dX5_holder_22 : decode cX5_holder 22 = .ok (.invokestatic 29, 3) := by decide +kernel
theorem dX5_holder_25 : decode cX5_holder 25 = .ok (.ifCond .eq 12, 3) := by decide +kernel
theorem dX5_holder_28 : decode cX5_holder 28 = .ok (.aload_n 0, 1) := by decide +kernel
theorem dX5_holder_29 : decode cX5_holder 29 = .ok (.iload_n 1, 1) := by decide +kernel
theorem dX5_holder_30 : decode cX5_holder 30 = .ok (.iload_n 2, 1) := by decide +kernel
theorem dX5_holder_31 : decode cX5_holder 31 = .ok (.invokevirtual 168, 3) := by decide +kernel
theorem dX5_holder_34 : decode cX5_holder 34 = .ok (.goto 8, 3) := by decide +kernel
theorem dX5_holder_37 : decode cX5_holder 37 = .ok (.aload_n 0, 1) := by decide +kernel
theorem dX5_holder_38 : decode cX5_holder 38 = .ok (.iconst 2, 1) := by decide +kernel
theorem dX5_holder_39 : decode cX5_holder 39 = .ok (.invokevirtual 36, 3) := by decide +kernel
theorem dX5_holder_42 : decode cX5_holder 42 = .ok (.ireturn, 1) := by decide +kernel
theorem dX5_spans_0 : decode cX5_spans 0 = .ok (.iconst 0, 1) := by decide +kernel
theorem dX5_spans_1 : decode cX5_spans 1 = .ok (.istore_n 3, 1) := by decide +kernel
theorem dX5_spans_2 : decode cX5_spans 2 = .ok (.iconst 0, 1) := by decide +kernel
theorem dX5_spans_3 : decode cX5_spans 3 = .ok (.istore 4, 2) := by decide +kernel
theorem dX5_spans_5 : decode cX5_spans 5 = .ok (.iconst 0, 1) := by decide +kernel
theorem dX5_spans_6 : decode cX5_spans 6 = .ok (.istore 5, 2) := by decide +kernel
theorem dX5_spans_8 : decode cX5_spans 8 = .ok (.aload_n 0, 1) := by decide +kernel
theorem dX5_spans_9 : decode cX5_spans 9 = .ok (.getfield 7, 3) := by decide +kernel
theorem dX5_spans_12 : decode cX5_spans 12 = .ok (.iconst 4, 1) := by decide +kernel
theorem dX5_spans_13 : decode cX5_spans 13 = .ok (.iaload, 1) := by decide +kernel
theorem dX5_spans_14 : decode cX5_spans 14 = .ok (.istore 6, 2) := by decide +kernel
theorem dX5_spans_16 : decode cX5_spans 16 = .ok (.iconst 0, 1) := by decide +kernel
theorem dX5_spans_17 : decode cX5_spans 17 = .ok (.istore 7, 2) := by decide +kernel
theorem dX5_spans_19 : decode cX5_spans 19 = .ok (.iload 7, 2) := by decide +kernel
theorem dX5_spans_21 : decode cX5_spans 21 = .ok (.iload 6, 2) := by decide +kernel
theorem dX5_spans_23 : decode cX5_spans 23 = .ok (.if_icmp .gt 97, 3) := by decide +kernel
theorem dX5_spans_26 : decode cX5_spans 26 = .ok (.iload 7, 2) := by decide +kernel
theorem dX5_spans_28 : decode cX5_spans 28 = .ok (.iload 6, 2) := by decide +kernel
theorem dX5_spans_30 : decode cX5_spans 30 = .ok (.if_icmp .ge 21, 3) := by decide +kernel
theorem dX5_spans_33 : decode cX5_spans 33 = .ok (.aload_n 0, 1) := by decide +kernel
theorem dX5_spans_34 : decode cX5_spans 34 = .ok (.getfield 7, 3) := by decide +kernel
theorem dX5_spans_37 : decode cX5_spans 37 = .ok (.iload 7, 2) := by decide +kernel
theorem dX5_spans_39 : decode cX5_spans 39 = .ok (.invokestatic 43, 3) := by decide +kernel
theorem dX5_spans_42 : decode cX5_spans 42 = .ok (.ifCond .eq 9, 3) := by decide +kernel
theorem dX5_spans_45 : decode cX5_spans 45 = .ok (.iinc 5 1, 3) := by decide +kernel
theorem dX5_spans_48 : decode cX5_spans 48 = .ok (.goto 66, 3) := by decide +kernel
theorem dX5_spans_51 : decode cX5_spans 51 = .ok (.iload 5, 2) := by decide +kernel
theorem dX5_spans_53 : decode cX5_spans 53 = .ok (.ifCond .le 29, 3) := by decide +kernel
theorem dX5_spans_56 : decode cX5_spans 56 = .ok (.iload_n 3, 1) := by decide +kernel
theorem dX5_spans_57 : decode cX5_spans 57 = .ok (.iload_n 1, 1) := by decide +kernel
theorem dX5_spans_58 : decode cX5_spans 58 = .ok (.if_icmp .ne 24, 3) := by decide +kernel
theorem dX5_spans_61 : decode cX5_spans 61 = .ok (.iload_n 2, 1) := by decide +kernel
theorem dX5_spans_62 : decode cX5_spans 62 = .ok (.iconst 1, 1) := by decide +kernel
theorem dX5_spans_63 : decode cX5_spans 63 = .ok (.if_icmp .le 19, 3) := by decide +kernel
theorem dX5_spans_66 : decode cX5_spans 66 = .ok (.iload_n 2, 1) := by decide +kernel
theorem dX5_spans_67 : decode cX5_spans 67 = .ok (.iconst 2, 1) := by decide +kernel
theorem dX5_spans_68 : decode cX5_spans 68 = .ok (.if_icmp .ne 11, 3) := by decide +kernel
theorem dX5_spans_71 : decode cX5_spans 71 = .ok (.iload 7, 2) := by decide +kernel
theorem dX5_spans_73 : decode cX5_spans 73 = .ok (.iload 5, 2) := by decide +kernel
theorem dX5_spans_75 : decode cX5_spans 75 = .ok (.isub, 1) := by decide +kernel
theorem dX5_spans_76 : decode cX5_spans 76 = .ok (.goto 5, 3) := by decide +kernel
theorem dX5_spans_79 : decode cX5_spans 79 = .ok (.iload 5, 2) := by decide +kernel
theorem dX5_spans_81 : decode cX5_spans 81 = .ok (.ireturn, 1) := by decide +kernel
theorem dX5_spans_82 : decode cX5_spans 82 = .ok (.iload_n 3, 1) := by decide +kernel
theorem dX5_spans_83 : decode cX5_spans 83 = .ok (.iload 5, 2) := by decide +kernel
theorem dX5_spans_85 : decode cX5_spans 85 = .ok (.ifCond .le 7, 3) := by decide +kernel
theorem dX5_spans_88 : decode cX5_spans 88 = .ok (.iconst 1, 1) := by decide +kernel
theorem dX5_spans_89 : decode cX5_spans 89 = .ok (.goto 4, 3) := by decide +kernel
theorem dX5_spans_92 : decode cX5_spans 92 = .ok (.iconst 0, 1) := by decide +kernel
theorem dX5_spans_93 : decode cX5_spans 93 = .ok (.iadd, 1) := by decide +kernel
theorem dX5_spans_94 : decode cX5_spans 94 = .ok (.istore_n 3, 1) := by decide +kernel
theorem dX5_spans_95 : decode cX5_spans 95 = .ok (.iload 5, 2) := by decide +kernel
theorem dX5_spans_97 : decode cX5_spans 97 = .ok (.iload 4, 2) := by decide +kernel
theorem dX5_spans_99 : decode cX5_spans 99 = .ok (.if_icmp .le 8, 3) := by decide +kernel
theorem dX5_spans_102 : decode cX5_spans 102 = .ok (.iload 5, 2) := by decide +kernel
theorem dX5_spans_104 : decode cX5_spans 104 = .ok (.goto 5, 3) := by decide +kernel
theorem dX5_spans_107 : decode cX5_spans 107 = .ok (.iload 4, 2) := by decide +kernel
theorem dX5_spans_109 : decode cX5_spans 109 = .ok (.istore 4, 2) := by decide +kernel
theorem dX5_spans_111 : decode cX5_spans 111 = .ok (.iconst 0, 1) := by decide +kernel
theorem dX5_spans_112 : decode cX5_spans 112 = .ok (.istore 5, 2) := by decide +kernel
theorem dX5_spans_114 : decode cX5_spans 114 = .ok (.iinc 7 1, 3) := by decide +kernel
theorem dX5_spans_117 : decode cX5_spans 117 = .ok (.goto (-98), 3) := by decide +kernel
theorem dX5_spans_120 : decode cX5_spans 120 = .ok (.iload_n 2, 1) := by decide +kernel
theorem dX5_spans_121 : decode cX5_spans 121 = .ok (.ifCond .ne 7, 3) := by decide +kernel
theorem dX5_spans_124 : decode cX5_spans 124 = .ok (.iload_n 3, 1) := by decide +kernel
theorem dX5_spans_125 : decode cX5_spans 125 = .ok (.goto 14, 3) := by decide +kernel
theorem dX5_spans_128 : decode cX5_spans 128 = .ok (.iload_n 2, 1) := by decide +kernel
theorem dX5_spans_129 : decode cX5_spans 129 = .ok (.iconst 1, 1) := by decide +kernel
theorem dX5_spans_130 : decode cX5_spans 130 = .ok (.if_icmp .ne 8, 3) := by decide +kernel
theorem dX5_spans_133 : decode cX5_spans 133 = .ok (.iload 4, 2) := by decide +kernel
theorem dX5_spans_135 : decode cX5_spans 135 = .ok (.goto 4, 3) := by decide +kernel
theorem dX5_spans_138 : decode cX5_spans 138 = .ok (.iconst (-1), 1) := by decide +kernel
theorem dX5_spans_139 : decode cX5_spans 139 = .ok (.ireturn, 1) := by decide +kernel
theorem dX5_span_0 : decode cX5_span 0 = .ok (.aload_n 0, 1) := by decide +kernel
theorem dX5_span_1 : decode cX5_span 1 = .ok (.iconst 0, 1) := by decide +kernel
theorem dX5_span_2 : decode cX5_span 2 = .ok (.putfield 25, 3) := by decide +kernel
theorem dX5_span_5 : decode cX5_span 5 = .ok (.iload_n 1, 1) := by decide +kernel
theorem dX5_span_6 : decode cX5_span 6 = .ok (.ifCond .lt 12, 3) := by decide +kernel
theorem dX5_span_9 : decode cX5_span 9 = .ok (.iload_n 2, 1) := by decide +kernel
theorem dX5_span_10 : decode cX5_span 10 = .ok (.iconst 0, 1) := by decide +kernel
theorem dX5_span_11 : decode cX5_span 11 = .ok (.iconst 1, 1) := by decide +kernel
theorem dX5_span_12 : decode cX5_span 12 = .ok (.invokestatic 29, 3) := by decide +kernel
theorem dX5_span_15 : decode cX5_span 15 = .ok (.ifCond .ne 9, 3) := by decide +kernel
theorem dX5_span_18 : decode cX5_span 18 = .ok (.aload_n 0, 1) := by decide +kernel
theorem dX5_span_19 : decode cX5_span 19 = .ok (.iconst 1, 1) := by decide +kernel
theorem dX5_span_20 : decode cX5_span 20 = .ok (.invokevirtual 36, 3) := by decide +kernel
theorem dX5_span_23 : decode cX5_span 23 = .ok (.ireturn, 1) := by decide +kernel
theorem dX5_span_24 : decode cX5_span 24 = .ok (.aload_n 0, 1) := by decide +kernel
theorem dX5_span_25 : decode cX5_span 25 = .ok (.iload_n 1, 1) := by decide +kernel
theorem dX5_span_26 : decode cX5_span 26 = .ok (.iload_n 2, 1) := by decide +kernel
theorem dX5_span_27 : decode cX5_span 27 = .ok (.iconst 2, 1) := by decide +kernel
theorem dX5_span_28 : decode cX5_span 28 = .ok (.iadd, 1) := by decide +kernel
theorem dX5_span_29 : decode cX5_span 29 = .ok (.invokevirtual 171, 3) := by decide +kernel
theorem dX5_span_32 : decode cX5_span 32 = .ok (.ireturn, 1) := by decide +kernel
theorem dX5_sumOf_0 : decode cX5_sumOf 0 = .ok (.iconst 0, 1) := by decide +kernel
theorem dX5_sumOf_1 : decode cX5_sumOf 1 = .ok (.istore 4, 2) := by decide +kernel
theorem dX5_sumOf_3 : decode cX5_sumOf 3 = .ok (.iconst 0, 1) := by decide +kernel
theorem dX5_sumOf_4 : decode cX5_sumOf 4 = .ok (.istore 5, 2) := by decide +kernel
theorem dX5_sumOf_6 : decode cX5_sumOf 6 = .ok (.iload 5, 2) := by decide +kernel
theorem dX5_sumOf_8 : decode cX5_sumOf 8 = .ok (.iload_n 3, 1) := by decide +kernel
theorem dX5_sumOf_9 : decode cX5_sumOf 9 = .ok (.if_icmp .ge 25, 3) := by decide +kernel
theorem dX5_sumOf_12 : decode cX5_sumOf 12 = .ok (.iload 4, 2) := by decide +kernel
theorem dX5_sumOf_14 : decode cX5_sumOf 14 = .ok (.aload_n 0, 1) := by decide +kernel
theorem dX5_sumOf_15 : decode cX5_sumOf 15 = .ok (.getfield 7, 3) := by decide +kernel
theorem dX5_sumOf_18 : decode cX5_sumOf 18 = .ok (.iload_n 1, 1) := by decide +kernel
theorem dX5_sumOf_19 : decode cX5_sumOf 19 = .ok (.iload_n 2, 1) := by decide +kernel
theorem dX5_sumOf_20 : decode cX5_sumOf 20 = .ok (.iload 5, 2) := by decide +kernel
theorem dX5_sumOf_22 : decode cX5_sumOf 22 = .ok (.imul, 1) := by decide +kernel
theorem dX5_sumOf_23 : decode cX5_sumOf 23 = .ok (.iadd, 1) := by decide +kernel
theorem dX5_sumOf_24 : decode cX5_sumOf 24 = .ok (.iaload, 1) := by decide +kernel
theorem dX5_sumOf_25 : decode cX5_sumOf 25 = .ok (.iadd, 1) := by decide +kernel
theorem dX5_sumOf_26 : decode cX5_sumOf 26 = .ok (.istore 4, 2) := by decide +kernel
theorem dX5_sumOf_28 : decode cX5_sumOf 28 = .ok (.iinc 5 1, 3) := by decide +kernel
theorem dX5_sumOf_31 : decode cX5_sumOf 31 = .ok (.goto (-25), 3) := by decide +kernel
theorem dX5_sumOf_34 : decode cX5_sumOf 34 = .ok (.iload 4, 2) := by decide +kernel
theorem dX5_sumOf_36 : decode cX5_sumOf 36 = .ok (.ireturn, 1) := by decide +kernel
theorem dX5_counted_0 : decode cX5_counted 0 = .ok (.iload_n 1, 1) := by decide +kernel
theorem dX5_counted_1 : decode cX5_counted 1 = .ok (.iconst 4, 1) := by decide +kernel
theorem dX5_counted_2 : decode cX5_counted 2 = .ok (.if_icmp .ge 27, 3) := by decide +kernel
theorem dX5_counted_5 : decode cX5_counted 5 = .ok (.iload_n 1, 1) := by decide +kernel
theorem dX5_counted_6 : decode cX5_counted 6 = .ok (.ifCond .ne 12, 3) := by decide +kernel
theorem dX5_counted_9 : decode cX5_counted 9 = .ok (.aload_n 0, 1) := by decide +kernel
theorem dX5_counted_10 : decode cX5_counted 10 = .ok (.getfield 7, 3) := by decide +kernel
theorem dX5_counted_13 : decode cX5_counted 13 = .ok (.iconst 0, 1) := by decide +kernel
theorem dX5_counted_14 : decode cX5_counted 14 = .ok (.iaload, 1) := by decide +kernel
theorem dX5_counted_15 : decode cX5_counted 15 = .ok (.goto 13, 3) := by decide +kernel
theorem dX5_counted_18 : decode cX5_counted 18 = .ok (.aload_n 0, 1) := by decide +kernel
theorem dX5_counted_19 : decode cX5_counted 19 = .ok (.getfield 7, 3) := by decide +kernel
theorem dX5_counted_22 : decode cX5_counted 22 = .ok (.iload_n 1, 1) := by decide +kernel
theorem dX5_counted_23 : decode cX5_counted 23 = .ok (.iconst 1, 1) := by decide +kernel
theorem dX5_counted_24 : decode cX5_counted 24 = .ok (.isub, 1) := by decide +kernel
theorem dX5_counted_25 : decode cX5_counted 25 = .ok (.invokestatic 174, 3) := by decide +kernel
theorem dX5_counted_28 : decode cX5_counted 28 = .ok (.ireturn, 1) := by decide +kernel
theorem dX5_counted_29 : decode cX5_counted 29 = .ok (.iload_n 1, 1) := by decide +kernel
theorem dX5_counted_30 : decode cX5_counted 30 = .ok (.iconst 4, 1) := by decide +kernel
theorem dX5_counted_31 : decode cX5_counted 31 = .ok (.if_icmp .ne 18, 3) := by decide +kernel
theorem dX5_counted_34 : decode cX5_counted 34 = .ok (.aload_n 0, 1) := by decide +kernel
theorem dX5_counted_35 : decode cX5_counted 35 = .ok (.bipush 37, 2) := by decide +kernel
theorem dX5_counted_37 : decode cX5_counted 37 = .ok (.bipush 12, 2) := by decide +kernel
theorem dX5_counted_39 : decode cX5_counted 39 = .ok (.aload_n 0, 1) := by decide +kernel
theorem dX5_counted_40 : decode cX5_counted 40 = .ok (.getfield 7, 3) := by decide +kernel
theorem dX5_counted_43 : decode cX5_counted 43 = .ok (.iconst 4, 1) := by decide +kernel
theorem dX5_counted_44 : decode cX5_counted 44 = .ok (.iaload, 1) := by decide +kernel
theorem dX5_counted_45 : decode cX5_counted 45 = .ok (.invokevirtual 177, 3) := by decide +kernel
theorem dX5_counted_48 : decode cX5_counted 48 = .ok (.ireturn, 1) := by decide +kernel
theorem dX5_counted_49 : decode cX5_counted 49 = .ok (.iload_n 1, 1) := by decide +kernel
theorem dX5_counted_50 : decode cX5_counted 50 = .ok (.bipush 9, 2) := by decide +kernel
theorem dX5_counted_52 : decode cX5_counted 52 = .ok (.if_icmp .ge 32, 3) := by decide +kernel
theorem dX5_counted_55 : decode cX5_counted 55 = .ok (.iload_n 1, 1) := by decide +kernel
theorem dX5_counted_56 : decode cX5_counted 56 = .ok (.iconst 5, 1) := by decide +kernel
theorem dX5_counted_57 : decode cX5_counted 57 = .ok (.if_icmp .ne 15, 3) := by decide +kernel
theorem dX5_counted_60 : decode cX5_counted 60 = .ok (.aload_n 0, 1) := by decide +kernel
theorem dX5_counted_61 : decode cX5_counted 61 = .ok (.bipush 8, 2) := by decide +kernel
theorem dX5_counted_63 : decode cX5_counted 63 = .ok (.iconst 1, 1) := by decide +kernel
theorem dX5_counted_64 : decode cX5_counted 64 = .ok (.bipush 8, 2) := by decide +kernel
theorem dX5_counted_66 : decode cX5_counted 66 = .ok (.invokevirtual 177, 3) := by decide +kernel
theorem dX5_counted_69 : decode cX5_counted 69 = .ok (.goto 14, 3) := by decide +kernel
theorem dX5_counted_72 : decode cX5_counted 72 = .ok (.aload_n 0, 1) := by decide +kernel
theorem dX5_counted_73 : decode cX5_counted 73 = .ok (.getfield 7, 3) := by decide +kernel
theorem dX5_counted_76 : decode cX5_counted 76 = .ok (.iconst 5, 1) := by decide +kernel
theorem dX5_counted_77 : decode cX5_counted 77 = .ok (.iload_n 1, 1) := by decide +kernel
theorem dX5_counted_78 : decode cX5_counted 78 = .ok (.iadd, 1) := by decide +kernel
theorem dX5_counted_79 : decode cX5_counted 79 = .ok (.bipush 6, 2) := by decide +kernel
theorem dX5_counted_81 : decode cX5_counted 81 = .ok (.isub, 1) := by decide +kernel
theorem dX5_counted_82 : decode cX5_counted 82 = .ok (.iaload, 1) := by decide +kernel
theorem dX5_counted_83 : decode cX5_counted 83 = .ok (.ireturn, 1) := by decide +kernel
theorem dX5_counted_84 : decode cX5_counted 84 = .ok (.iload_n 1, 1) := by decide +kernel
theorem dX5_counted_85 : decode cX5_counted 85 = .ok (.bipush 9, 2) := by decide +kernel
theorem dX5_counted_87 : decode cX5_counted 87 = .ok (.if_icmp .ne 15, 3) := by decide +kernel
theorem dX5_counted_90 : decode cX5_counted 90 = .ok (.aload_n 0, 1) := by decide +kernel
theorem dX5_counted_91 : decode cX5_counted 91 = .ok (.bipush 16, 2) := by decide +kernel
theorem dX5_counted_93 : decode cX5_counted 93 = .ok (.iconst 1, 1) := by decide +kernel
theorem dX5_counted_94 : decode cX5_counted 94 = .ok (.bipush 8, 2) := by decide +kernel
theorem dX5_counted_96 : decode cX5_counted 96 = .ok (.invokevirtual 177, 3) := by decide +kernel
theorem dX5_counted_99 : decode cX5_counted 99 = .ok (.goto 25, 3) := by decide +kernel
theorem dX5_counted_102 : decode cX5_counted 102 = .ok (.iload_n 1, 1) := by decide +kernel
theorem dX5_counted_103 : decode cX5_counted 103 = .ok (.bipush 12, 2) := by decide +kernel
theorem dX5_counted_105 : decode cX5_counted 105 = .ok (.if_icmp .ne 10, 3) := by decide +kernel
theorem dX5_counted_108 : decode cX5_counted 108 = .ok (.aload_n 0, 1) := by decide +kernel
theorem dX5_counted_109 : decode cX5_counted 109 = .ok (.getfield 33, 3) := by decide +kernel
theorem dX5_counted_112 : decode cX5_counted 112 = .ok (.goto 12, 3) := by decide +kernel
theorem dX5_counted_115 : decode cX5_counted 115 = .ok (.aload_n 0, 1) := by decide +kernel
theorem dX5_counted_116 : decode cX5_counted 116 = .ok (.iconst 0, 1) := by decide +kernel
theorem dX5_counted_117 : decode cX5_counted 117 = .ok (.iload_n 1, 1) := by decide +kernel
theorem dX5_counted_118 : decode cX5_counted 118 = .ok (.bipush 10, 2) := by decide +kernel
theorem dX5_counted_120 : decode cX5_counted 120 = .ok (.isub, 1) := by decide +kernel
theorem dX5_counted_121 : decode cX5_counted 121 = .ok (.invokevirtual 171, 3) := by decide +kernel
theorem dX5_counted_124 : decode cX5_counted 124 = .ok (.ireturn, 1) := by decide +kernel
theorem dX5_count_0 : decode cX5_count 0 = .ok (.aload_n 0, 1) := by decide +kernel
theorem dX5_count_1 : decode cX5_count 1 = .ok (.iconst 0, 1) := by decide +kernel
theorem dX5_count_2 : decode cX5_count 2 = .ok (.putfield 25, 3) := by decide +kernel
theorem dX5_count_5 : decode cX5_count 5 = .ok (.iload_n 1, 1) := by decide +kernel
theorem dX5_count_6 : decode cX5_count 6 = .ok (.iconst 0, 1) := by decide +kernel
theorem dX5_count_7 : decode cX5_count 7 = .ok (.bipush 12, 2) := by decide +kernel
theorem dX5_count_9 : decode cX5_count 9 = .ok (.invokestatic 29, 3) := by decide +kernel
theorem dX5_count_12 : decode cX5_count 12 = .ok (.ifCond .eq 11, 3) := by decide +kernel
theorem dX5_count_15 : decode cX5_count 15 = .ok (.aload_n 0, 1) := by decide +kernel
theorem dX5_count_16 : decode cX5_count 16 = .ok (.iload_n 1, 1) := by decide +kernel
theorem dX5_count_17 : decode cX5_count 17 = .ok (.invokevirtual 180, 3) := by decide +kernel
theorem dX5_count_20 : decode cX5_count 20 = .ok (.goto 8, 3) := by decide +kernel
theorem dX5_count_23 : decode cX5_count 23 = .ok (.aload_n 0, 1) := by decide +kernel
theorem dX5_count_24 : decode cX5_count 24 = .ok (.iconst 1, 1) := by decide +kernel
theorem dX5_count_25 : decode cX5_count 25 = .ok (.invokevirtual 36, 3) := by decide +kernel
theorem dX5_count_28 : decode cX5_count 28 = .ok (.ireturn, 1) := by decide +kernel
theorem dX5_setting_0 : decode cX5_setting 0 = .ok (.aload_n 0, 1) := by decide +kernel
theorem dX5_setting_1 : decode cX5_setting 1 = .ok (.iconst 0, 1) := by decide +kernel
theorem dX5_setting_2 : decode cX5_setting 2 = .ok (.putfield 25, 3) := by decide +kernel
theorem dX5_setting_5 : decode cX5_setting 5 = .ok (.iload_n 1, 1) := by decide +kernel
theorem dX5_setting_6 : decode cX5_setting 6 = .ok (.iconst 0, 1) := by decide +kernel
theorem dX5_setting_7 : decode cX5_setting 7 = .ok (.iconst 3, 1) := by decide +kernel
theorem dX5_setting_8 : decode cX5_setting 8 = .ok (.invokestatic 29, 3) := by decide +kernel
theorem dX5_setting_11 : decode cX5_setting 11 = .ok (.ifCond .eq 14, 3) := by decide +kernel
theorem dX5_setting_14 : decode cX5_setting 14 = .ok (.aload_n 0, 1) := by decide +kernel
theorem dX5_setting_15 : decode cX5_setting 15 = .ok (.getfield 7, 3) := by decide +kernel
theorem dX5_setting_18 : decode cX5_setting 18 = .ok (.iconst 1, 1) := by decide +kernel
theorem dX5_setting_19 : decode cX5_setting 19 = .ok (.iload_n 1, 1) := by decide +kernel
theorem dX5_setting_20 : decode cX5_setting 20 = .ok (.iadd, 1) := by decide +kernel
theorem dX5_setting_21 : decode cX5_setting 21 = .ok (.iaload, 1) := by decide +kernel
theorem dX5_setting_22 : decode cX5_setting 22 = .ok (.goto 8, 3) := by decide +kernel
theorem dX5_setting_25 : decode cX5_setting 25 = .ok (.aload_n 0, 1) := by decide +kernel
theorem dX5_setting_26 : decode cX5_setting 26 = .ok (.iconst 1, 1) := by decide +kernel
theorem dX5_setting_27 : decode cX5_setting 27 = .ok (.invokevirtual 36, 3) := by decide +kernel
end
section
theorem dX5_setting_30 : decode cX5_setting 30 = .ok (.ireturn, 1) := by decide +kernel
theorem dX5_whoThen_0 : decode cX5_whoThen 0 = .ok (.aload_n 0, 1) := by decide +kernel
theorem dX5_whoThen_1 : decode cX5_whoThen 1 = .ok (.invokevirtual 183, 3) := by decide +kernel
theorem dX5_whoThen_4 : decode cX5_whoThen 4 = .ok (.iconst 0, 1) := by decide +kernel
theorem dX5_whoThen_5 : decode cX5_whoThen 5 = .ok (.istore_n 3, 1) := by decide +kernel
theorem dX5_whoThen_6 : decode cX5_whoThen 6 = .ok (.iload_n 3, 1) := by decide +kernel
theorem dX5_whoThen_7 : decode cX5_whoThen 7 = .ok (.iload_n 2, 1) := by decide +kernel
theorem dX5_whoThen_8 : decode cX5_whoThen 8 = .ok (.if_icmp .ge 17, 3) := by decide +kernel
theorem dX5_whoThen_11 : decode cX5_whoThen 11 = .ok (.aload_n 0, 1) := by decide +kernel
theorem dX5_whoThen_12 : decode cX5_whoThen 12 = .ok (.getfield 13, 3) := by decide +kernel
theorem dX5_whoThen_15 : decode cX5_whoThen 15 = .ok (.invokestatic 111, 3) := by decide +kernel
theorem dX5_whoThen_18 : decode cX5_whoThen 18 = .ok (.pop, 1) := by decide +kernel
theorem dX5_whoThen_19 : decode cX5_whoThen 19 = .ok (.iinc 3 1, 3) := by decide +kernel
theorem dX5_whoThen_22 : decode cX5_whoThen 22 = .ok (.goto (-16), 3) := by decide +kernel
theorem dX5_whoThen_25 : decode cX5_whoThen 25 = .ok (.aload_n 0, 1) := by decide +kernel
theorem dX5_whoThen_26 : decode cX5_whoThen 26 = .ok (.getfield 13, 3) := by decide +kernel
theorem dX5_whoThen_29 : decode cX5_whoThen 29 = .ok (.iload_n 1, 1) := by decide +kernel
theorem dX5_whoThen_30 : decode cX5_whoThen 30 = .ok (.invokestatic 40, 3) := by decide +kernel
theorem dX5_whoThen_33 : decode cX5_whoThen 33 = .ok (.iaload, 1) := by decide +kernel
theorem dX5_whoThen_34 : decode cX5_whoThen 34 = .ok (.ireturn, 1) := by decide +kernel
theorem dX5_whoAfter_0 : decode cX5_whoAfter 0 = .ok (.aload_n 0, 1) := by decide +kernel
theorem dX5_whoAfter_1 : decode cX5_whoAfter 1 = .ok (.iconst 0, 1) := by decide +kernel
theorem dX5_whoAfter_2 : decode cX5_whoAfter 2 = .ok (.putfield 25, 3) := by decide +kernel
theorem dX5_whoAfter_5 : decode cX5_whoAfter 5 = .ok (.aload_n 0, 1) := by decide +kernel
theorem dX5_whoAfter_6 : decode cX5_whoAfter 6 = .ok (.iload_n 1, 1) := by decide +kernel
theorem dX5_whoAfter_7 : decode cX5_whoAfter 7 = .ok (.invokevirtual 97, 3) := by decide +kernel
theorem dX5_whoAfter_10 : decode cX5_whoAfter 10 = .ok (.ifCond .ne 9, 3) := by decide +kernel
theorem dX5_whoAfter_13 : decode cX5_whoAfter 13 = .ok (.aload_n 0, 1) := by decide +kernel
theorem dX5_whoAfter_14 : decode cX5_whoAfter 14 = .ok (.iconst 1, 1) := by decide +kernel
theorem dX5_whoAfter_15 : decode cX5_whoAfter 15 = .ok (.invokevirtual 36, 3) := by decide +kernel
theorem dX5_whoAfter_18 : decode cX5_whoAfter 18 = .ok (.ireturn, 1) := by decide +kernel
theorem dX5_whoAfter_19 : decode cX5_whoAfter 19 = .ok (.iload_n 2, 1) := by decide +kernel
theorem dX5_whoAfter_20 : decode cX5_whoAfter 20 = .ok (.iconst 0, 1) := by decide +kernel
theorem dX5_whoAfter_21 : decode cX5_whoAfter 21 = .ok (.sipush 500, 3) := by decide +kernel
theorem dX5_whoAfter_24 : decode cX5_whoAfter 24 = .ok (.invokestatic 29, 3) := by decide +kernel
theorem dX5_whoAfter_27 : decode cX5_whoAfter 27 = .ok (.ifCond .eq 12, 3) := by decide +kernel
theorem dX5_whoAfter_30 : decode cX5_whoAfter 30 = .ok (.aload_n 0, 1) := by decide +kernel
theorem dX5_whoAfter_31 : decode cX5_whoAfter 31 = .ok (.iload_n 1, 1) := by decide +kernel
theorem dX5_whoAfter_32 : decode cX5_whoAfter 32 = .ok (.iload_n 2, 1) := by decide +kernel
theorem dX5_whoAfter_33 : decode cX5_whoAfter 33 = .ok (.invokevirtual 186, 3) := by decide +kernel
theorem dX5_whoAfter_36 : decode cX5_whoAfter 36 = .ok (.goto 8, 3) := by decide +kernel
theorem dX5_whoAfter_39 : decode cX5_whoAfter 39 = .ok (.aload_n 0, 1) := by decide +kernel
theorem dX5_whoAfter_40 : decode cX5_whoAfter 40 = .ok (.iconst 2, 1) := by decide +kernel
theorem dX5_whoAfter_41 : decode cX5_whoAfter 41 = .ok (.invokevirtual 36, 3) := by decide +kernel
theorem dX5_whoAfter_44 : decode cX5_whoAfter 44 = .ok (.ireturn, 1) := by decide +kernel
theorem dX5_freeThen_0 : decode cX5_freeThen 0 = .ok (.aload_n 0, 1) := by decide +kernel
theorem dX5_freeThen_1 : decode cX5_freeThen 1 = .ok (.invokevirtual 183, 3) := by decide +kernel
theorem dX5_freeThen_4 : decode cX5_freeThen 4 = .ok (.iconst 0, 1) := by decide +kernel
theorem dX5_freeThen_5 : decode cX5_freeThen 5 = .ok (.istore_n 2, 1) := by decide +kernel
theorem dX5_freeThen_6 : decode cX5_freeThen 6 = .ok (.iload_n 2, 1) := by decide +kernel
theorem dX5_freeThen_7 : decode cX5_freeThen 7 = .ok (.sipush 500, 3) := by decide +kernel
theorem dX5_freeThen_10 : decode cX5_freeThen 10 = .ok (.if_icmp .ge 29, 3) := by decide +kernel
theorem dX5_freeThen_13 : decode cX5_freeThen 13 = .ok (.aload_n 0, 1) := by decide +kernel
theorem dX5_freeThen_14 : decode cX5_freeThen 14 = .ok (.getfield 13, 3) := by decide +kernel
theorem dX5_freeThen_17 : decode cX5_freeThen 17 = .ok (.iconst 0, 1) := by decide +kernel
theorem dX5_freeThen_18 : decode cX5_freeThen 18 = .ok (.invokestatic 174, 3) := by decide +kernel
theorem dX5_freeThen_21 : decode cX5_freeThen 21 = .ok (.iload_n 1, 1) := by decide +kernel
theorem dX5_freeThen_22 : decode cX5_freeThen 22 = .ok (.if_icmp .ge 17, 3) := by decide +kernel
theorem dX5_freeThen_25 : decode cX5_freeThen 25 = .ok (.aload_n 0, 1) := by decide +kernel
theorem dX5_freeThen_26 : decode cX5_freeThen 26 = .ok (.getfield 13, 3) := by decide +kernel
theorem dX5_freeThen_29 : decode cX5_freeThen 29 = .ok (.invokestatic 111, 3) := by decide +kernel
theorem dX5_freeThen_32 : decode cX5_freeThen 32 = .ok (.pop, 1) := by decide +kernel
theorem dX5_freeThen_33 : decode cX5_freeThen 33 = .ok (.iinc 2 1, 3) := by decide +kernel
theorem dX5_freeThen_36 : decode cX5_freeThen 36 = .ok (.goto (-30), 3) := by decide +kernel
theorem dX5_freeThen_39 : decode cX5_freeThen 39 = .ok (.aload_n 0, 1) := by decide +kernel
theorem dX5_freeThen_40 : decode cX5_freeThen 40 = .ok (.getfield 13, 3) := by decide +kernel
theorem dX5_freeThen_43 : decode cX5_freeThen 43 = .ok (.iconst 0, 1) := by decide +kernel
theorem dX5_freeThen_44 : decode cX5_freeThen 44 = .ok (.invokestatic 174, 3) := by decide +kernel
theorem dX5_freeThen_47 : decode cX5_freeThen 47 = .ok (.iload_n 1, 1) := by decide +kernel
theorem dX5_freeThen_48 : decode cX5_freeThen 48 = .ok (.if_icmp .ge 7, 3) := by decide +kernel
theorem dX5_freeThen_51 : decode cX5_freeThen 51 = .ok (.iconst (-1), 1) := by decide +kernel
theorem dX5_freeThen_52 : decode cX5_freeThen 52 = .ok (.goto 4, 3) := by decide +kernel
theorem dX5_freeThen_55 : decode cX5_freeThen 55 = .ok (.iload_n 2, 1) := by decide +kernel
theorem dX5_freeThen_56 : decode cX5_freeThen 56 = .ok (.ireturn, 1) := by decide +kernel
theorem dX5_freeIn_0 : decode cX5_freeIn 0 = .ok (.aload_n 0, 1) := by decide +kernel
theorem dX5_freeIn_1 : decode cX5_freeIn 1 = .ok (.iconst 0, 1) := by decide +kernel
theorem dX5_freeIn_2 : decode cX5_freeIn 2 = .ok (.putfield 25, 3) := by decide +kernel
theorem dX5_freeIn_5 : decode cX5_freeIn 5 = .ok (.iload_n 1, 1) := by decide +kernel
theorem dX5_freeIn_6 : decode cX5_freeIn 6 = .ok (.iconst 1, 1) := by decide +kernel
theorem dX5_freeIn_7 : decode cX5_freeIn 7 = .ok (.bipush 64, 2) := by decide +kernel
theorem dX5_freeIn_9 : decode cX5_freeIn 9 = .ok (.invokestatic 29, 3) := by decide +kernel
theorem dX5_freeIn_12 : decode cX5_freeIn 12 = .ok (.ifCond .eq 11, 3) := by decide +kernel
theorem dX5_freeIn_15 : decode cX5_freeIn 15 = .ok (.aload_n 0, 1) := by decide +kernel
theorem dX5_freeIn_16 : decode cX5_freeIn 16 = .ok (.iload_n 1, 1) := by decide +kernel
theorem dX5_freeIn_17 : decode cX5_freeIn 17 = .ok (.invokevirtual 189, 3) := by decide +kernel
theorem dX5_freeIn_20 : decode cX5_freeIn 20 = .ok (.goto 8, 3) := by decide +kernel
theorem dX5_freeIn_23 : decode cX5_freeIn 23 = .ok (.aload_n 0, 1) := by decide +kernel
theorem dX5_freeIn_24 : decode cX5_freeIn 24 = .ok (.iconst 1, 1) := by decide +kernel
theorem dX5_freeIn_25 : decode cX5_freeIn 25 = .ok (.invokevirtual 36, 3) := by decide +kernel
theorem dX5_freeIn_28 : decode cX5_freeIn 28 = .ok (.ireturn, 1) := by decide +kernel
theorem dX5_wishedThen_0 : decode cX5_wishedThen 0 = .ok (.aload_n 0, 1) := by decide +kernel
theorem dX5_wishedThen_1 : decode cX5_wishedThen 1 = .ok (.getfield 7, 3) := by decide +kernel
theorem dX5_wishedThen_4 : decode cX5_wishedThen 4 = .ok (.iload_n 2, 1) := by decide +kernel
theorem dX5_wishedThen_5 : decode cX5_wishedThen 5 = .ok (.invokestatic 40, 3) := by decide +kernel
theorem dX5_wishedThen_8 : decode cX5_wishedThen 8 = .ok (.iaload, 1) := by decide +kernel
theorem dX5_wishedThen_9 : decode cX5_wishedThen 9 = .ok (.iload_n 1, 1) := by decide +kernel
theorem dX5_wishedThen_10 : decode cX5_wishedThen 10 = .ok (.if_icmp .ne 5, 3) := by decide +kernel
theorem dX5_wishedThen_13 : decode cX5_wishedThen 13 = .ok (.iconst 0, 1) := by decide +kernel
theorem dX5_wishedThen_14 : decode cX5_wishedThen 14 = .ok (.ireturn, 1) := by decide +kernel
theorem dX5_wishedThen_15 : decode cX5_wishedThen 15 = .ok (.aload_n 0, 1) := by decide +kernel
theorem dX5_wishedThen_16 : decode cX5_wishedThen 16 = .ok (.iload_n 1, 1) := by decide +kernel
theorem dX5_wishedThen_17 : decode cX5_wishedThen 17 = .ok (.iload_n 2, 1) := by decide +kernel
theorem dX5_wishedThen_18 : decode cX5_wishedThen 18 = .ok (.invokevirtual 100, 3) := by decide +kernel
theorem dX5_wishedThen_21 : decode cX5_wishedThen 21 = .ok (.ifCond .ne 5, 3) := by decide +kernel
theorem dX5_wishedThen_24 : decode cX5_wishedThen 24 = .ok (.iconst (-1), 1) := by decide +kernel
theorem dX5_wishedThen_25 : decode cX5_wishedThen 25 = .ok (.ireturn, 1) := by decide +kernel
theorem dX5_wishedThen_26 : decode cX5_wishedThen 26 = .ok (.aload_n 0, 1) := by decide +kernel
theorem dX5_wishedThen_27 : decode cX5_wishedThen 27 = .ok (.getfield 7, 3) := by decide +kernel
theorem dX5_wishedThen_30 : decode cX5_wishedThen 30 = .ok (.iload_n 2, 1) := by decide +kernel
theorem dX5_wishedThen_31 : decode cX5_wishedThen 31 = .ok (.invokestatic 43, 3) := by decide +kernel
theorem dX5_wishedThen_34 : decode cX5_wishedThen 34 = .ok (.ifCond .eq 5, 3) := by decide +kernel
theorem dX5_wishedThen_37 : decode cX5_wishedThen 37 = .ok (.iconst 0, 1) := by decide +kernel
theorem dX5_wishedThen_38 : decode cX5_wishedThen 38 = .ok (.ireturn, 1) := by decide +kernel
theorem dX5_wishedThen_39 : decode cX5_wishedThen 39 = .ok (.aload_n 0, 1) := by decide +kernel
theorem dX5_wishedThen_40 : decode cX5_wishedThen 40 = .ok (.invokevirtual 183, 3) := by decide +kernel
theorem dX5_wishedThen_43 : decode cX5_wishedThen 43 = .ok (.aload_n 0, 1) := by decide +kernel
theorem dX5_wishedThen_44 : decode cX5_wishedThen 44 = .ok (.getfield 13, 3) := by decide +kernel
theorem dX5_wishedThen_47 : decode cX5_wishedThen 47 = .ok (.iload_n 2, 1) := by decide +kernel
theorem dX5_wishedThen_48 : decode cX5_wishedThen 48 = .ok (.iload_n 1, 1) := by decide +kernel
theorem dX5_wishedThen_49 : decode cX5_wishedThen 49 = .ok (.iconst 1, 1) := by decide +kernel
theorem dX5_wishedThen_50 : decode cX5_wishedThen 50 = .ok (.invokestatic 94, 3) := by decide +kernel
theorem dX5_wishedThen_53 : decode cX5_wishedThen 53 = .ok (.iconst 0, 1) := by decide +kernel
theorem dX5_wishedThen_54 : decode cX5_wishedThen 54 = .ok (.istore_n 3, 1) := by decide +kernel
theorem dX5_wishedThen_55 : decode cX5_wishedThen 55 = .ok (.iload_n 3, 1) := by decide +kernel
theorem dX5_wishedThen_56 : decode cX5_wishedThen 56 = .ok (.sipush 500, 3) := by decide +kernel
theorem dX5_wishedThen_59 : decode cX5_wishedThen 59 = .ok (.if_icmp .ge 30, 3) := by decide +kernel
theorem dX5_wishedThen_62 : decode cX5_wishedThen 62 = .ok (.aload_n 0, 1) := by decide +kernel
theorem dX5_wishedThen_63 : decode cX5_wishedThen 63 = .ok (.getfield 13, 3) := by decide +kernel
theorem dX5_wishedThen_66 : decode cX5_wishedThen 66 = .ok (.iload_n 2, 1) := by decide +kernel
theorem dX5_wishedThen_67 : decode cX5_wishedThen 67 = .ok (.invokestatic 40, 3) := by decide +kernel
theorem dX5_wishedThen_70 : decode cX5_wishedThen 70 = .ok (.iaload, 1) := by decide +kernel
theorem dX5_wishedThen_71 : decode cX5_wishedThen 71 = .ok (.iload_n 1, 1) := by decide +kernel
theorem dX5_wishedThen_72 : decode cX5_wishedThen 72 = .ok (.if_icmp .eq 17, 3) := by decide +kernel
theorem dX5_wishedThen_75 : decode cX5_wishedThen 75 = .ok (.aload_n 0, 1) := by decide +kernel
theorem dX5_wishedThen_76 : decode cX5_wishedThen 76 = .ok (.getfield 13, 3) := by decide +kernel
theorem dX5_wishedThen_79 : decode cX5_wishedThen 79 = .ok (.invokestatic 111, 3) := by decide +kernel
theorem dX5_wishedThen_82 : decode cX5_wishedThen 82 = .ok (.pop, 1) := by decide +kernel
theorem dX5_wishedThen_83 : decode cX5_wishedThen 83 = .ok (.iinc 3 1, 3) := by decide +kernel
theorem dX5_wishedThen_86 : decode cX5_wishedThen 86 = .ok (.goto (-31), 3) := by decide +kernel
theorem dX5_wishedThen_89 : decode cX5_wishedThen 89 = .ok (.aload_n 0, 1) := by decide +kernel
theorem dX5_wishedThen_90 : decode cX5_wishedThen 90 = .ok (.getfield 13, 3) := by decide +kernel
theorem dX5_wishedThen_93 : decode cX5_wishedThen 93 = .ok (.iload_n 2, 1) := by decide +kernel
theorem dX5_wishedThen_94 : decode cX5_wishedThen 94 = .ok (.invokestatic 40, 3) := by decide +kernel
theorem dX5_wishedThen_97 : decode cX5_wishedThen 97 = .ok (.iaload, 1) := by decide +kernel
theorem dX5_wishedThen_98 : decode cX5_wishedThen 98 = .ok (.iload_n 1, 1) := by decide +kernel
theorem dX5_wishedThen_99 : decode cX5_wishedThen 99 = .ok (.if_icmp .ne 7, 3) := by decide +kernel
theorem dX5_wishedThen_102 : decode cX5_wishedThen 102 = .ok (.iload_n 3, 1) := by decide +kernel
theorem dX5_wishedThen_103 : decode cX5_wishedThen 103 = .ok (.goto 4, 3) := by decide +kernel
theorem dX5_wishedThen_106 : decode cX5_wishedThen 106 = .ok (.iconst (-1), 1) := by decide +kernel
theorem dX5_wishedThen_107 : decode cX5_wishedThen 107 = .ok (.ireturn, 1) := by decide +kernel
theorem dX5_wishedIn_0 : decode cX5_wishedIn 0 = .ok (.aload_n 0, 1) := by decide +kernel
theorem dX5_wishedIn_1 : decode cX5_wishedIn 1 = .ok (.iconst 0, 1) := by decide +kernel
theorem dX5_wishedIn_2 : decode cX5_wishedIn 2 = .ok (.putfield 25, 3) := by decide +kernel
theorem dX5_wishedIn_5 : decode cX5_wishedIn 5 = .ok (.iload_n 1, 1) := by decide +kernel
theorem dX5_wishedIn_6 : decode cX5_wishedIn 6 = .ok (.invokestatic 73, 3) := by decide +kernel
theorem dX5_wishedIn_9 : decode cX5_wishedIn 9 = .ok (.ifCond .eq 11, 3) := by decide +kernel
theorem dX5_wishedIn_12 : decode cX5_wishedIn 12 = .ok (.aload_n 0, 1) := by decide +kernel
theorem dX5_wishedIn_13 : decode cX5_wishedIn 13 = .ok (.iload_n 2, 1) := by decide +kernel
theorem dX5_wishedIn_14 : decode cX5_wishedIn 14 = .ok (.invokevirtual 97, 3) := by decide +kernel
theorem dX5_wishedIn_17 : decode cX5_wishedIn 17 = .ok (.ifCond .ne 9, 3) := by decide +kernel
theorem dX5_wishedIn_20 : decode cX5_wishedIn 20 = .ok (.aload_n 0, 1) := by decide +kernel
theorem dX5_wishedIn_21 : decode cX5_wishedIn 21 = .ok (.iconst 1, 1) := by decide +kernel
theorem dX5_wishedIn_22 : decode cX5_wishedIn 22 = .ok (.invokevirtual 36, 3) := by decide +kernel
theorem dX5_wishedIn_25 : decode cX5_wishedIn 25 = .ok (.ireturn, 1) := by decide +kernel
theorem dX5_wishedIn_26 : decode cX5_wishedIn 26 = .ok (.aload_n 0, 1) := by decide +kernel
theorem dX5_wishedIn_27 : decode cX5_wishedIn 27 = .ok (.iload_n 1, 1) := by decide +kernel
theorem dX5_wishedIn_28 : decode cX5_wishedIn 28 = .ok (.iload_n 2, 1) := by decide +kernel
theorem dX5_wishedIn_29 : decode cX5_wishedIn 29 = .ok (.invokevirtual 192, 3) := by decide +kernel
theorem dX5_wishedIn_32 : decode cX5_wishedIn 32 = .ok (.ireturn, 1) := by decide +kernel
theorem dX5_fullness_0 : decode cX5_fullness 0 = .ok (.aload_n 0, 1) := by decide +kernel
theorem dX5_fullness_1 : decode cX5_fullness 1 = .ok (.iconst 0, 1) := by decide +kernel
theorem dX5_fullness_2 : decode cX5_fullness 2 = .ok (.putfield 25, 3) := by decide +kernel
theorem dX5_fullness_5 : decode cX5_fullness 5 = .ok (.aload_n 0, 1) := by decide +kernel
theorem dX5_fullness_6 : decode cX5_fullness 6 = .ok (.getfield 7, 3) := by decide +kernel
theorem dX5_fullness_9 : decode cX5_fullness 9 = .ok (.iconst 4, 1) := by decide +kernel
theorem dX5_fullness_10 : decode cX5_fullness 10 = .ok (.iaload, 1) := by decide +kernel
theorem dX5_fullness_11 : decode cX5_fullness 11 = .ok (.aload_n 0, 1) := by decide +kernel
theorem dX5_fullness_12 : decode cX5_fullness 12 = .ok (.getfield 7, 3) := by decide +kernel
theorem dX5_fullness_15 : decode cX5_fullness 15 = .ok (.iconst 0, 1) := by decide +kernel
theorem dX5_fullness_16 : decode cX5_fullness 16 = .ok (.invokestatic 174, 3) := by decide +kernel
theorem dX5_fullness_19 : decode cX5_fullness 19 = .ok (.isub, 1) := by decide +kernel
theorem dX5_fullness_20 : decode cX5_fullness 20 = .ok (.istore_n 1, 1) := by decide +kernel
theorem dX5_fullness_21 : decode cX5_fullness 21 = .ok (.iload_n 1, 1) := by decide +kernel
theorem dX5_fullness_22 : decode cX5_fullness 22 = .ok (.i2f, 1) := by decide +kernel
theorem dX5_fullness_23 : decode cX5_fullness 23 = .ok (.aload_n 0, 1) := by decide +kernel
theorem dX5_fullness_24 : decode cX5_fullness 24 = .ok (.getfield 7, 3) := by decide +kernel
theorem dX5_fullness_27 : decode cX5_fullness 27 = .ok (.iconst 4, 1) := by decide +kernel
theorem dX5_fullness_28 : decode cX5_fullness 28 = .ok (.iaload, 1) := by decide +kernel
theorem dX5_fullness_29 : decode cX5_fullness 29 = .ok (.i2f, 1) := by decide +kernel
theorem dX5_fullness_30 : decode cX5_fullness 30 = .ok (.fdiv, 1) := by decide +kernel
theorem dX5_fullness_31 : decode cX5_fullness 31 = .ok (.invokestatic 195, 3) := by decide +kernel
theorem dX5_fullness_34 : decode cX5_fullness 34 = .ok (.ireturn, 1) := by decide +kernel
theorem dX5_scatter_0 : decode cX5_scatter 0 = .ok (.aload_n 0, 1) := by decide +kernel
theorem dX5_scatter_1 : decode cX5_scatter 1 = .ok (.iconst 0, 1) := by decide +kernel
theorem dX5_scatter_2 : decode cX5_scatter 2 = .ok (.putfield 25, 3) := by decide +kernel
theorem dX5_scatter_5 : decode cX5_scatter 5 = .ok (.aload_n 0, 1) := by decide +kernel
theorem dX5_scatter_6 : decode cX5_scatter 6 = .ok (.getfield 7, 3) := by decide +kernel
theorem dX5_scatter_9 : decode cX5_scatter 9 = .ok (.iconst 0, 1) := by decide +kernel
theorem dX5_scatter_10 : decode cX5_scatter 10 = .ok (.invokestatic 174, 3) := by decide +kernel
theorem dX5_scatter_13 : decode cX5_scatter 13 = .ok (.istore_n 1, 1) := by decide +kernel
theorem dX5_scatter_14 : decode cX5_scatter 14 = .ok (.iload_n 1, 1) := by decide +kernel
theorem dX5_scatter_15 : decode cX5_scatter 15 = .ok (.ifCond .ne 7, 3) := by decide +kernel
theorem dX5_scatter_18 : decode cX5_scatter 18 = .ok (.fconst 0, 1) := by decide +kernel
theorem dX5_scatter_19 : decode cX5_scatter 19 = .ok (.goto 15, 3) := by decide +kernel
theorem dX5_scatter_22 : decode cX5_scatter 22 = .ok (.fconst 1, 1) := by decide +kernel
theorem dX5_scatter_23 : decode cX5_scatter 23 = .ok (.aload_n 0, 1) := by decide +kernel
theorem dX5_scatter_24 : decode cX5_scatter 24 = .ok (.iconst 0, 1) := by decide +kernel
theorem dX5_scatter_25 : decode cX5_scatter 25 = .ok (.iconst 1, 1) := by decide +kernel
theorem dX5_scatter_26 : decode cX5_scatter 26 = .ok (.invokevirtual 171, 3) := by decide +kernel
theorem dX5_scatter_29 : decode cX5_scatter 29 = .ok (.i2f, 1) := by decide +kernel
theorem dX5_scatter_30 : decode cX5_scatter 30 = .ok (.iload_n 1, 1) := by decide +kernel
theorem dX5_scatter_31 : decode cX5_scatter 31 = .ok (.i2f, 1) := by decide +kernel
theorem dX5_scatter_32 : decode cX5_scatter 32 = .ok (.fdiv, 1) := by decide +kernel
theorem dX5_scatter_33 : decode cX5_scatter 33 = .ok (.fsub, 1) := by decide +kernel
theorem dX5_scatter_34 : decode cX5_scatter 34 = .ok (.invokestatic 195, 3) := by decide +kernel
theorem dX5_scatter_37 : decode cX5_scatter 37 = .ok (.ireturn, 1) := by decide +kernel
theorem dX5_meanHeld_0 : decode cX5_meanHeld 0 = .ok (.aload_n 0, 1) := by decide +kernel
theorem dX5_meanHeld_1 : decode cX5_meanHeld 1 = .ok (.iconst 0, 1) := by decide +kernel
theorem dX5_meanHeld_2 : decode cX5_meanHeld 2 = .ok (.putfield 25, 3) := by decide +kernel
theorem dX5_meanHeld_5 : decode cX5_meanHeld 5 = .ok (.aload_n 0, 1) := by decide +kernel
theorem dX5_meanHeld_6 : decode cX5_meanHeld 6 = .ok (.iconst 5, 1) := by decide +kernel
theorem dX5_meanHeld_7 : decode cX5_meanHeld 7 = .ok (.invokevirtual 180, 3) := by decide +kernel
theorem dX5_meanHeld_10 : decode cX5_meanHeld 10 = .ok (.istore_n 1, 1) := by decide +kernel
theorem dX5_meanHeld_11 : decode cX5_meanHeld 11 = .ok (.iload_n 1, 1) := by decide +kernel
theorem dX5_meanHeld_12 : decode cX5_meanHeld 12 = .ok (.ifCond .ne 7, 3) := by decide +kernel
theorem dX5_meanHeld_15 : decode cX5_meanHeld 15 = .ok (.dconst 0, 1) := by decide +kernel
theorem dX5_meanHeld_16 : decode cX5_meanHeld 16 = .ok (.goto 16, 3) := by decide +kernel
theorem dX5_meanHeld_19 : decode cX5_meanHeld 19 = .ok (.aload_n 0, 1) := by decide +kernel
theorem dX5_meanHeld_20 : decode cX5_meanHeld 20 = .ok (.bipush 24, 2) := by decide +kernel
theorem dX5_meanHeld_22 : decode cX5_meanHeld 22 = .ok (.iconst 1, 1) := by decide +kernel
theorem dX5_meanHeld_23 : decode cX5_meanHeld 23 = .ok (.bipush 8, 2) := by decide +kernel
theorem dX5_meanHeld_25 : decode cX5_meanHeld 25 = .ok (.invokevirtual 177, 3) := by decide +kernel
theorem dX5_meanHeld_28 : decode cX5_meanHeld 28 = .ok (.i2d, 1) := by decide +kernel
theorem dX5_meanHeld_29 : decode cX5_meanHeld 29 = .ok (.iload_n 1, 1) := by decide +kernel
theorem dX5_meanHeld_30 : decode cX5_meanHeld 30 = .ok (.i2d, 1) := by decide +kernel
theorem dX5_meanHeld_31 : decode cX5_meanHeld 31 = .ok (.ddiv, 1) := by decide +kernel
theorem dX5_meanHeld_32 : decode cX5_meanHeld 32 = .ok (.dreturn, 1) := by decide +kernel
theorem dX5_digest_0 : decode cX5_digest 0 = .ok (.aload_n 0, 1) := by decide +kernel
theorem dX5_digest_1 : decode cX5_digest 1 = .ok (.iconst 0, 1) := by decide +kernel
theorem dX5_digest_2 : decode cX5_digest 2 = .ok (.putfield 25, 3) := by decide +kernel
theorem dX5_digest_5 : decode cX5_digest 5 = .ok (.ldc2_w 201, 3) := by decide +kernel
theorem dX5_digest_8 : decode cX5_digest 8 = .ok (.lstore_n 1, 1) := by decide +kernel
theorem dX5_digest_9 : decode cX5_digest 9 = .ok (.iconst 0, 1) := by decide +kernel
theorem dX5_digest_10 : decode cX5_digest 10 = .ok (.istore_n 3, 1) := by decide +kernel
theorem dX5_digest_11 : decode cX5_digest 11 = .ok (.iload_n 3, 1) := by decide +kernel
theorem dX5_digest_12 : decode cX5_digest 12 = .ok (.bipush 13, 2) := by decide +kernel
theorem dX5_digest_14 : decode cX5_digest 14 = .ok (.if_icmp .ge 22, 3) := by decide +kernel
theorem dX5_digest_17 : decode cX5_digest 17 = .ok (.ldc2_w 203, 3) := by decide +kernel
theorem dX5_digest_20 : decode cX5_digest 20 = .ok (.lload_n 1, 1) := by decide +kernel
theorem dX5_digest_21 : decode cX5_digest 21 = .ok (.lmul, 1) := by decide +kernel
theorem dX5_digest_22 : decode cX5_digest 22 = .ok (.aload_n 0, 1) := by decide +kernel
theorem dX5_digest_23 : decode cX5_digest 23 = .ok (.iload_n 3, 1) := by decide +kernel
theorem dX5_digest_24 : decode cX5_digest 24 = .ok (.invokevirtual 180, 3) := by decide +kernel
theorem dX5_digest_27 : decode cX5_digest 27 = .ok (.i2l, 1) := by decide +kernel
theorem dX5_digest_28 : decode cX5_digest 28 = .ok (.ladd, 1) := by decide +kernel
theorem dX5_digest_29 : decode cX5_digest 29 = .ok (.lstore_n 1, 1) := by decide +kernel
theorem dX5_digest_30 : decode cX5_digest 30 = .ok (.iinc 3 1, 3) := by decide +kernel
theorem dX5_digest_33 : decode cX5_digest 33 = .ok (.goto (-22), 3) := by decide +kernel
theorem dX5_digest_36 : decode cX5_digest 36 = .ok (.iconst 0, 1) := by decide +kernel
theorem dX5_digest_37 : decode cX5_digest 37 = .ok (.istore_n 3, 1) := by decide +kernel
theorem dX5_digest_38 : decode cX5_digest 38 = .ok (.iload_n 3, 1) := by decide +kernel
theorem dX5_digest_39 : decode cX5_digest 39 = .ok (.iconst 4, 1) := by decide +kernel
theorem dX5_digest_40 : decode cX5_digest 40 = .ok (.if_icmp .ge 25, 3) := by decide +kernel
theorem dX5_digest_43 : decode cX5_digest 43 = .ok (.ldc2_w 203, 3) := by decide +kernel
theorem dX5_digest_46 : decode cX5_digest 46 = .ok (.lload_n 1, 1) := by decide +kernel
theorem dX5_digest_47 : decode cX5_digest 47 = .ok (.lmul, 1) := by decide +kernel
theorem dX5_digest_48 : decode cX5_digest 48 = .ok (.aload_n 0, 1) := by decide +kernel
theorem dX5_digest_49 : decode cX5_digest 49 = .ok (.getfield 7, 3) := by decide +kernel
theorem dX5_digest_52 : decode cX5_digest 52 = .ok (.iconst 1, 1) := by decide +kernel
theorem dX5_digest_53 : decode cX5_digest 53 = .ok (.iload_n 3, 1) := by decide +kernel
theorem dX5_digest_54 : decode cX5_digest 54 = .ok (.iadd, 1) := by decide +kernel
theorem dX5_digest_55 : decode cX5_digest 55 = .ok (.iaload, 1) := by decide +kernel
theorem dX5_digest_56 : decode cX5_digest 56 = .ok (.i2l, 1) := by decide +kernel
theorem dX5_digest_57 : decode cX5_digest 57 = .ok (.ladd, 1) := by decide +kernel
theorem dX5_digest_58 : decode cX5_digest 58 = .ok (.lstore_n 1, 1) := by decide +kernel
theorem dX5_digest_59 : decode cX5_digest 59 = .ok (.iinc 3 1, 3) := by decide +kernel
theorem dX5_digest_62 : decode cX5_digest 62 = .ok (.goto (-24), 3) := by decide +kernel
theorem dX5_digest_65 : decode cX5_digest 65 = .ok (.iconst 0, 1) := by decide +kernel
theorem dX5_digest_66 : decode cX5_digest 66 = .ok (.istore_n 3, 1) := by decide +kernel
theorem dX5_digest_67 : decode cX5_digest 67 = .ok (.iload_n 3, 1) := by decide +kernel
theorem dX5_digest_68 : decode cX5_digest 68 = .ok (.aload_n 0, 1) := by decide +kernel
theorem dX5_digest_69 : decode cX5_digest 69 = .ok (.getfield 7, 3) := by decide +kernel
theorem dX5_digest_72 : decode cX5_digest 72 = .ok (.iconst 4, 1) := by decide +kernel
theorem dX5_digest_73 : decode cX5_digest 73 = .ok (.iaload, 1) := by decide +kernel
theorem dX5_digest_74 : decode cX5_digest 74 = .ok (.if_icmp .ge 40, 3) := by decide +kernel
theorem dX5_digest_77 : decode cX5_digest 77 = .ok (.iconst 0, 1) := by decide +kernel
theorem dX5_digest_78 : decode cX5_digest 78 = .ok (.istore 4, 2) := by decide +kernel
theorem dX5_digest_80 : decode cX5_digest 80 = .ok (.iload 4, 2) := by decide +kernel
theorem dX5_digest_82 : decode cX5_digest 82 = .ok (.bipush 9, 2) := by decide +kernel
theorem dX5_digest_84 : decode cX5_digest 84 = .ok (.if_icmp .ge 24, 3) := by decide +kernel
theorem dX5_digest_87 : decode cX5_digest 87 = .ok (.ldc2_w 203, 3) := by decide +kernel
theorem dX5_digest_90 : decode cX5_digest 90 = .ok (.lload_n 1, 1) := by decide +kernel
theorem dX5_digest_91 : decode cX5_digest 91 = .ok (.lmul, 1) := by decide +kernel
theorem dX5_digest_92 : decode cX5_digest 92 = .ok (.aload_n 0, 1) := by decide +kernel
theorem dX5_digest_93 : decode cX5_digest 93 = .ok (.iload_n 3, 1) := by decide +kernel
theorem dX5_digest_94 : decode cX5_digest 94 = .ok (.iload 4, 2) := by decide +kernel
theorem dX5_digest_96 : decode cX5_digest 96 = .ok (.invokevirtual 165, 3) := by decide +kernel
theorem dX5_digest_99 : decode cX5_digest 99 = .ok (.i2l, 1) := by decide +kernel
theorem dX5_digest_100 : decode cX5_digest 100 = .ok (.ladd, 1) := by decide +kernel
theorem dX5_digest_101 : decode cX5_digest 101 = .ok (.lstore_n 1, 1) := by decide +kernel
theorem dX5_digest_102 : decode cX5_digest 102 = .ok (.iinc 4 1, 3) := by decide +kernel
theorem dX5_digest_105 : decode cX5_digest 105 = .ok (.goto (-25), 3) := by decide +kernel
theorem dX5_digest_108 : decode cX5_digest 108 = .ok (.iinc 3 1, 3) := by decide +kernel
theorem dX5_digest_111 : decode cX5_digest 111 = .ok (.goto (-44), 3) := by decide +kernel
theorem dX5_digest_114 : decode cX5_digest 114 = .ok (.iconst 0, 1) := by decide +kernel
theorem dX5_digest_115 : decode cX5_digest 115 = .ok (.istore_n 3, 1) := by decide +kernel
theorem dX5_digest_116 : decode cX5_digest 116 = .ok (.iload_n 3, 1) := by decide +kernel
theorem dX5_digest_117 : decode cX5_digest 117 = .ok (.bipush 8, 2) := by decide +kernel
theorem dX5_digest_119 : decode cX5_digest 119 = .ok (.if_icmp .ge 54, 3) := by decide +kernel
theorem dX5_digest_122 : decode cX5_digest 122 = .ok (.iconst 0, 1) := by decide +kernel
theorem dX5_digest_123 : decode cX5_digest 123 = .ok (.istore 4, 2) := by decide +kernel
theorem dX5_digest_125 : decode cX5_digest 125 = .ok (.iload 4, 2) := by decide +kernel
theorem dX5_digest_127 : decode cX5_digest 127 = .ok (.bipush 8, 2) := by decide +kernel
theorem dX5_digest_129 : decode cX5_digest 129 = .ok (.if_icmp .ge 24, 3) := by decide +kernel
theorem dX5_digest_132 : decode cX5_digest 132 = .ok (.ldc2_w 203, 3) := by decide +kernel
theorem dX5_digest_135 : decode cX5_digest 135 = .ok (.lload_n 1, 1) := by decide +kernel
theorem dX5_digest_136 : decode cX5_digest 136 = .ok (.lmul, 1) := by decide +kernel
theorem dX5_digest_137 : decode cX5_digest 137 = .ok (.aload_n 0, 1) := by decide +kernel
theorem dX5_digest_138 : decode cX5_digest 138 = .ok (.iload_n 3, 1) := by decide +kernel
theorem dX5_digest_139 : decode cX5_digest 139 = .ok (.iload 4, 2) := by decide +kernel
theorem dX5_digest_141 : decode cX5_digest 141 = .ok (.invokevirtual 168, 3) := by decide +kernel
theorem dX5_digest_144 : decode cX5_digest 144 = .ok (.i2l, 1) := by decide +kernel
theorem dX5_digest_145 : decode cX5_digest 145 = .ok (.ladd, 1) := by decide +kernel
theorem dX5_digest_146 : decode cX5_digest 146 = .ok (.lstore_n 1, 1) := by decide +kernel
theorem dX5_digest_147 : decode cX5_digest 147 = .ok (.iinc 4 1, 3) := by decide +kernel
theorem dX5_digest_150 : decode cX5_digest 150 = .ok (.goto (-25), 3) := by decide +kernel
theorem dX5_digest_153 : decode cX5_digest 153 = .ok (.ldc2_w 203, 3) := by decide +kernel
theorem dX5_digest_156 : decode cX5_digest 156 = .ok (.lload_n 1, 1) := by decide +kernel
theorem dX5_digest_157 : decode cX5_digest 157 = .ok (.lmul, 1) := by decide +kernel
theorem dX5_digest_158 : decode cX5_digest 158 = .ok (.aload_n 0, 1) := by decide +kernel
theorem dX5_digest_159 : decode cX5_digest 159 = .ok (.iload_n 3, 1) := by decide +kernel
theorem dX5_digest_160 : decode cX5_digest 160 = .ok (.iconst 0, 1) := by decide +kernel
theorem dX5_digest_161 : decode cX5_digest 161 = .ok (.invokevirtual 192, 3) := by decide +kernel
theorem dX5_digest_164 : decode cX5_digest 164 = .ok (.i2l, 1) := by decide +kernel
theorem dX5_digest_165 : decode cX5_digest 165 = .ok (.ladd, 1) := by decide +kernel
theorem dX5_digest_166 : decode cX5_digest 166 = .ok (.lstore_n 1, 1) := by decide +kernel
theorem dX5_digest_167 : decode cX5_digest 167 = .ok (.iinc 3 1, 3) := by decide +kernel
theorem dX5_digest_170 : decode cX5_digest 170 = .ok (.goto (-54), 3) := by decide +kernel
theorem dX5_digest_173 : decode cX5_digest 173 = .ok (.aload_n 0, 1) := by decide +kernel
theorem dX5_digest_174 : decode cX5_digest 174 = .ok (.bipush 10, 2) := by decide +kernel
theorem dX5_digest_176 : decode cX5_digest 176 = .ok (.invokevirtual 180, 3) := by decide +kernel
theorem dX5_digest_179 : decode cX5_digest 179 = .ok (.istore_n 3, 1) := by decide +kernel
theorem dX5_digest_180 : decode cX5_digest 180 = .ok (.iconst 0, 1) := by decide +kernel
theorem dX5_digest_181 : decode cX5_digest 181 = .ok (.istore 4, 2) := by decide +kernel
theorem dX5_digest_183 : decode cX5_digest 183 = .ok (.iload 4, 2) := by decide +kernel
theorem dX5_digest_185 : decode cX5_digest 185 = .ok (.iload_n 3, 1) := by decide +kernel
theorem dX5_digest_186 : decode cX5_digest 186 = .ok (.if_icmp .ge 37, 3) := by decide +kernel
theorem dX5_digest_189 : decode cX5_digest 189 = .ok (.ldc2_w 203, 3) := by decide +kernel
theorem dX5_digest_192 : decode cX5_digest 192 = .ok (.ldc2_w 203, 3) := by decide +kernel
theorem dX5_digest_195 : decode cX5_digest 195 = .ok (.lload_n 1, 1) := by decide +kernel
theorem dX5_digest_196 : decode cX5_digest 196 = .ok (.lmul, 1) := by decide +kernel
theorem dX5_digest_197 : decode cX5_digest 197 = .ok (.aload_n 0, 1) := by decide +kernel
theorem dX5_digest_198 : decode cX5_digest 198 = .ok (.iload 4, 2) := by decide +kernel
theorem dX5_digest_200 : decode cX5_digest 200 = .ok (.iconst 2, 1) := by decide +kernel
theorem dX5_digest_201 : decode cX5_digest 201 = .ok (.invokevirtual 171, 3) := by decide +kernel
theorem dX5_digest_204 : decode cX5_digest 204 = .ok (.i2l, 1) := by decide +kernel
theorem dX5_digest_205 : decode cX5_digest 205 = .ok (.ladd, 1) := by decide +kernel
theorem dX5_digest_206 : decode cX5_digest 206 = .ok (.lmul, 1) := by decide +kernel
theorem dX5_digest_207 : decode cX5_digest 207 = .ok (.aload_n 0, 1) := by decide +kernel
theorem dX5_digest_208 : decode cX5_digest 208 = .ok (.iload 4, 2) := by decide +kernel
theorem dX5_digest_210 : decode cX5_digest 210 = .ok (.iconst 3, 1) := by decide +kernel
theorem dX5_digest_211 : decode cX5_digest 211 = .ok (.invokevirtual 171, 3) := by decide +kernel
theorem dX5_digest_214 : decode cX5_digest 214 = .ok (.i2l, 1) := by decide +kernel
theorem dX5_digest_215 : decode cX5_digest 215 = .ok (.ladd, 1) := by decide +kernel
theorem dX5_digest_216 : decode cX5_digest 216 = .ok (.lstore_n 1, 1) := by decide +kernel
theorem dX5_digest_217 : decode cX5_digest 217 = .ok (.iinc 4 1, 3) := by decide +kernel
theorem dX5_digest_220 : decode cX5_digest 220 = .ok (.goto (-37), 3) := by decide +kernel
theorem dX5_digest_223 : decode cX5_digest 223 = .ok (.ldc2_w 203, 3) := by decide +kernel
theorem dX5_digest_226 : decode cX5_digest 226 = .ok (.ldc2_w 203, 3) := by decide +kernel
theorem dX5_digest_229 : decode cX5_digest 229 = .ok (.lload_n 1, 1) := by decide +kernel
theorem dX5_digest_230 : decode cX5_digest 230 = .ok (.lmul, 1) := by decide +kernel
theorem dX5_digest_231 : decode cX5_digest 231 = .ok (.aload_n 0, 1) := by decide +kernel
theorem dX5_digest_232 : decode cX5_digest 232 = .ok (.iconst 0, 1) := by decide +kernel
theorem dX5_digest_233 : decode cX5_digest 233 = .ok (.bipush 20, 2) := by decide +kernel
theorem dX5_digest_235 : decode cX5_digest 235 = .ok (.invokevirtual 186, 3) := by decide +kernel
theorem dX5_digest_238 : decode cX5_digest 238 = .ok (.i2l, 1) := by decide +kernel
theorem dX5_digest_239 : decode cX5_digest 239 = .ok (.ladd, 1) := by decide +kernel
theorem dX5_digest_240 : decode cX5_digest 240 = .ok (.lmul, 1) := by decide +kernel
theorem dX5_digest_241 : decode cX5_digest 241 = .ok (.aload_n 0, 1) := by decide +kernel
theorem dX5_digest_242 : decode cX5_digest 242 = .ok (.iconst 4, 1) := by decide +kernel
theorem dX5_digest_243 : decode cX5_digest 243 = .ok (.invokevirtual 189, 3) := by decide +kernel
theorem dX5_digest_246 : decode cX5_digest 246 = .ok (.i2l, 1) := by decide +kernel
theorem dX5_digest_247 : decode cX5_digest 247 = .ok (.ladd, 1) := by decide +kernel
theorem dX5_digest_248 : decode cX5_digest 248 = .ok (.lstore_n 1, 1) := by decide +kernel
theorem dX5_digest_249 : decode cX5_digest 249 = .ok (.ldc2_w 203, 3) := by decide +kernel
theorem dX5_digest_252 : decode cX5_digest 252 = .ok (.ldc2_w 203, 3) := by decide +kernel
theorem dX5_digest_255 : decode cX5_digest 255 = .ok (.lload_n 1, 1) := by decide +kernel
theorem dX5_digest_256 : decode cX5_digest 256 = .ok (.lmul, 1) := by decide +kernel
theorem dX5_digest_257 : decode cX5_digest 257 = .ok (.aload_n 0, 1) := by decide +kernel
theorem dX5_digest_258 : decode cX5_digest 258 = .ok (.invokevirtual 205, 3) := by decide +kernel
theorem dX5_digest_261 : decode cX5_digest 261 = .ok (.i2l, 1) := by decide +kernel
theorem dX5_digest_262 : decode cX5_digest 262 = .ok (.ladd, 1) := by decide +kernel
theorem dX5_digest_263 : decode cX5_digest 263 = .ok (.lmul, 1) := by decide +kernel
theorem dX5_digest_264 : decode cX5_digest 264 = .ok (.aload_n 0, 1) := by decide +kernel
theorem dX5_digest_265 : decode cX5_digest 265 = .ok (.invokevirtual 209, 3) := by decide +kernel
theorem dX5_digest_268 : decode cX5_digest 268 = .ok (.i2l, 1) := by decide +kernel
theorem dX5_digest_269 : decode cX5_digest 269 = .ok (.ladd, 1) := by decide +kernel
theorem dX5_digest_270 : decode cX5_digest 270 = .ok (.lstore_n 1, 1) := by decide +kernel
theorem dX5_digest_271 : decode cX5_digest 271 = .ok (.ldc2_w 203, 3) := by decide +kernel
theorem dX5_digest_274 : decode cX5_digest 274 = .ok (.ldc2_w 203, 3) := by decide +kernel
theorem dX5_digest_277 : decode cX5_digest 277 = .ok (.lload_n 1, 1) := by decide +kernel
theorem dX5_digest_278 : decode cX5_digest 278 = .ok (.lmul, 1) := by decide +kernel
theorem dX5_digest_279 : decode cX5_digest 279 = .ok (.aload_n 0, 1) := by decide +kernel
theorem dX5_digest_280 : decode cX5_digest 280 = .ok (.invokevirtual 212, 3) := by decide +kernel
theorem dX5_digest_283 : decode cX5_digest 283 = .ok (.invokestatic 216, 3) := by decide +kernel
theorem dX5_digest_286 : decode cX5_digest 286 = .ok (.ladd, 1) := by decide +kernel
theorem dX5_digest_287 : decode cX5_digest 287 = .ok (.lmul, 1) := by decide +kernel
theorem dX5_digest_288 : decode cX5_digest 288 = .ok (.aload_n 0, 1) := by decide +kernel
theorem dX5_digest_289 : decode cX5_digest 289 = .ok (.getfield 121, 3) := by decide +kernel
theorem dX5_digest_292 : decode cX5_digest 292 = .ok (.i2l, 1) := by decide +kernel
theorem dX5_digest_293 : decode cX5_digest 293 = .ok (.ladd, 1) := by decide +kernel
theorem dX5_digest_294 : decode cX5_digest 294 = .ok (.lstore_n 1, 1) := by decide +kernel
theorem dX5_digest_295 : decode cX5_digest 295 = .ok (.iconst 0, 1) := by decide +kernel
theorem dX5_digest_296 : decode cX5_digest 296 = .ok (.istore 4, 2) := by decide +kernel
theorem dX5_digest_298 : decode cX5_digest 298 = .ok (.iload 4, 2) := by decide +kernel
theorem dX5_digest_300 : decode cX5_digest 300 = .ok (.aload_n 0, 1) := by decide +kernel
theorem dX5_digest_301 : decode cX5_digest 301 = .ok (.getfield 121, 3) := by decide +kernel
theorem dX5_digest_304 : decode cX5_digest 304 = .ok (.if_icmp .ge 24, 3) := by decide +kernel
theorem dX5_digest_307 : decode cX5_digest 307 = .ok (.ldc2_w 203, 3) := by decide +kernel
theorem dX5_digest_310 : decode cX5_digest 310 = .ok (.lload_n 1, 1) := by decide +kernel
theorem dX5_digest_311 : decode cX5_digest 311 = .ok (.lmul, 1) := by decide +kernel
theorem dX5_digest_312 : decode cX5_digest 312 = .ok (.aload_n 0, 1) := by decide +kernel
theorem dX5_digest_313 : decode cX5_digest 313 = .ok (.getfield 19, 3) := by decide +kernel
theorem dX5_digest_316 : decode cX5_digest 316 = .ok (.iload 4, 2) := by decide +kernel
theorem dX5_digest_318 : decode cX5_digest 318 = .ok (.iaload, 1) := by decide +kernel
theorem dX5_digest_319 : decode cX5_digest 319 = .ok (.i2l, 1) := by decide +kernel
theorem dX5_digest_320 : decode cX5_digest 320 = .ok (.ladd, 1) := by decide +kernel
theorem dX5_digest_321 : decode cX5_digest 321 = .ok (.lstore_n 1, 1) := by decide +kernel
theorem dX5_digest_322 : decode cX5_digest 322 = .ok (.iinc 4 1, 3) := by decide +kernel
theorem dX5_digest_325 : decode cX5_digest 325 = .ok (.goto (-27), 3) := by decide +kernel
theorem dX5_digest_328 : decode cX5_digest 328 = .ok (.lload_n 1, 1) := by decide +kernel
theorem dX5_digest_329 : decode cX5_digest 329 = .ok (.lreturn, 1) := by decide +kernel
theorem dJxe99ae_isNaN_b9ae7_0 : decode cJxe99ae_isNaN_b9ae7 0 = .ok (.dload_n 0, 1) := by decide +kernel
theorem dJxe99ae_isNaN_b9ae7_1 : decode cJxe99ae_isNaN_b9ae7 1 = .ok (.dload_n 0, 1) := by decide +kernel
theorem dJxe99ae_isNaN_b9ae7_2 : decode cJxe99ae_isNaN_b9ae7 2 = .ok (.dcmp .l, 1) := by decide +kernel
theorem dJxe99ae_isNaN_b9ae7_3 : decode cJxe99ae_isNaN_b9ae7 3 = .ok (.ifCond .eq 7, 3) := by decide +kernel
theorem dJxe99ae_isNaN_b9ae7_6 : decode cJxe99ae_isNaN_b9ae7 6 = .ok (.iconst 1, 1) := by decide +kernel
theorem dJxe99ae_isNaN_b9ae7_7 : decode cJxe99ae_isNaN_b9ae7 7 = .ok (.goto 4, 3) := by decide +kernel
theorem dJxe99ae_isNaN_b9ae7_10 : decode cJxe99ae_isNaN_b9ae7 10 = .ok (.iconst 0, 1) := by decide +kernel
theorem dJxe99ae_isNaN_b9ae7_11 : decode cJxe99ae_isNaN_b9ae7 11 = .ok (.ireturn, 1) := by decide +kernel
theorem dJxe99ae_doubleToLongBits_ccdee_0 : decode cJxe99ae_doubleToLongBits_ccdee 0 = .ok (.dload_n 0, 1) := by decide +kernel
theorem dJxe99ae_doubleToLongBits_ccdee_1 : decode cJxe99ae_doubleToLongBits_ccdee 1 = .ok (.invokestatic 122, 3) := by decide +kernel
theorem dJxe99ae_doubleToLongBits_ccdee_4 : decode cJxe99ae_doubleToLongBits_ccdee 4 = .ok (.ifCond .ne 8, 3) := by decide +kernel
theorem dJxe99ae_doubleToLongBits_ccdee_7 : decode cJxe99ae_doubleToLongBits_ccdee 7 = .ok (.dload_n 0, 1) := by decide +kernel
theorem dJxe99ae_doubleToLongBits_ccdee_8 : decode cJxe99ae_doubleToLongBits_ccdee 8 = .ok (.invokestatic 134, 3) := by decide +kernel
theorem dJxe99ae_doubleToLongBits_ccdee_11 : decode cJxe99ae_doubleToLongBits_ccdee 11 = .ok (.lreturn, 1) := by decide +kernel
theorem dJxe99ae_doubleToLongBits_ccdee_12 : decode cJxe99ae_doubleToLongBits_ccdee 12 = .ok (.ldc2_w 137, 3) := by decide +kernel
theorem dJxe99ae_doubleToLongBits_ccdee_15 : decode cJxe99ae_doubleToLongBits_ccdee 15 = .ok (.lreturn, 1) := by decide +kernel
theorem dJxf58ca_isNaN_12338_0 : decode cJxf58ca_isNaN_12338 0 = .ok (.fload_n 0, 1) := by decide +kernel
theorem dJxf58ca_isNaN_12338_1 : decode cJxf58ca_isNaN_12338 1 = .ok (.fload_n 0, 1) := by decide +kernel
theorem dJxf58ca_isNaN_12338_2 : decode cJxf58ca_isNaN_12338 2 = .ok (.fcmp .l, 1) := by decide +kernel
theorem dJxf58ca_isNaN_12338_3 : decode cJxf58ca_isNaN_12338 3 = .ok (.ifCond .eq 7, 3) := by decide +kernel
theorem dJxf58ca_isNaN_12338_6 : decode cJxf58ca_isNaN_12338 6 = .ok (.iconst 1, 1) := by decide +kernel
theorem dJxf58ca_isNaN_12338_7 : decode cJxf58ca_isNaN_12338 7 = .ok (.goto 4, 3) := by decide +kernel
theorem dJxf58ca_isNaN_12338_10 : decode cJxf58ca_isNaN_12338 10 = .ok (.iconst 0, 1) := by decide +kernel
theorem dJxf58ca_isNaN_12338_11 : decode cJxf58ca_isNaN_12338 11 = .ok (.ireturn, 1) := by decide +kernel
theorem dJxf58ca_floatToIntBits_5c35a_0 : decode cJxf58ca_floatToIntBits_5c35a 0 = .ok (.fload_n 0, 1) := by decide +kernel
theorem dJxf58ca_floatToIntBits_5c35a_1 : decode cJxf58ca_floatToIntBits_5c35a 1 = .ok (.invokestatic 59, 3) := by decide +kernel
theorem dJxf58ca_floatToIntBits_5c35a_4 : decode cJxf58ca_floatToIntBits_5c35a 4 = .ok (.ifCond .ne 8, 3) := by decide +kernel
theorem dJxf58ca_floatToIntBits_5c35a_7 : decode cJxf58ca_floatToIntBits_5c35a 7 = .ok (.fload_n 0, 1) := by decide +kernel
theorem dJxf58ca_floatToIntBits_5c35a_8 : decode cJxf58ca_floatToIntBits_5c35a 8 = .ok (.invokestatic 74, 3) := by decide +kernel
theorem dJxf58ca_floatToIntBits_5c35a_11 : decode cJxf58ca_floatToIntBits_5c35a 11 = .ok (.ireturn, 1) := by decide +kernel
theorem dJxf58ca_floatToIntBits_5c35a_12 : decode cJxf58ca_floatToIntBits_5c35a 12 = .ok (.ldc 77, 2) := by decide +kernel
theorem dJxf58ca_floatToIntBits_5c35a_14 : decode cJxf58ca_floatToIntBits_5c35a 14 = .ok (.ireturn, 1) := by decide +kernel
theorem dJ9_max_7cf53_0 : decode cJ9_max_7cf53 0 = .ok (.iload_n 0, 1) := by decide +kernel
theorem dJ9_max_7cf53_1 : decode cJ9_max_7cf53 1 = .ok (.iload_n 1, 1) := by decide +kernel
theorem dJ9_max_7cf53_2 : decode cJ9_max_7cf53 2 = .ok (.if_icmp .lt 7, 3) := by decide +kernel
theorem dJ9_max_7cf53_5 : decode cJ9_max_7cf53 5 = .ok (.iload_n 0, 1) := by decide +kernel
theorem dJ9_max_7cf53_6 : decode cJ9_max_7cf53 6 = .ok (.goto 4, 3) := by decide +kernel
theorem dJ9_max_7cf53_9 : decode cJ9_max_7cf53 9 = .ok (.iload_n 1, 1) := by decide +kernel
theorem dJ9_max_7cf53_10 : decode cJ9_max_7cf53 10 = .ok (.ireturn, 1) := by decide +kernel
theorem dJ9_min_7cf53_0 : decode cJ9_min_7cf53 0 = .ok (.iload_n 0, 1) := by decide +kernel
theorem dJ9_min_7cf53_1 : decode cJ9_min_7cf53 1 = .ok (.iload_n 1, 1) := by decide +kernel
theorem dJ9_min_7cf53_2 : decode cJ9_min_7cf53 2 = .ok (.if_icmp .gt 7, 3) := by decide +kernel
theorem dJ9_min_7cf53_5 : decode cJ9_min_7cf53 5 = .ok (.iload_n 0, 1) := by decide +kernel
theorem dJ9_min_7cf53_6 : decode cJ9_min_7cf53 6 = .ok (.goto 4, 3) := by decide +kernel
theorem dJ9_min_7cf53_9 : decode cJ9_min_7cf53 9 = .ok (.iload_n 1, 1) := by decide +kernel
theorem dJ9_min_7cf53_10 : decode cJ9_min_7cf53 10 = .ok (.ireturn, 1) := by decide +kernel
theorem dL_take_0 : decode cL_take 0 = .ok (.aload_n 3, 1) := by decide +kernel
theorem dL_take_1 : decode cL_take 1 = .ok (.iconst 0, 1) := by decide +kernel
theorem dL_take_2 : decode cL_take 2 = .ok (.aload_n 0, 1) := by decide +kernel
theorem dL_take_3 : decode cL_take 3 = .ok (.iload_n 1, 1) := by decide +kernel
theorem dL_take_4 : decode cL_take 4 = .ok (.iload_n 2, 1) := by decide +kernel
theorem dL_take_5 : decode cL_take 5 = .ok (.invokevirtual 7, 3) := by decide +kernel
theorem dL_take_8 : decode cL_take 8 = .ok (.i2l, 1) := by decide +kernel
theorem dL_take_9 : decode cL_take 9 = .ok (.lastore, 1) := by decide +kernel
theorem dL_take_10 : decode cL_take 10 = .ok (.goto 15, 3) := by decide +kernel
theorem dL_take_13 : decode cL_take 13 = .ok (.astore 4, 2) := by decide +kernel
theorem dL_take_15 : decode cL_take 15 = .ok (.iconst 1, 1) := by decide +kernel
theorem dL_take_16 : decode cL_take 16 = .ok (.ireturn, 1) := by decide +kernel
theorem dL_take_17 : decode cL_take 17 = .ok (.astore 4, 2) := by decide +kernel
theorem dL_take_19 : decode cL_take 19 = .ok (.iconst 2, 1) := by decide +kernel
theorem dL_take_20 : decode cL_take 20 = .ok (.ireturn, 1) := by decide +kernel
theorem dL_take_21 : decode cL_take 21 = .ok (.astore 4, 2) := by decide +kernel
theorem dL_take_23 : decode cL_take 23 = .ok (.iconst 3, 1) := by decide +kernel
theorem dL_take_24 : decode cL_take 24 = .ok (.ireturn, 1) := by decide +kernel
theorem dL_take_25 : decode cL_take 25 = .ok (.iconst 0, 1) := by decide +kernel
theorem dL_take_26 : decode cL_take 26 = .ok (.ireturn, 1) := by decide +kernel
theorem dL_takeSpan_0 : decode cL_takeSpan 0 = .ok (.aload 4, 2) := by decide +kernel
theorem dL_takeSpan_2 : decode cL_takeSpan 2 = .ok (.iconst 0, 1) := by decide +kernel
theorem dL_takeSpan_3 : decode cL_takeSpan 3 = .ok (.aload_n 0, 1) := by decide +kernel
theorem dL_takeSpan_4 : decode cL_takeSpan 4 = .ok (.iload_n 1, 1) := by decide +kernel
theorem dL_takeSpan_5 : decode cL_takeSpan 5 = .ok (.iload_n 2, 1) := by decide +kernel
theorem dL_takeSpan_6 : decode cL_takeSpan 6 = .ok (.iload_n 3, 1) := by decide +kernel
theorem dL_takeSpan_7 : decode cL_takeSpan 7 = .ok (.invokevirtual 19, 3) := by decide +kernel
theorem dL_takeSpan_10 : decode cL_takeSpan 10 = .ok (.i2l, 1) := by decide +kernel
theorem dL_takeSpan_11 : decode cL_takeSpan 11 = .ok (.lastore, 1) := by decide +kernel
theorem dL_takeSpan_12 : decode cL_takeSpan 12 = .ok (.goto 15, 3) := by decide +kernel
theorem dL_takeSpan_15 : decode cL_takeSpan 15 = .ok (.astore 5, 2) := by decide +kernel
theorem dL_takeSpan_17 : decode cL_takeSpan 17 = .ok (.iconst 1, 1) := by decide +kernel
theorem dL_takeSpan_18 : decode cL_takeSpan 18 = .ok (.ireturn, 1) := by decide +kernel
theorem dL_takeSpan_19 : decode cL_takeSpan 19 = .ok (.astore 5, 2) := by decide +kernel
theorem dL_takeSpan_21 : decode cL_takeSpan 21 = .ok (.iconst 2, 1) := by decide +kernel
theorem dL_takeSpan_22 : decode cL_takeSpan 22 = .ok (.ireturn, 1) := by decide +kernel
theorem dL_takeSpan_23 : decode cL_takeSpan 23 = .ok (.astore 5, 2) := by decide +kernel
theorem dL_takeSpan_25 : decode cL_takeSpan 25 = .ok (.iconst 3, 1) := by decide +kernel
theorem dL_takeSpan_26 : decode cL_takeSpan 26 = .ok (.ireturn, 1) := by decide +kernel
theorem dL_takeSpan_27 : decode cL_takeSpan 27 = .ok (.iconst 0, 1) := by decide +kernel
theorem dL_takeSpan_28 : decode cL_takeSpan 28 = .ok (.ireturn, 1) := by decide +kernel
theorem dL_wish_0 : decode cL_wish 0 = .ok (.aload 4, 2) := by decide +kernel
theorem dL_wish_2 : decode cL_wish 2 = .ok (.iconst 0, 1) := by decide +kernel
theorem dL_wish_3 : decode cL_wish 3 = .ok (.aload_n 0, 1) := by decide +kernel
theorem dL_wish_4 : decode cL_wish 4 = .ok (.iload_n 1, 1) := by decide +kernel
theorem dL_wish_5 : decode cL_wish 5 = .ok (.iload_n 2, 1) := by decide +kernel
theorem dL_wish_6 : decode cL_wish 6 = .ok (.iload_n 3, 1) := by decide +kernel
theorem dL_wish_7 : decode cL_wish 7 = .ok (.invokevirtual 23, 3) := by decide +kernel
theorem dL_wish_10 : decode cL_wish 10 = .ok (.i2l, 1) := by decide +kernel
theorem dL_wish_11 : decode cL_wish 11 = .ok (.lastore, 1) := by decide +kernel
theorem dL_wish_12 : decode cL_wish 12 = .ok (.goto 15, 3) := by decide +kernel
theorem dL_wish_15 : decode cL_wish 15 = .ok (.astore 5, 2) := by decide +kernel
theorem dL_wish_17 : decode cL_wish 17 = .ok (.iconst 1, 1) := by decide +kernel
theorem dL_wish_18 : decode cL_wish 18 = .ok (.ireturn, 1) := by decide +kernel
theorem dL_wish_19 : decode cL_wish 19 = .ok (.astore 5, 2) := by decide +kernel
theorem dL_wish_21 : decode cL_wish 21 = .ok (.iconst 2, 1) := by decide +kernel
theorem dL_wish_22 : decode cL_wish 22 = .ok (.ireturn, 1) := by decide +kernel
theorem dL_wish_23 : decode cL_wish 23 = .ok (.astore 5, 2) := by decide +kernel
theorem dL_wish_25 : decode cL_wish 25 = .ok (.iconst 3, 1) := by decide +kernel
theorem dL_wish_26 : decode cL_wish 26 = .ok (.ireturn, 1) := by decide +kernel
theorem dL_wish_27 : decode cL_wish 27 = .ok (.iconst 0, 1) := by decide +kernel
theorem dL_wish_28 : decode cL_wish 28 = .ok (.ireturn, 1) := by decide +kernel
theorem dL_unwish_0 : decode cL_unwish 0 = .ok (.aload_n 3, 1) := by decide +kernel
theorem dL_unwish_1 : decode cL_unwish 1 = .ok (.iconst 0, 1) := by decide +kernel
theorem dL_unwish_2 : decode cL_unwish 2 = .ok (.aload_n 0, 1) := by decide +kernel
theorem dL_unwish_3 : decode cL_unwish 3 = .ok (.iload_n 1, 1) := by decide +kernel
theorem dL_unwish_4 : decode cL_unwish 4 = .ok (.iload_n 2, 1) := by decide +kernel
theorem dL_unwish_5 : decode cL_unwish 5 = .ok (.invokevirtual 26, 3) := by decide +kernel
theorem dL_unwish_8 : decode cL_unwish 8 = .ok (.i2l, 1) := by decide +kernel
theorem dL_unwish_9 : decode cL_unwish 9 = .ok (.lastore, 1) := by decide +kernel
theorem dL_unwish_10 : decode cL_unwish 10 = .ok (.goto 11, 3) := by decide +kernel
theorem dL_unwish_13 : decode cL_unwish 13 = .ok (.astore 4, 2) := by decide +kernel
theorem dL_unwish_15 : decode cL_unwish 15 = .ok (.iconst 1, 1) := by decide +kernel
theorem dL_unwish_16 : decode cL_unwish 16 = .ok (.ireturn, 1) := by decide +kernel
theorem dL_unwish_17 : decode cL_unwish 17 = .ok (.astore 4, 2) := by decide +kernel
theorem dL_unwish_19 : decode cL_unwish 19 = .ok (.iconst 2, 1) := by decide +kernel
theorem dL_unwish_20 : decode cL_unwish 20 = .ok (.ireturn, 1) := by decide +kernel
theorem dL_unwish_21 : decode cL_unwish 21 = .ok (.iconst 0, 1) := by decide +kernel
theorem dL_unwish_22 : decode cL_unwish 22 = .ok (.ireturn, 1) := by decide +kernel
theorem dL_renew_0 : decode cL_renew 0 = .ok (.aload 4, 2) := by decide +kernel
theorem dL_renew_2 : decode cL_renew 2 = .ok (.iconst 0, 1) := by decide +kernel
theorem dL_renew_3 : decode cL_renew 3 = .ok (.aload_n 0, 1) := by decide +kernel
theorem dL_renew_4 : decode cL_renew 4 = .ok (.iload_n 1, 1) := by decide +kernel
theorem dL_renew_5 : decode cL_renew 5 = .ok (.iload_n 2, 1) := by decide +kernel
theorem dL_renew_6 : decode cL_renew 6 = .ok (.iload_n 3, 1) := by decide +kernel
theorem dL_renew_7 : decode cL_renew 7 = .ok (.invokevirtual 29, 3) := by decide +kernel
theorem dL_renew_10 : decode cL_renew 10 = .ok (.i2l, 1) := by decide +kernel
theorem dL_renew_11 : decode cL_renew 11 = .ok (.lastore, 1) := by decide +kernel
theorem dL_renew_12 : decode cL_renew 12 = .ok (.goto 15, 3) := by decide +kernel
theorem dL_renew_15 : decode cL_renew 15 = .ok (.astore 5, 2) := by decide +kernel
theorem dL_renew_17 : decode cL_renew 17 = .ok (.iconst 1, 1) := by decide +kernel
theorem dL_renew_18 : decode cL_renew 18 = .ok (.ireturn, 1) := by decide +kernel
theorem dL_renew_19 : decode cL_renew 19 = .ok (.astore 5, 2) := by decide +kernel
theorem dL_renew_21 : decode cL_renew 21 = .ok (.iconst 2, 1) := by decide +kernel
theorem dL_renew_22 : decode cL_renew 22 = .ok (.ireturn, 1) := by decide +kernel
theorem dL_renew_23 : decode cL_renew 23 = .ok (.astore 5, 2) := by decide +kernel
theorem dL_renew_25 : decode cL_renew 25 = .ok (.iconst 3, 1) := by decide +kernel
theorem dL_renew_26 : decode cL_renew 26 = .ok (.ireturn, 1) := by decide +kernel
theorem dL_renew_27 : decode cL_renew 27 = .ok (.iconst 0, 1) := by decide +kernel
theorem dL_renew_28 : decode cL_renew 28 = .ok (.ireturn, 1) := by decide +kernel
theorem dL_giveBack_0 : decode cL_giveBack 0 = .ok (.aload 4, 2) := by decide +kernel
theorem dL_giveBack_2 : decode cL_giveBack 2 = .ok (.iconst 0, 1) := by decide +kernel
theorem dL_giveBack_3 : decode cL_giveBack 3 = .ok (.aload_n 0, 1) := by decide +kernel
theorem dL_giveBack_4 : decode cL_giveBack 4 = .ok (.iload_n 1, 1) := by decide +kernel
theorem dL_giveBack_5 : decode cL_giveBack 5 = .ok (.iload_n 2, 1) := by decide +kernel
theorem dL_giveBack_6 : decode cL_giveBack 6 = .ok (.iload_n 3, 1) := by decide +kernel
theorem dL_giveBack_7 : decode cL_giveBack 7 = .ok (.invokevirtual 32, 3) := by decide +kernel
theorem dL_giveBack_10 : decode cL_giveBack 10 = .ok (.i2l, 1) := by decide +kernel
theorem dL_giveBack_11 : decode cL_giveBack 11 = .ok (.lastore, 1) := by decide +kernel
theorem dL_giveBack_12 : decode cL_giveBack 12 = .ok (.goto 11, 3) := by decide +kernel
theorem dL_giveBack_15 : decode cL_giveBack 15 = .ok (.astore 5, 2) := by decide +kernel
theorem dL_giveBack_17 : decode cL_giveBack 17 = .ok (.iconst 1, 1) := by decide +kernel
theorem dL_giveBack_18 : decode cL_giveBack 18 = .ok (.ireturn, 1) := by decide +kernel
theorem dL_giveBack_19 : decode cL_giveBack 19 = .ok (.astore 5, 2) := by decide +kernel
theorem dL_giveBack_21 : decode cL_giveBack 21 = .ok (.iconst 2, 1) := by decide +kernel
theorem dL_giveBack_22 : decode cL_giveBack 22 = .ok (.ireturn, 1) := by decide +kernel
theorem dL_giveBack_23 : decode cL_giveBack 23 = .ok (.iconst 0, 1) := by decide +kernel
theorem dL_giveBack_24 : decode cL_giveBack 24 = .ok (.ireturn, 1) := by decide +kernel
theorem dL_pass_0 : decode cL_pass 0 = .ok (.aload_n 2, 1) := by decide +kernel
theorem dL_pass_1 : decode cL_pass 1 = .ok (.iconst 0, 1) := by decide +kernel
theorem dL_pass_2 : decode cL_pass 2 = .ok (.aload_n 0, 1) := by decide +kernel
theorem dL_pass_3 : decode cL_pass 3 = .ok (.iload_n 1, 1) := by decide +kernel
theorem dL_pass_4 : decode cL_pass 4 = .ok (.invokevirtual 35, 3) := by decide +kernel
theorem dL_pass_7 : decode cL_pass 7 = .ok (.i2l, 1) := by decide +kernel
theorem dL_pass_8 : decode cL_pass 8 = .ok (.lastore, 1) := by decide +kernel
theorem dL_pass_9 : decode cL_pass 9 = .ok (.goto 9, 3) := by decide +kernel
theorem dL_pass_12 : decode cL_pass 12 = .ok (.astore_n 3, 1) := by decide +kernel
theorem dL_pass_13 : decode cL_pass 13 = .ok (.iconst 1, 1) := by decide +kernel
theorem dL_pass_14 : decode cL_pass 14 = .ok (.ireturn, 1) := by decide +kernel
theorem dL_pass_15 : decode cL_pass 15 = .ok (.astore_n 3, 1) := by decide +kernel
theorem dL_pass_16 : decode cL_pass 16 = .ok (.iconst 2, 1) := by decide +kernel
theorem dL_pass_17 : decode cL_pass 17 = .ok (.ireturn, 1) := by decide +kernel
theorem dL_pass_18 : decode cL_pass 18 = .ok (.iconst 0, 1) := by decide +kernel
theorem dL_pass_19 : decode cL_pass 19 = .ok (.ireturn, 1) := by decide +kernel
theorem dL_set_0 : decode cL_set 0 = .ok (.aload_n 3, 1) := by decide +kernel
theorem dL_set_1 : decode cL_set 1 = .ok (.iconst 0, 1) := by decide +kernel
theorem dL_set_2 : decode cL_set 2 = .ok (.aload_n 0, 1) := by decide +kernel
theorem dL_set_3 : decode cL_set 3 = .ok (.iload_n 1, 1) := by decide +kernel
theorem dL_set_4 : decode cL_set 4 = .ok (.iload_n 2, 1) := by decide +kernel
theorem dL_set_5 : decode cL_set 5 = .ok (.invokevirtual 39, 3) := by decide +kernel
theorem dL_set_8 : decode cL_set 8 = .ok (.i2l, 1) := by decide +kernel
theorem dL_set_9 : decode cL_set 9 = .ok (.lastore, 1) := by decide +kernel
theorem dL_set_10 : decode cL_set 10 = .ok (.goto 15, 3) := by decide +kernel
theorem dL_set_13 : decode cL_set 13 = .ok (.astore 4, 2) := by decide +kernel
theorem dL_set_15 : decode cL_set 15 = .ok (.iconst 1, 1) := by decide +kernel
theorem dL_set_16 : decode cL_set 16 = .ok (.ireturn, 1) := by decide +kernel
theorem dL_set_17 : decode cL_set 17 = .ok (.astore 4, 2) := by decide +kernel
theorem dL_set_19 : decode cL_set 19 = .ok (.iconst 2, 1) := by decide +kernel
theorem dL_set_20 : decode cL_set 20 = .ok (.ireturn, 1) := by decide +kernel
theorem dL_set_21 : decode cL_set 21 = .ok (.astore 4, 2) := by decide +kernel
theorem dL_set_23 : decode cL_set 23 = .ok (.iconst 3, 1) := by decide +kernel
theorem dL_set_24 : decode cL_set 24 = .ok (.ireturn, 1) := by decide +kernel
theorem dL_set_25 : decode cL_set 25 = .ok (.iconst 0, 1) := by decide +kernel
theorem dL_set_26 : decode cL_set 26 = .ok (.ireturn, 1) := by decide +kernel
theorem dL_append_0 : decode cL_append 0 = .ok (.aload_n 2, 1) := by decide +kernel
theorem dL_append_1 : decode cL_append 1 = .ok (.iconst 0, 1) := by decide +kernel
theorem dL_append_2 : decode cL_append 2 = .ok (.aload_n 0, 1) := by decide +kernel
theorem dL_append_3 : decode cL_append 3 = .ok (.iload_n 1, 1) := by decide +kernel
theorem dL_append_4 : decode cL_append 4 = .ok (.invokevirtual 42, 3) := by decide +kernel
theorem dL_append_7 : decode cL_append 7 = .ok (.i2l, 1) := by decide +kernel
theorem dL_append_8 : decode cL_append 8 = .ok (.lastore, 1) := by decide +kernel
theorem dL_append_9 : decode cL_append 9 = .ok (.goto 9, 3) := by decide +kernel
theorem dL_append_12 : decode cL_append 12 = .ok (.astore_n 3, 1) := by decide +kernel
theorem dL_append_13 : decode cL_append 13 = .ok (.iconst 1, 1) := by decide +kernel
theorem dL_append_14 : decode cL_append 14 = .ok (.ireturn, 1) := by decide +kernel
theorem dL_append_15 : decode cL_append 15 = .ok (.astore_n 3, 1) := by decide +kernel
theorem dL_append_16 : decode cL_append 16 = .ok (.iconst 2, 1) := by decide +kernel
theorem dL_append_17 : decode cL_append 17 = .ok (.ireturn, 1) := by decide +kernel
theorem dL_append_18 : decode cL_append 18 = .ok (.iconst 0, 1) := by decide +kernel
theorem dL_append_19 : decode cL_append 19 = .ok (.ireturn, 1) := by decide +kernel
theorem dL_run_0 : decode cL_run 0 = .ok (.aload_n 1, 1) := by decide +kernel
theorem dL_run_1 : decode cL_run 1 = .ok (.iconst 0, 1) := by decide +kernel
theorem dL_run_2 : decode cL_run 2 = .ok (.aload_n 0, 1) := by decide +kernel
theorem dL_run_3 : decode cL_run 3 = .ok (.invokevirtual 45, 3) := by decide +kernel
theorem dL_run_6 : decode cL_run 6 = .ok (.i2l, 1) := by decide +kernel
theorem dL_run_7 : decode cL_run 7 = .ok (.lastore, 1) := by decide +kernel
theorem dL_run_8 : decode cL_run 8 = .ok (.goto 6, 3) := by decide +kernel
theorem dL_run_11 : decode cL_run 11 = .ok (.astore_n 2, 1) := by decide +kernel
theorem dL_run_12 : decode cL_run 12 = .ok (.iconst 1, 1) := by decide +kernel
theorem dL_run_13 : decode cL_run 13 = .ok (.ireturn, 1) := by decide +kernel
theorem dL_run_14 : decode cL_run 14 = .ok (.iconst 0, 1) := by decide +kernel
theorem dL_run_15 : decode cL_run 15 = .ok (.ireturn, 1) := by decide +kernel
theorem dL_undo_0 : decode cL_undo 0 = .ok (.aload_n 1, 1) := by decide +kernel
theorem dL_undo_1 : decode cL_undo 1 = .ok (.iconst 0, 1) := by decide +kernel
theorem dL_undo_2 : decode cL_undo 2 = .ok (.aload_n 0, 1) := by decide +kernel
theorem dL_undo_3 : decode cL_undo 3 = .ok (.invokevirtual 49, 3) := by decide +kernel
theorem dL_undo_6 : decode cL_undo 6 = .ok (.i2l, 1) := by decide +kernel
theorem dL_undo_7 : decode cL_undo 7 = .ok (.lastore, 1) := by decide +kernel
theorem dL_undo_8 : decode cL_undo 8 = .ok (.goto 6, 3) := by decide +kernel
theorem dL_undo_11 : decode cL_undo 11 = .ok (.astore_n 2, 1) := by decide +kernel
theorem dL_undo_12 : decode cL_undo 12 = .ok (.iconst 1, 1) := by decide +kernel
theorem dL_undo_13 : decode cL_undo 13 = .ok (.ireturn, 1) := by decide +kernel
theorem dL_undo_14 : decode cL_undo 14 = .ok (.iconst 0, 1) := by decide +kernel
theorem dL_undo_15 : decode cL_undo 15 = .ok (.ireturn, 1) := by decide +kernel
theorem dL_number_0 : decode cL_number 0 = .ok (.aload_n 3, 1) := by decide +kernel
theorem dL_number_1 : decode cL_number 1 = .ok (.iconst 0, 1) := by decide +kernel
theorem dL_number_2 : decode cL_number 2 = .ok (.aload_n 0, 1) := by decide +kernel
theorem dL_number_3 : decode cL_number 3 = .ok (.iload_n 1, 1) := by decide +kernel
theorem dL_number_4 : decode cL_number 4 = .ok (.iload_n 2, 1) := by decide +kernel
theorem dL_number_5 : decode cL_number 5 = .ok (.invokevirtual 52, 3) := by decide +kernel
theorem dL_number_8 : decode cL_number 8 = .ok (.i2l, 1) := by decide +kernel
theorem dL_number_9 : decode cL_number 9 = .ok (.lastore, 1) := by decide +kernel
theorem dL_number_10 : decode cL_number 10 = .ok (.goto 11, 3) := by decide +kernel
theorem dL_number_13 : decode cL_number 13 = .ok (.astore 4, 2) := by decide +kernel
theorem dL_number_15 : decode cL_number 15 = .ok (.iconst 1, 1) := by decide +kernel
theorem dL_number_16 : decode cL_number 16 = .ok (.ireturn, 1) := by decide +kernel
theorem dL_number_17 : decode cL_number 17 = .ok (.astore 4, 2) := by decide +kernel
theorem dL_number_19 : decode cL_number 19 = .ok (.iconst 2, 1) := by decide +kernel
theorem dL_number_20 : decode cL_number 20 = .ok (.ireturn, 1) := by decide +kernel
theorem dL_number_21 : decode cL_number 21 = .ok (.iconst 0, 1) := by decide +kernel
theorem dL_number_22 : decode cL_number 22 = .ok (.ireturn, 1) := by decide +kernel
theorem dL_holder_0 : decode cL_holder 0 = .ok (.aload_n 3, 1) := by decide +kernel
theorem dL_holder_1 : decode cL_holder 1 = .ok (.iconst 0, 1) := by decide +kernel
theorem dL_holder_2 : decode cL_holder 2 = .ok (.aload_n 0, 1) := by decide +kernel
theorem dL_holder_3 : decode cL_holder 3 = .ok (.iload_n 1, 1) := by decide +kernel
theorem dL_holder_4 : decode cL_holder 4 = .ok (.iload_n 2, 1) := by decide +kernel
theorem dL_holder_5 : decode cL_holder 5 = .ok (.invokevirtual 55, 3) := by decide +kernel
theorem dL_holder_8 : decode cL_holder 8 = .ok (.i2l, 1) := by decide +kernel
theorem dL_holder_9 : decode cL_holder 9 = .ok (.lastore, 1) := by decide +kernel
theorem dL_holder_10 : decode cL_holder 10 = .ok (.goto 11, 3) := by decide +kernel
theorem dL_holder_13 : decode cL_holder 13 = .ok (.astore 4, 2) := by decide +kernel
theorem dL_holder_15 : decode cL_holder 15 = .ok (.iconst 1, 1) := by decide +kernel
theorem dL_holder_16 : decode cL_holder 16 = .ok (.ireturn, 1) := by decide +kernel
theorem dL_holder_17 : decode cL_holder 17 = .ok (.astore 4, 2) := by decide +kernel
theorem dL_holder_19 : decode cL_holder 19 = .ok (.iconst 2, 1) := by decide +kernel
theorem dL_holder_20 : decode cL_holder 20 = .ok (.ireturn, 1) := by decide +kernel
theorem dL_holder_21 : decode cL_holder 21 = .ok (.iconst 0, 1) := by decide +kernel
theorem dL_holder_22 : decode cL_holder 22 = .ok (.ireturn, 1) := by decide +kernel
theorem dL_span_0 : decode cL_span 0 = .ok (.aload_n 3, 1) := by decide +kernel
theorem dL_span_1 : decode cL_span 1 = .ok (.iconst 0, 1) := by decide +kernel
theorem dL_span_2 : decode cL_span 2 = .ok (.aload_n 0, 1) := by decide +kernel
theorem dL_span_3 : decode cL_span 3 = .ok (.iload_n 1, 1) := by decide +kernel
theorem dL_span_4 : decode cL_span 4 = .ok (.iload_n 2, 1) := by decide +kernel
theorem dL_span_5 : decode cL_span 5 = .ok (.invokevirtual 58, 3) := by decide +kernel
theorem dL_span_8 : decode cL_span 8 = .ok (.i2l, 1) := by decide +kernel
theorem dL_span_9 : decode cL_span 9 = .ok (.lastore, 1) := by decide +kernel
theorem dL_span_10 : decode cL_span 10 = .ok (.goto 7, 3) := by decide +kernel
theorem dL_span_13 : decode cL_span 13 = .ok (.astore 4, 2) := by decide +kernel
theorem dL_span_15 : decode cL_span 15 = .ok (.iconst 1, 1) := by decide +kernel
theorem dL_span_16 : decode cL_span 16 = .ok (.ireturn, 1) := by decide +kernel
theorem dL_span_17 : decode cL_span 17 = .ok (.iconst 0, 1) := by decide +kernel
theorem dL_span_18 : decode cL_span 18 = .ok (.ireturn, 1) := by decide +kernel
theorem dL_count_0 : decode cL_count 0 = .ok (.aload_n 2, 1) := by decide +kernel
theorem dL_count_1 : decode cL_count 1 = .ok (.iconst 0, 1) := by decide +kernel
theorem dL_count_2 : decode cL_count 2 = .ok (.aload_n 0, 1) := by decide +kernel
theorem dL_count_3 : decode cL_count 3 = .ok (.iload_n 1, 1) := by decide +kernel
theorem dL_count_4 : decode cL_count 4 = .ok (.invokevirtual 61, 3) := by decide +kernel
theorem dL_count_7 : decode cL_count 7 = .ok (.i2l, 1) := by decide +kernel
theorem dL_count_8 : decode cL_count 8 = .ok (.lastore, 1) := by decide +kernel
theorem dL_count_9 : decode cL_count 9 = .ok (.goto 6, 3) := by decide +kernel
theorem dL_count_12 : decode cL_count 12 = .ok (.astore_n 3, 1) := by decide +kernel
theorem dL_count_13 : decode cL_count 13 = .ok (.iconst 1, 1) := by decide +kernel
theorem dL_count_14 : decode cL_count 14 = .ok (.ireturn, 1) := by decide +kernel
theorem dL_count_15 : decode cL_count 15 = .ok (.iconst 0, 1) := by decide +kernel
theorem dL_count_16 : decode cL_count 16 = .ok (.ireturn, 1) := by decide +kernel
theorem dL_setting_0 : decode cL_setting 0 = .ok (.aload_n 2, 1) := by decide +kernel
theorem dL_setting_1 : decode cL_setting 1 = .ok (.iconst 0, 1) := by decide +kernel
theorem dL_setting_2 : decode cL_setting 2 = .ok (.aload_n 0, 1) := by decide +kernel
theorem dL_setting_3 : decode cL_setting 3 = .ok (.iload_n 1, 1) := by decide +kernel
theorem dL_setting_4 : decode cL_setting 4 = .ok (.invokevirtual 64, 3) := by decide +kernel
theorem dL_setting_7 : decode cL_setting 7 = .ok (.i2l, 1) := by decide +kernel
theorem dL_setting_8 : decode cL_setting 8 = .ok (.lastore, 1) := by decide +kernel
theorem dL_setting_9 : decode cL_setting 9 = .ok (.goto 6, 3) := by decide +kernel
theorem dL_setting_12 : decode cL_setting 12 = .ok (.astore_n 3, 1) := by decide +kernel
theorem dL_setting_13 : decode cL_setting 13 = .ok (.iconst 1, 1) := by decide +kernel
theorem dL_setting_14 : decode cL_setting 14 = .ok (.ireturn, 1) := by decide +kernel
theorem dL_setting_15 : decode cL_setting 15 = .ok (.iconst 0, 1) := by decide +kernel
theorem dL_setting_16 : decode cL_setting 16 = .ok (.ireturn, 1) := by decide +kernel
theorem dL_whoAfter_0 : decode cL_whoAfter 0 = .ok (.aload_n 3, 1) := by decide +kernel
theorem dL_whoAfter_1 : decode cL_whoAfter 1 = .ok (.iconst 0, 1) := by decide +kernel
theorem dL_whoAfter_2 : decode cL_whoAfter 2 = .ok (.aload_n 0, 1) := by decide +kernel
theorem dL_whoAfter_3 : decode cL_whoAfter 3 = .ok (.iload_n 1, 1) := by decide +kernel
theorem dL_whoAfter_4 : decode cL_whoAfter 4 = .ok (.iload_n 2, 1) := by decide +kernel
theorem dL_whoAfter_5 : decode cL_whoAfter 5 = .ok (.invokevirtual 67, 3) := by decide +kernel
theorem dL_whoAfter_8 : decode cL_whoAfter 8 = .ok (.i2l, 1) := by decide +kernel
theorem dL_whoAfter_9 : decode cL_whoAfter 9 = .ok (.lastore, 1) := by decide +kernel
theorem dL_whoAfter_10 : decode cL_whoAfter 10 = .ok (.goto 11, 3) := by decide +kernel
theorem dL_whoAfter_13 : decode cL_whoAfter 13 = .ok (.astore 4, 2) := by decide +kernel
theorem dL_whoAfter_15 : decode cL_whoAfter 15 = .ok (.iconst 1, 1) := by decide +kernel
theorem dL_whoAfter_16 : decode cL_whoAfter 16 = .ok (.ireturn, 1) := by decide +kernel
theorem dL_whoAfter_17 : decode cL_whoAfter 17 = .ok (.astore 4, 2) := by decide +kernel
theorem dL_whoAfter_19 : decode cL_whoAfter 19 = .ok (.iconst 2, 1) := by decide +kernel
theorem dL_whoAfter_20 : decode cL_whoAfter 20 = .ok (.ireturn, 1) := by decide +kernel
theorem dL_whoAfter_21 : decode cL_whoAfter 21 = .ok (.iconst 0, 1) := by decide +kernel
theorem dL_whoAfter_22 : decode cL_whoAfter 22 = .ok (.ireturn, 1) := by decide +kernel
theorem dL_freeIn_0 : decode cL_freeIn 0 = .ok (.aload_n 2, 1) := by decide +kernel
theorem dL_freeIn_1 : decode cL_freeIn 1 = .ok (.iconst 0, 1) := by decide +kernel
theorem dL_freeIn_2 : decode cL_freeIn 2 = .ok (.aload_n 0, 1) := by decide +kernel
theorem dL_freeIn_3 : decode cL_freeIn 3 = .ok (.iload_n 1, 1) := by decide +kernel
theorem dL_freeIn_4 : decode cL_freeIn 4 = .ok (.invokevirtual 70, 3) := by decide +kernel
theorem dL_freeIn_7 : decode cL_freeIn 7 = .ok (.i2l, 1) := by decide +kernel
theorem dL_freeIn_8 : decode cL_freeIn 8 = .ok (.lastore, 1) := by decide +kernel
theorem dL_freeIn_9 : decode cL_freeIn 9 = .ok (.goto 6, 3) := by decide +kernel
theorem dL_freeIn_12 : decode cL_freeIn 12 = .ok (.astore_n 3, 1) := by decide +kernel
theorem dL_freeIn_13 : decode cL_freeIn 13 = .ok (.iconst 1, 1) := by decide +kernel
theorem dL_freeIn_14 : decode cL_freeIn 14 = .ok (.ireturn, 1) := by decide +kernel
theorem dL_freeIn_15 : decode cL_freeIn 15 = .ok (.iconst 0, 1) := by decide +kernel
theorem dL_freeIn_16 : decode cL_freeIn 16 = .ok (.ireturn, 1) := by decide +kernel
theorem dL_wishedIn_0 : decode cL_wishedIn 0 = .ok (.aload_n 3, 1) := by decide +kernel
theorem dL_wishedIn_1 : decode cL_wishedIn 1 = .ok (.iconst 0, 1) := by decide +kernel
theorem dL_wishedIn_2 : decode cL_wishedIn 2 = .ok (.aload_n 0, 1) := by decide +kernel
theorem dL_wishedIn_3 : decode cL_wishedIn 3 = .ok (.iload_n 1, 1) := by decide +kernel
theorem dL_wishedIn_4 : decode cL_wishedIn 4 = .ok (.iload_n 2, 1) := by decide +kernel
theorem dL_wishedIn_5 : decode cL_wishedIn 5 = .ok (.invokevirtual 73, 3) := by decide +kernel
theorem dL_wishedIn_8 : decode cL_wishedIn 8 = .ok (.i2l, 1) := by decide +kernel
theorem dL_wishedIn_9 : decode cL_wishedIn 9 = .ok (.lastore, 1) := by decide +kernel
theorem dL_wishedIn_10 : decode cL_wishedIn 10 = .ok (.goto 7, 3) := by decide +kernel
theorem dL_wishedIn_13 : decode cL_wishedIn 13 = .ok (.astore 4, 2) := by decide +kernel
theorem dL_wishedIn_15 : decode cL_wishedIn 15 = .ok (.iconst 1, 1) := by decide +kernel
theorem dL_wishedIn_16 : decode cL_wishedIn 16 = .ok (.ireturn, 1) := by decide +kernel
theorem dL_wishedIn_17 : decode cL_wishedIn 17 = .ok (.iconst 0, 1) := by decide +kernel
theorem dL_wishedIn_18 : decode cL_wishedIn 18 = .ok (.ireturn, 1) := by decide +kernel
theorem dL_law_0 : decode cL_law 0 = .ok (.new 8, 3) := by decide +kernel
theorem dL_law_3 : decode cL_law 3 = .ok (.dup, 1) := by decide +kernel
theorem dL_law_4 : decode cL_law 4 = .ok (.invokespecial 76, 3) := by decide +kernel
theorem dL_law_7 : decode cL_law 7 = .ok (.astore_n 1, 1) := by decide +kernel
theorem dL_law_8 : decode cL_law 8 = .ok (.new 77, 3) := by decide +kernel
theorem dL_law_11 : decode cL_law 11 = .ok (.dup, 1) := by decide +kernel
theorem dL_law_12 : decode cL_law 12 = .ok (.invokespecial 79, 3) := by decide +kernel
theorem dL_law_15 : decode cL_law 15 = .ok (.astore_n 2, 1) := by decide +kernel
theorem dL_law_16 : decode cL_law 16 = .ok (.iconst 1, 1) := by decide +kernel
theorem dL_law_17 : decode cL_law 17 = .ok (.newarray .long, 2) := by decide +kernel
theorem dL_law_19 : decode cL_law 19 = .ok (.astore_n 3, 1) := by decide +kernel
theorem dL_law_20 : decode cL_law 20 = .ok (.iconst 0, 1) := by decide +kernel
theorem dL_law_21 : decode cL_law 21 = .ok (.istore 4, 2) := by decide +kernel
theorem dL_law_23 : decode cL_law 23 = .ok (.iload 4, 2) := by decide +kernel
theorem dL_law_25 : decode cL_law 25 = .ok (.aload_n 0, 1) := by decide +kernel
theorem dL_law_26 : decode cL_law 26 = .ok (.arraylength, 1) := by decide +kernel
theorem dL_law_27 : decode cL_law 27 = .ok (.iconst 4, 1) := by decide +kernel
theorem dL_law_28 : decode cL_law 28 = .ok (.isub, 1) := by decide +kernel
theorem dL_law_29 : decode cL_law 29 = .ok (.if_icmp .gt 1468, 3) := by decide +kernel
theorem dL_law_32 : decode cL_law 32 = .ok (.aload_n 0, 1) := by decide +kernel
theorem dL_law_33 : decode cL_law 33 = .ok (.iload 4, 2) := by decide +kernel
theorem dL_law_35 : decode cL_law 35 = .ok (.iaload, 1) := by decide +kernel
theorem dL_law_36 : decode cL_law 36 = .ok (.bipush 31, 2) := by decide +kernel
theorem dL_law_38 : decode cL_law 38 = .ok (.iand, 1) := by decide +kernel
theorem dL_law_39 : decode cL_law 39 = .ok (.tableswitch 1452 0 24 #[113, 181, 261, 341, 409, 489, 569, 625, 693, 749, 762, 775, 819, 863, 931, 999, 1067, 1123, 1179, 1247, 1303, 1371, 1384, 1397, 1438], 113) := by decide +kernel
theorem dL_law_152 : decode cL_law 152 = .ok (.aload_n 1, 1) := by decide +kernel
theorem dL_law_153 : decode cL_law 153 = .ok (.aload_n 0, 1) := by decide +kernel
theorem dL_law_154 : decode cL_law 154 = .ok (.iload 4, 2) := by decide +kernel
theorem dL_law_156 : decode cL_law 156 = .ok (.iconst 1, 1) := by decide +kernel
theorem dL_law_157 : decode cL_law 157 = .ok (.iadd, 1) := by decide +kernel
theorem dL_law_158 : decode cL_law 158 = .ok (.iaload, 1) := by decide +kernel
theorem dL_law_159 : decode cL_law 159 = .ok (.aload_n 0, 1) := by decide +kernel
theorem dL_law_160 : decode cL_law 160 = .ok (.iload 4, 2) := by decide +kernel
theorem dL_law_162 : decode cL_law 162 = .ok (.iconst 2, 1) := by decide +kernel
theorem dL_law_163 : decode cL_law 163 = .ok (.iadd, 1) := by decide +kernel
theorem dL_law_164 : decode cL_law 164 = .ok (.iaload, 1) := by decide +kernel
theorem dL_law_165 : decode cL_law 165 = .ok (.aload_n 3, 1) := by decide +kernel
theorem dL_law_166 : decode cL_law 166 = .ok (.invokestatic 80, 3) := by decide +kernel
theorem dL_law_169 : decode cL_law 169 = .ok (.istore 5, 2) := by decide +kernel
theorem dL_law_171 : decode cL_law 171 = .ok (.aload_n 2, 1) := by decide +kernel
theorem dL_law_172 : decode cL_law 172 = .ok (.aload_n 0, 1) := by decide +kernel
theorem dL_law_173 : decode cL_law 173 = .ok (.iload 4, 2) := by decide +kernel
theorem dL_law_175 : decode cL_law 175 = .ok (.iconst 1, 1) := by decide +kernel
theorem dL_law_176 : decode cL_law 176 = .ok (.iadd, 1) := by decide +kernel
theorem dL_law_177 : decode cL_law 177 = .ok (.iaload, 1) := by decide +kernel
theorem dL_law_178 : decode cL_law 178 = .ok (.aload_n 0, 1) := by decide +kernel
theorem dL_law_179 : decode cL_law 179 = .ok (.iload 4, 2) := by decide +kernel
theorem dL_law_181 : decode cL_law 181 = .ok (.iconst 2, 1) := by decide +kernel
theorem dL_law_182 : decode cL_law 182 = .ok (.iadd, 1) := by decide +kernel
theorem dL_law_183 : decode cL_law 183 = .ok (.iaload, 1) := by decide +kernel
theorem dL_law_184 : decode cL_law 184 = .ok (.invokevirtual 85, 3) := by decide +kernel
theorem dL_law_187 : decode cL_law 187 = .ok (.istore 6, 2) := by decide +kernel
theorem dL_law_189 : decode cL_law 189 = .ok (.aload_n 2, 1) := by decide +kernel
theorem dL_law_190 : decode cL_law 190 = .ok (.invokevirtual 86, 3) := by decide +kernel
theorem dL_law_193 : decode cL_law 193 = .ok (.iload 5, 2) := by decide +kernel
theorem dL_law_195 : decode cL_law 195 = .ok (.if_icmp .eq 5, 3) := by decide +kernel
theorem dL_law_198 : decode cL_law 198 = .ok (.iconst 0, 1) := by decide +kernel
theorem dL_law_199 : decode cL_law 199 = .ok (.ireturn, 1) := by decide +kernel
theorem dL_law_200 : decode cL_law 200 = .ok (.iload 5, 2) := by decide +kernel
theorem dL_law_202 : decode cL_law 202 = .ok (.ifCond .ne 15, 3) := by decide +kernel
theorem dL_law_205 : decode cL_law 205 = .ok (.aload_n 3, 1) := by decide +kernel
theorem dL_law_206 : decode cL_law 206 = .ok (.iconst 0, 1) := by decide +kernel
theorem dL_law_207 : decode cL_law 207 = .ok (.laload, 1) := by decide +kernel
theorem dL_law_208 : decode cL_law 208 = .ok (.iload 6, 2) := by decide +kernel
theorem dL_law_210 : decode cL_law 210 = .ok (.i2l, 1) := by decide +kernel
theorem dL_law_211 : decode cL_law 211 = .ok (.lcmp, 1) := by decide +kernel
theorem dL_law_212 : decode cL_law 212 = .ok (.ifCond .eq 5, 3) := by decide +kernel
theorem dL_law_215 : decode cL_law 215 = .ok (.iconst 0, 1) := by decide +kernel
theorem dL_law_216 : decode cL_law 216 = .ok (.ireturn, 1) := by decide +kernel
theorem dL_law_217 : decode cL_law 217 = .ok (.goto 1274, 3) := by decide +kernel
theorem dL_law_220 : decode cL_law 220 = .ok (.aload_n 1, 1) := by decide +kernel
theorem dL_law_221 : decode cL_law 221 = .ok (.aload_n 0, 1) := by decide +kernel
theorem dL_law_222 : decode cL_law 222 = .ok (.iload 4, 2) := by decide +kernel
theorem dL_law_224 : decode cL_law 224 = .ok (.iconst 1, 1) := by decide +kernel
theorem dL_law_225 : decode cL_law 225 = .ok (.iadd, 1) := by decide +kernel
theorem dL_law_226 : decode cL_law 226 = .ok (.iaload, 1) := by decide +kernel
theorem dL_law_227 : decode cL_law 227 = .ok (.aload_n 0, 1) := by decide +kernel
theorem dL_law_228 : decode cL_law 228 = .ok (.iload 4, 2) := by decide +kernel
theorem dL_law_230 : decode cL_law 230 = .ok (.iconst 2, 1) := by decide +kernel
theorem dL_law_231 : decode cL_law 231 = .ok (.iadd, 1) := by decide +kernel
theorem dL_law_232 : decode cL_law 232 = .ok (.iaload, 1) := by decide +kernel
theorem dL_law_233 : decode cL_law 233 = .ok (.aload_n 0, 1) := by decide +kernel
theorem dL_law_234 : decode cL_law 234 = .ok (.iload 4, 2) := by decide +kernel
theorem dL_law_236 : decode cL_law 236 = .ok (.iconst 3, 1) := by decide +kernel
theorem dL_law_237 : decode cL_law 237 = .ok (.iadd, 1) := by decide +kernel
theorem dL_law_238 : decode cL_law 238 = .ok (.iaload, 1) := by decide +kernel
theorem dL_law_239 : decode cL_law 239 = .ok (.aload_n 3, 1) := by decide +kernel
theorem dL_law_240 : decode cL_law 240 = .ok (.invokestatic 89, 3) := by decide +kernel
theorem dL_law_243 : decode cL_law 243 = .ok (.istore 5, 2) := by decide +kernel
theorem dL_law_245 : decode cL_law 245 = .ok (.aload_n 2, 1) := by decide +kernel
theorem dL_law_246 : decode cL_law 246 = .ok (.aload_n 0, 1) := by decide +kernel
theorem dL_law_247 : decode cL_law 247 = .ok (.iload 4, 2) := by decide +kernel
theorem dL_law_249 : decode cL_law 249 = .ok (.iconst 1, 1) := by decide +kernel
theorem dL_law_250 : decode cL_law 250 = .ok (.iadd, 1) := by decide +kernel
theorem dL_law_251 : decode cL_law 251 = .ok (.iaload, 1) := by decide +kernel
theorem dL_law_252 : decode cL_law 252 = .ok (.aload_n 0, 1) := by decide +kernel
theorem dL_law_253 : decode cL_law 253 = .ok (.iload 4, 2) := by decide +kernel
theorem dL_law_255 : decode cL_law 255 = .ok (.iconst 2, 1) := by decide +kernel
theorem dL_law_256 : decode cL_law 256 = .ok (.iadd, 1) := by decide +kernel
theorem dL_law_257 : decode cL_law 257 = .ok (.iaload, 1) := by decide +kernel
theorem dL_law_258 : decode cL_law 258 = .ok (.aload_n 0, 1) := by decide +kernel
theorem dL_law_259 : decode cL_law 259 = .ok (.iload 4, 2) := by decide +kernel
theorem dL_law_261 : decode cL_law 261 = .ok (.iconst 3, 1) := by decide +kernel
theorem dL_law_262 : decode cL_law 262 = .ok (.iadd, 1) := by decide +kernel
theorem dL_law_263 : decode cL_law 263 = .ok (.iaload, 1) := by decide +kernel
theorem dL_law_264 : decode cL_law 264 = .ok (.invokevirtual 92, 3) := by decide +kernel
theorem dL_law_267 : decode cL_law 267 = .ok (.istore 6, 2) := by decide +kernel
theorem dL_law_269 : decode cL_law 269 = .ok (.aload_n 2, 1) := by decide +kernel
theorem dL_law_270 : decode cL_law 270 = .ok (.invokevirtual 86, 3) := by decide +kernel
theorem dL_law_273 : decode cL_law 273 = .ok (.iload 5, 2) := by decide +kernel
theorem dL_law_275 : decode cL_law 275 = .ok (.if_icmp .eq 5, 3) := by decide +kernel
theorem dL_law_278 : decode cL_law 278 = .ok (.iconst 0, 1) := by decide +kernel
theorem dL_law_279 : decode cL_law 279 = .ok (.ireturn, 1) := by decide +kernel
theorem dL_law_280 : decode cL_law 280 = .ok (.iload 5, 2) := by decide +kernel
theorem dL_law_282 : decode cL_law 282 = .ok (.ifCond .ne 15, 3) := by decide +kernel
theorem dL_law_285 : decode cL_law 285 = .ok (.aload_n 3, 1) := by decide +kernel
theorem dL_law_286 : decode cL_law 286 = .ok (.iconst 0, 1) := by decide +kernel
theorem dL_law_287 : decode cL_law 287 = .ok (.laload, 1) := by decide +kernel
theorem dL_law_288 : decode cL_law 288 = .ok (.iload 6, 2) := by decide +kernel
theorem dL_law_290 : decode cL_law 290 = .ok (.i2l, 1) := by decide +kernel
theorem dL_law_291 : decode cL_law 291 = .ok (.lcmp, 1) := by decide +kernel
theorem dL_law_292 : decode cL_law 292 = .ok (.ifCond .eq 5, 3) := by decide +kernel
theorem dL_law_295 : decode cL_law 295 = .ok (.iconst 0, 1) := by decide +kernel
theorem dL_law_296 : decode cL_law 296 = .ok (.ireturn, 1) := by decide +kernel
theorem dL_law_297 : decode cL_law 297 = .ok (.goto 1194, 3) := by decide +kernel
theorem dL_law_300 : decode cL_law 300 = .ok (.aload_n 1, 1) := by decide +kernel
theorem dL_law_301 : decode cL_law 301 = .ok (.aload_n 0, 1) := by decide +kernel
theorem dL_law_302 : decode cL_law 302 = .ok (.iload 4, 2) := by decide +kernel
theorem dL_law_304 : decode cL_law 304 = .ok (.iconst 1, 1) := by decide +kernel
theorem dL_law_305 : decode cL_law 305 = .ok (.iadd, 1) := by decide +kernel
theorem dL_law_306 : decode cL_law 306 = .ok (.iaload, 1) := by decide +kernel
theorem dL_law_307 : decode cL_law 307 = .ok (.aload_n 0, 1) := by decide +kernel
theorem dL_law_308 : decode cL_law 308 = .ok (.iload 4, 2) := by decide +kernel
theorem dL_law_310 : decode cL_law 310 = .ok (.iconst 2, 1) := by decide +kernel
theorem dL_law_311 : decode cL_law 311 = .ok (.iadd, 1) := by decide +kernel
theorem dL_law_312 : decode cL_law 312 = .ok (.iaload, 1) := by decide +kernel
theorem dL_law_313 : decode cL_law 313 = .ok (.aload_n 0, 1) := by decide +kernel
theorem dL_law_314 : decode cL_law 314 = .ok (.iload 4, 2) := by decide +kernel
theorem dL_law_316 : decode cL_law 316 = .ok (.iconst 3, 1) := by decide +kernel
theorem dL_law_317 : decode cL_law 317 = .ok (.iadd, 1) := by decide +kernel
theorem dL_law_318 : decode cL_law 318 = .ok (.iaload, 1) := by decide +kernel
theorem dL_law_319 : decode cL_law 319 = .ok (.aload_n 3, 1) := by decide +kernel
theorem dL_law_320 : decode cL_law 320 = .ok (.invokestatic 93, 3) := by decide +kernel
theorem dL_law_323 : decode cL_law 323 = .ok (.istore 5, 2) := by decide +kernel
theorem dL_law_325 : decode cL_law 325 = .ok (.aload_n 2, 1) := by decide +kernel
theorem dL_law_326 : decode cL_law 326 = .ok (.aload_n 0, 1) := by decide +kernel
theorem dL_law_327 : decode cL_law 327 = .ok (.iload 4, 2) := by decide +kernel
theorem dL_law_329 : decode cL_law 329 = .ok (.iconst 1, 1) := by decide +kernel
theorem dL_law_330 : decode cL_law 330 = .ok (.iadd, 1) := by decide +kernel
theorem dL_law_331 : decode cL_law 331 = .ok (.iaload, 1) := by decide +kernel
theorem dL_law_332 : decode cL_law 332 = .ok (.aload_n 0, 1) := by decide +kernel
theorem dL_law_333 : decode cL_law 333 = .ok (.iload 4, 2) := by decide +kernel
theorem dL_law_335 : decode cL_law 335 = .ok (.iconst 2, 1) := by decide +kernel
theorem dL_law_336 : decode cL_law 336 = .ok (.iadd, 1) := by decide +kernel
theorem dL_law_337 : decode cL_law 337 = .ok (.iaload, 1) := by decide +kernel
theorem dL_law_338 : decode cL_law 338 = .ok (.aload_n 0, 1) := by decide +kernel
theorem dL_law_339 : decode cL_law 339 = .ok (.iload 4, 2) := by decide +kernel
theorem dL_law_341 : decode cL_law 341 = .ok (.iconst 3, 1) := by decide +kernel
theorem dL_law_342 : decode cL_law 342 = .ok (.iadd, 1) := by decide +kernel
theorem dL_law_343 : decode cL_law 343 = .ok (.iaload, 1) := by decide +kernel
theorem dL_law_344 : decode cL_law 344 = .ok (.invokevirtual 95, 3) := by decide +kernel
theorem dL_law_347 : decode cL_law 347 = .ok (.istore 6, 2) := by decide +kernel
theorem dL_law_349 : decode cL_law 349 = .ok (.aload_n 2, 1) := by decide +kernel
theorem dL_law_350 : decode cL_law 350 = .ok (.invokevirtual 86, 3) := by decide +kernel
theorem dL_law_353 : decode cL_law 353 = .ok (.iload 5, 2) := by decide +kernel
theorem dL_law_355 : decode cL_law 355 = .ok (.if_icmp .eq 5, 3) := by decide +kernel
theorem dL_law_358 : decode cL_law 358 = .ok (.iconst 0, 1) := by decide +kernel
theorem dL_law_359 : decode cL_law 359 = .ok (.ireturn, 1) := by decide +kernel
theorem dL_law_360 : decode cL_law 360 = .ok (.iload 5, 2) := by decide +kernel
theorem dL_law_362 : decode cL_law 362 = .ok (.ifCond .ne 15, 3) := by decide +kernel
theorem dL_law_365 : decode cL_law 365 = .ok (.aload_n 3, 1) := by decide +kernel
theorem dL_law_366 : decode cL_law 366 = .ok (.iconst 0, 1) := by decide +kernel
theorem dL_law_367 : decode cL_law 367 = .ok (.laload, 1) := by decide +kernel
theorem dL_law_368 : decode cL_law 368 = .ok (.iload 6, 2) := by decide +kernel
theorem dL_law_370 : decode cL_law 370 = .ok (.i2l, 1) := by decide +kernel
theorem dL_law_371 : decode cL_law 371 = .ok (.lcmp, 1) := by decide +kernel
theorem dL_law_372 : decode cL_law 372 = .ok (.ifCond .eq 5, 3) := by decide +kernel
theorem dL_law_375 : decode cL_law 375 = .ok (.iconst 0, 1) := by decide +kernel
theorem dL_law_376 : decode cL_law 376 = .ok (.ireturn, 1) := by decide +kernel
theorem dL_law_377 : decode cL_law 377 = .ok (.goto 1114, 3) := by decide +kernel
theorem dL_law_380 : decode cL_law 380 = .ok (.aload_n 1, 1) := by decide +kernel
theorem dL_law_381 : decode cL_law 381 = .ok (.aload_n 0, 1) := by decide +kernel
theorem dL_law_382 : decode cL_law 382 = .ok (.iload 4, 2) := by decide +kernel
theorem dL_law_384 : decode cL_law 384 = .ok (.iconst 1, 1) := by decide +kernel
theorem dL_law_385 : decode cL_law 385 = .ok (.iadd, 1) := by decide +kernel
theorem dL_law_386 : decode cL_law 386 = .ok (.iaload, 1) := by decide +kernel
theorem dL_law_387 : decode cL_law 387 = .ok (.aload_n 0, 1) := by decide +kernel
theorem dL_law_388 : decode cL_law 388 = .ok (.iload 4, 2) := by decide +kernel
theorem dL_law_390 : decode cL_law 390 = .ok (.iconst 2, 1) := by decide +kernel
theorem dL_law_391 : decode cL_law 391 = .ok (.iadd, 1) := by decide +kernel
theorem dL_law_392 : decode cL_law 392 = .ok (.iaload, 1) := by decide +kernel
theorem dL_law_393 : decode cL_law 393 = .ok (.aload_n 3, 1) := by decide +kernel
theorem dL_law_394 : decode cL_law 394 = .ok (.invokestatic 96, 3) := by decide +kernel
theorem dL_law_397 : decode cL_law 397 = .ok (.istore 5, 2) := by decide +kernel
theorem dL_law_399 : decode cL_law 399 = .ok (.aload_n 2, 1) := by decide +kernel
theorem dL_law_400 : decode cL_law 400 = .ok (.aload_n 0, 1) := by decide +kernel
theorem dL_law_401 : decode cL_law 401 = .ok (.iload 4, 2) := by decide +kernel
theorem dL_law_403 : decode cL_law 403 = .ok (.iconst 1, 1) := by decide +kernel
theorem dL_law_404 : decode cL_law 404 = .ok (.iadd, 1) := by decide +kernel
theorem dL_law_405 : decode cL_law 405 = .ok (.iaload, 1) := by decide +kernel
theorem dL_law_406 : decode cL_law 406 = .ok (.aload_n 0, 1) := by decide +kernel
theorem dL_law_407 : decode cL_law 407 = .ok (.iload 4, 2) := by decide +kernel
theorem dL_law_409 : decode cL_law 409 = .ok (.iconst 2, 1) := by decide +kernel
theorem dL_law_410 : decode cL_law 410 = .ok (.iadd, 1) := by decide +kernel
theorem dL_law_411 : decode cL_law 411 = .ok (.iaload, 1) := by decide +kernel
theorem dL_law_412 : decode cL_law 412 = .ok (.invokevirtual 98, 3) := by decide +kernel
theorem dL_law_415 : decode cL_law 415 = .ok (.istore 6, 2) := by decide +kernel
theorem dL_law_417 : decode cL_law 417 = .ok (.aload_n 2, 1) := by decide +kernel
theorem dL_law_418 : decode cL_law 418 = .ok (.invokevirtual 86, 3) := by decide +kernel
theorem dL_law_421 : decode cL_law 421 = .ok (.iload 5, 2) := by decide +kernel
theorem dL_law_423 : decode cL_law 423 = .ok (.if_icmp .eq 5, 3) := by decide +kernel
theorem dL_law_426 : decode cL_law 426 = .ok (.iconst 0, 1) := by decide +kernel
theorem dL_law_427 : decode cL_law 427 = .ok (.ireturn, 1) := by decide +kernel
theorem dL_law_428 : decode cL_law 428 = .ok (.iload 5, 2) := by decide +kernel
theorem dL_law_430 : decode cL_law 430 = .ok (.ifCond .ne 15, 3) := by decide +kernel
theorem dL_law_433 : decode cL_law 433 = .ok (.aload_n 3, 1) := by decide +kernel
theorem dL_law_434 : decode cL_law 434 = .ok (.iconst 0, 1) := by decide +kernel
theorem dL_law_435 : decode cL_law 435 = .ok (.laload, 1) := by decide +kernel
theorem dL_law_436 : decode cL_law 436 = .ok (.iload 6, 2) := by decide +kernel
theorem dL_law_438 : decode cL_law 438 = .ok (.i2l, 1) := by decide +kernel
theorem dL_law_439 : decode cL_law 439 = .ok (.lcmp, 1) := by decide +kernel
theorem dL_law_440 : decode cL_law 440 = .ok (.ifCond .eq 5, 3) := by decide +kernel
theorem dL_law_443 : decode cL_law 443 = .ok (.iconst 0, 1) := by decide +kernel
theorem dL_law_444 : decode cL_law 444 = .ok (.ireturn, 1) := by decide +kernel
theorem dL_law_445 : decode cL_law 445 = .ok (.goto 1046, 3) := by decide +kernel
theorem dL_law_448 : decode cL_law 448 = .ok (.aload_n 1, 1) := by decide +kernel
theorem dL_law_449 : decode cL_law 449 = .ok (.aload_n 0, 1) := by decide +kernel
theorem dL_law_450 : decode cL_law 450 = .ok (.iload 4, 2) := by decide +kernel
theorem dL_law_452 : decode cL_law 452 = .ok (.iconst 1, 1) := by decide +kernel
theorem dL_law_453 : decode cL_law 453 = .ok (.iadd, 1) := by decide +kernel
theorem dL_law_454 : decode cL_law 454 = .ok (.iaload, 1) := by decide +kernel
theorem dL_law_455 : decode cL_law 455 = .ok (.aload_n 0, 1) := by decide +kernel
theorem dL_law_456 : decode cL_law 456 = .ok (.iload 4, 2) := by decide +kernel
theorem dL_law_458 : decode cL_law 458 = .ok (.iconst 2, 1) := by decide +kernel
theorem dL_law_459 : decode cL_law 459 = .ok (.iadd, 1) := by decide +kernel
theorem dL_law_460 : decode cL_law 460 = .ok (.iaload, 1) := by decide +kernel
theorem dL_law_461 : decode cL_law 461 = .ok (.aload_n 0, 1) := by decide +kernel
theorem dL_law_462 : decode cL_law 462 = .ok (.iload 4, 2) := by decide +kernel
theorem dL_law_464 : decode cL_law 464 = .ok (.iconst 3, 1) := by decide +kernel
theorem dL_law_465 : decode cL_law 465 = .ok (.iadd, 1) := by decide +kernel
theorem dL_law_466 : decode cL_law 466 = .ok (.iaload, 1) := by decide +kernel
theorem dL_law_467 : decode cL_law 467 = .ok (.aload_n 3, 1) := by decide +kernel
theorem dL_law_468 : decode cL_law 468 = .ok (.invokestatic 99, 3) := by decide +kernel
theorem dL_law_471 : decode cL_law 471 = .ok (.istore 5, 2) := by decide +kernel
theorem dL_law_473 : decode cL_law 473 = .ok (.aload_n 2, 1) := by decide +kernel
theorem dL_law_474 : decode cL_law 474 = .ok (.aload_n 0, 1) := by decide +kernel
theorem dL_law_475 : decode cL_law 475 = .ok (.iload 4, 2) := by decide +kernel
theorem dL_law_477 : decode cL_law 477 = .ok (.iconst 1, 1) := by decide +kernel
theorem dL_law_478 : decode cL_law 478 = .ok (.iadd, 1) := by decide +kernel
theorem dL_law_479 : decode cL_law 479 = .ok (.iaload, 1) := by decide +kernel
theorem dL_law_480 : decode cL_law 480 = .ok (.aload_n 0, 1) := by decide +kernel
theorem dL_law_481 : decode cL_law 481 = .ok (.iload 4, 2) := by decide +kernel
theorem dL_law_483 : decode cL_law 483 = .ok (.iconst 2, 1) := by decide +kernel
theorem dL_law_484 : decode cL_law 484 = .ok (.iadd, 1) := by decide +kernel
theorem dL_law_485 : decode cL_law 485 = .ok (.iaload, 1) := by decide +kernel
theorem dL_law_486 : decode cL_law 486 = .ok (.aload_n 0, 1) := by decide +kernel
theorem dL_law_487 : decode cL_law 487 = .ok (.iload 4, 2) := by decide +kernel
theorem dL_law_489 : decode cL_law 489 = .ok (.iconst 3, 1) := by decide +kernel
theorem dL_law_490 : decode cL_law 490 = .ok (.iadd, 1) := by decide +kernel
theorem dL_law_491 : decode cL_law 491 = .ok (.iaload, 1) := by decide +kernel
theorem dL_law_492 : decode cL_law 492 = .ok (.invokevirtual 101, 3) := by decide +kernel
theorem dL_law_495 : decode cL_law 495 = .ok (.istore 6, 2) := by decide +kernel
theorem dL_law_497 : decode cL_law 497 = .ok (.aload_n 2, 1) := by decide +kernel
theorem dL_law_498 : decode cL_law 498 = .ok (.invokevirtual 86, 3) := by decide +kernel
theorem dL_law_501 : decode cL_law 501 = .ok (.iload 5, 2) := by decide +kernel
theorem dL_law_503 : decode cL_law 503 = .ok (.if_icmp .eq 5, 3) := by decide +kernel
theorem dL_law_506 : decode cL_law 506 = .ok (.iconst 0, 1) := by decide +kernel
theorem dL_law_507 : decode cL_law 507 = .ok (.ireturn, 1) := by decide +kernel
theorem dL_law_508 : decode cL_law 508 = .ok (.iload 5, 2) := by decide +kernel
theorem dL_law_510 : decode cL_law 510 = .ok (.ifCond .ne 15, 3) := by decide +kernel
theorem dL_law_513 : decode cL_law 513 = .ok (.aload_n 3, 1) := by decide +kernel
theorem dL_law_514 : decode cL_law 514 = .ok (.iconst 0, 1) := by decide +kernel
theorem dL_law_515 : decode cL_law 515 = .ok (.laload, 1) := by decide +kernel
theorem dL_law_516 : decode cL_law 516 = .ok (.iload 6, 2) := by decide +kernel
theorem dL_law_518 : decode cL_law 518 = .ok (.i2l, 1) := by decide +kernel
theorem dL_law_519 : decode cL_law 519 = .ok (.lcmp, 1) := by decide +kernel
theorem dL_law_520 : decode cL_law 520 = .ok (.ifCond .eq 5, 3) := by decide +kernel
theorem dL_law_523 : decode cL_law 523 = .ok (.iconst 0, 1) := by decide +kernel
theorem dL_law_524 : decode cL_law 524 = .ok (.ireturn, 1) := by decide +kernel
theorem dL_law_525 : decode cL_law 525 = .ok (.goto 966, 3) := by decide +kernel
theorem dL_law_528 : decode cL_law 528 = .ok (.aload_n 1, 1) := by decide +kernel
theorem dL_law_529 : decode cL_law 529 = .ok (.aload_n 0, 1) := by decide +kernel
theorem dL_law_530 : decode cL_law 530 = .ok (.iload 4, 2) := by decide +kernel
theorem dL_law_532 : decode cL_law 532 = .ok (.iconst 1, 1) := by decide +kernel
theorem dL_law_533 : decode cL_law 533 = .ok (.iadd, 1) := by decide +kernel
theorem dL_law_534 : decode cL_law 534 = .ok (.iaload, 1) := by decide +kernel
theorem dL_law_535 : decode cL_law 535 = .ok (.aload_n 0, 1) := by decide +kernel
theorem dL_law_536 : decode cL_law 536 = .ok (.iload 4, 2) := by decide +kernel
theorem dL_law_538 : decode cL_law 538 = .ok (.iconst 2, 1) := by decide +kernel
theorem dL_law_539 : decode cL_law 539 = .ok (.iadd, 1) := by decide +kernel
theorem dL_law_540 : decode cL_law 540 = .ok (.iaload, 1) := by decide +kernel
theorem dL_law_541 : decode cL_law 541 = .ok (.aload_n 0, 1) := by decide +kernel
theorem dL_law_542 : decode cL_law 542 = .ok (.iload 4, 2) := by decide +kernel
theorem dL_law_544 : decode cL_law 544 = .ok (.iconst 3, 1) := by decide +kernel
theorem dL_law_545 : decode cL_law 545 = .ok (.iadd, 1) := by decide +kernel
theorem dL_law_546 : decode cL_law 546 = .ok (.iaload, 1) := by decide +kernel
theorem dL_law_547 : decode cL_law 547 = .ok (.aload_n 3, 1) := by decide +kernel
theorem dL_law_548 : decode cL_law 548 = .ok (.invokestatic 102, 3) := by decide +kernel
theorem dL_law_551 : decode cL_law 551 = .ok (.istore 5, 2) := by decide +kernel
theorem dL_law_553 : decode cL_law 553 = .ok (.aload_n 2, 1) := by decide +kernel
theorem dL_law_554 : decode cL_law 554 = .ok (.aload_n 0, 1) := by decide +kernel
theorem dL_law_555 : decode cL_law 555 = .ok (.iload 4, 2) := by decide +kernel
theorem dL_law_557 : decode cL_law 557 = .ok (.iconst 1, 1) := by decide +kernel
theorem dL_law_558 : decode cL_law 558 = .ok (.iadd, 1) := by decide +kernel
theorem dL_law_559 : decode cL_law 559 = .ok (.iaload, 1) := by decide +kernel
theorem dL_law_560 : decode cL_law 560 = .ok (.aload_n 0, 1) := by decide +kernel
theorem dL_law_561 : decode cL_law 561 = .ok (.iload 4, 2) := by decide +kernel
theorem dL_law_563 : decode cL_law 563 = .ok (.iconst 2, 1) := by decide +kernel
theorem dL_law_564 : decode cL_law 564 = .ok (.iadd, 1) := by decide +kernel
theorem dL_law_565 : decode cL_law 565 = .ok (.iaload, 1) := by decide +kernel
theorem dL_law_566 : decode cL_law 566 = .ok (.aload_n 0, 1) := by decide +kernel
theorem dL_law_567 : decode cL_law 567 = .ok (.iload 4, 2) := by decide +kernel
theorem dL_law_569 : decode cL_law 569 = .ok (.iconst 3, 1) := by decide +kernel
theorem dL_law_570 : decode cL_law 570 = .ok (.iadd, 1) := by decide +kernel
theorem dL_law_571 : decode cL_law 571 = .ok (.iaload, 1) := by decide +kernel
theorem dL_law_572 : decode cL_law 572 = .ok (.invokevirtual 104, 3) := by decide +kernel
theorem dL_law_575 : decode cL_law 575 = .ok (.istore 6, 2) := by decide +kernel
theorem dL_law_577 : decode cL_law 577 = .ok (.aload_n 2, 1) := by decide +kernel
theorem dL_law_578 : decode cL_law 578 = .ok (.invokevirtual 86, 3) := by decide +kernel
theorem dL_law_581 : decode cL_law 581 = .ok (.iload 5, 2) := by decide +kernel
theorem dL_law_583 : decode cL_law 583 = .ok (.if_icmp .eq 5, 3) := by decide +kernel
theorem dL_law_586 : decode cL_law 586 = .ok (.iconst 0, 1) := by decide +kernel
theorem dL_law_587 : decode cL_law 587 = .ok (.ireturn, 1) := by decide +kernel
theorem dL_law_588 : decode cL_law 588 = .ok (.iload 5, 2) := by decide +kernel
theorem dL_law_590 : decode cL_law 590 = .ok (.ifCond .ne 15, 3) := by decide +kernel
theorem dL_law_593 : decode cL_law 593 = .ok (.aload_n 3, 1) := by decide +kernel
theorem dL_law_594 : decode cL_law 594 = .ok (.iconst 0, 1) := by decide +kernel
theorem dL_law_595 : decode cL_law 595 = .ok (.laload, 1) := by decide +kernel
theorem dL_law_596 : decode cL_law 596 = .ok (.iload 6, 2) := by decide +kernel
theorem dL_law_598 : decode cL_law 598 = .ok (.i2l, 1) := by decide +kernel
theorem dL_law_599 : decode cL_law 599 = .ok (.lcmp, 1) := by decide +kernel
theorem dL_law_600 : decode cL_law 600 = .ok (.ifCond .eq 5, 3) := by decide +kernel
theorem dL_law_603 : decode cL_law 603 = .ok (.iconst 0, 1) := by decide +kernel
theorem dL_law_604 : decode cL_law 604 = .ok (.ireturn, 1) := by decide +kernel
theorem dL_law_605 : decode cL_law 605 = .ok (.goto 886, 3) := by decide +kernel
theorem dL_law_608 : decode cL_law 608 = .ok (.aload_n 1, 1) := by decide +kernel
theorem dL_law_609 : decode cL_law 609 = .ok (.aload_n 0, 1) := by decide +kernel
theorem dL_law_610 : decode cL_law 610 = .ok (.iload 4, 2) := by decide +kernel
theorem dL_law_612 : decode cL_law 612 = .ok (.iconst 1, 1) := by decide +kernel
theorem dL_law_613 : decode cL_law 613 = .ok (.iadd, 1) := by decide +kernel
theorem dL_law_614 : decode cL_law 614 = .ok (.iaload, 1) := by decide +kernel
theorem dL_law_615 : decode cL_law 615 = .ok (.aload_n 3, 1) := by decide +kernel
theorem dL_law_616 : decode cL_law 616 = .ok (.invokestatic 105, 3) := by decide +kernel
theorem dL_law_619 : decode cL_law 619 = .ok (.istore 5, 2) := by decide +kernel
theorem dL_law_621 : decode cL_law 621 = .ok (.aload_n 2, 1) := by decide +kernel
theorem dL_law_622 : decode cL_law 622 = .ok (.aload_n 0, 1) := by decide +kernel
theorem dL_law_623 : decode cL_law 623 = .ok (.iload 4, 2) := by decide +kernel
theorem dL_law_625 : decode cL_law 625 = .ok (.iconst 1, 1) := by decide +kernel
theorem dL_law_626 : decode cL_law 626 = .ok (.iadd, 1) := by decide +kernel
theorem dL_law_627 : decode cL_law 627 = .ok (.iaload, 1) := by decide +kernel
theorem dL_law_628 : decode cL_law 628 = .ok (.invokevirtual 108, 3) := by decide +kernel
theorem dL_law_631 : decode cL_law 631 = .ok (.istore 6, 2) := by decide +kernel
theorem dL_law_633 : decode cL_law 633 = .ok (.aload_n 2, 1) := by decide +kernel
theorem dL_law_634 : decode cL_law 634 = .ok (.invokevirtual 86, 3) := by decide +kernel
theorem dL_law_637 : decode cL_law 637 = .ok (.iload 5, 2) := by decide +kernel
theorem dL_law_639 : decode cL_law 639 = .ok (.if_icmp .eq 5, 3) := by decide +kernel
theorem dL_law_642 : decode cL_law 642 = .ok (.iconst 0, 1) := by decide +kernel
theorem dL_law_643 : decode cL_law 643 = .ok (.ireturn, 1) := by decide +kernel
theorem dL_law_644 : decode cL_law 644 = .ok (.iload 5, 2) := by decide +kernel
theorem dL_law_646 : decode cL_law 646 = .ok (.ifCond .ne 15, 3) := by decide +kernel
theorem dL_law_649 : decode cL_law 649 = .ok (.aload_n 3, 1) := by decide +kernel
theorem dL_law_650 : decode cL_law 650 = .ok (.iconst 0, 1) := by decide +kernel
theorem dL_law_651 : decode cL_law 651 = .ok (.laload, 1) := by decide +kernel
theorem dL_law_652 : decode cL_law 652 = .ok (.iload 6, 2) := by decide +kernel
theorem dL_law_654 : decode cL_law 654 = .ok (.i2l, 1) := by decide +kernel
theorem dL_law_655 : decode cL_law 655 = .ok (.lcmp, 1) := by decide +kernel
theorem dL_law_656 : decode cL_law 656 = .ok (.ifCond .eq 5, 3) := by decide +kernel
theorem dL_law_659 : decode cL_law 659 = .ok (.iconst 0, 1) := by decide +kernel
theorem dL_law_660 : decode cL_law 660 = .ok (.ireturn, 1) := by decide +kernel
theorem dL_law_661 : decode cL_law 661 = .ok (.goto 830, 3) := by decide +kernel
theorem dL_law_664 : decode cL_law 664 = .ok (.aload_n 1, 1) := by decide +kernel
theorem dL_law_665 : decode cL_law 665 = .ok (.aload_n 0, 1) := by decide +kernel
theorem dL_law_666 : decode cL_law 666 = .ok (.iload 4, 2) := by decide +kernel
theorem dL_law_668 : decode cL_law 668 = .ok (.iconst 1, 1) := by decide +kernel
theorem dL_law_669 : decode cL_law 669 = .ok (.iadd, 1) := by decide +kernel
theorem dL_law_670 : decode cL_law 670 = .ok (.iaload, 1) := by decide +kernel
theorem dL_law_671 : decode cL_law 671 = .ok (.aload_n 0, 1) := by decide +kernel
theorem dL_law_672 : decode cL_law 672 = .ok (.iload 4, 2) := by decide +kernel
theorem dL_law_674 : decode cL_law 674 = .ok (.iconst 2, 1) := by decide +kernel
theorem dL_law_675 : decode cL_law 675 = .ok (.iadd, 1) := by decide +kernel
theorem dL_law_676 : decode cL_law 676 = .ok (.iaload, 1) := by decide +kernel
theorem dL_law_677 : decode cL_law 677 = .ok (.aload_n 3, 1) := by decide +kernel
theorem dL_law_678 : decode cL_law 678 = .ok (.invokestatic 109, 3) := by decide +kernel
theorem dL_law_681 : decode cL_law 681 = .ok (.istore 5, 2) := by decide +kernel
theorem dL_law_683 : decode cL_law 683 = .ok (.aload_n 2, 1) := by decide +kernel
theorem dL_law_684 : decode cL_law 684 = .ok (.aload_n 0, 1) := by decide +kernel
theorem dL_law_685 : decode cL_law 685 = .ok (.iload 4, 2) := by decide +kernel
theorem dL_law_687 : decode cL_law 687 = .ok (.iconst 1, 1) := by decide +kernel
theorem dL_law_688 : decode cL_law 688 = .ok (.iadd, 1) := by decide +kernel
theorem dL_law_689 : decode cL_law 689 = .ok (.iaload, 1) := by decide +kernel
theorem dL_law_690 : decode cL_law 690 = .ok (.aload_n 0, 1) := by decide +kernel
theorem dL_law_691 : decode cL_law 691 = .ok (.iload 4, 2) := by decide +kernel
theorem dL_law_693 : decode cL_law 693 = .ok (.iconst 2, 1) := by decide +kernel
theorem dL_law_694 : decode cL_law 694 = .ok (.iadd, 1) := by decide +kernel
theorem dL_law_695 : decode cL_law 695 = .ok (.iaload, 1) := by decide +kernel
theorem dL_law_696 : decode cL_law 696 = .ok (.invokevirtual 111, 3) := by decide +kernel
theorem dL_law_699 : decode cL_law 699 = .ok (.istore 6, 2) := by decide +kernel
theorem dL_law_701 : decode cL_law 701 = .ok (.aload_n 2, 1) := by decide +kernel
theorem dL_law_702 : decode cL_law 702 = .ok (.invokevirtual 86, 3) := by decide +kernel
theorem dL_law_705 : decode cL_law 705 = .ok (.iload 5, 2) := by decide +kernel
theorem dL_law_707 : decode cL_law 707 = .ok (.if_icmp .eq 5, 3) := by decide +kernel
theorem dL_law_710 : decode cL_law 710 = .ok (.iconst 0, 1) := by decide +kernel
theorem dL_law_711 : decode cL_law 711 = .ok (.ireturn, 1) := by decide +kernel
theorem dL_law_712 : decode cL_law 712 = .ok (.iload 5, 2) := by decide +kernel
theorem dL_law_714 : decode cL_law 714 = .ok (.ifCond .ne 15, 3) := by decide +kernel
theorem dL_law_717 : decode cL_law 717 = .ok (.aload_n 3, 1) := by decide +kernel
theorem dL_law_718 : decode cL_law 718 = .ok (.iconst 0, 1) := by decide +kernel
theorem dL_law_719 : decode cL_law 719 = .ok (.laload, 1) := by decide +kernel
theorem dL_law_720 : decode cL_law 720 = .ok (.iload 6, 2) := by decide +kernel
theorem dL_law_722 : decode cL_law 722 = .ok (.i2l, 1) := by decide +kernel
theorem dL_law_723 : decode cL_law 723 = .ok (.lcmp, 1) := by decide +kernel
theorem dL_law_724 : decode cL_law 724 = .ok (.ifCond .eq 5, 3) := by decide +kernel
theorem dL_law_727 : decode cL_law 727 = .ok (.iconst 0, 1) := by decide +kernel
theorem dL_law_728 : decode cL_law 728 = .ok (.ireturn, 1) := by decide +kernel
theorem dL_law_729 : decode cL_law 729 = .ok (.goto 762, 3) := by decide +kernel
theorem dL_law_732 : decode cL_law 732 = .ok (.aload_n 1, 1) := by decide +kernel
theorem dL_law_733 : decode cL_law 733 = .ok (.aload_n 0, 1) := by decide +kernel
theorem dL_law_734 : decode cL_law 734 = .ok (.iload 4, 2) := by decide +kernel
theorem dL_law_736 : decode cL_law 736 = .ok (.iconst 1, 1) := by decide +kernel
theorem dL_law_737 : decode cL_law 737 = .ok (.iadd, 1) := by decide +kernel
theorem dL_law_738 : decode cL_law 738 = .ok (.iaload, 1) := by decide +kernel
theorem dL_law_739 : decode cL_law 739 = .ok (.aload_n 3, 1) := by decide +kernel
theorem dL_law_740 : decode cL_law 740 = .ok (.invokestatic 112, 3) := by decide +kernel
theorem dL_law_743 : decode cL_law 743 = .ok (.istore 5, 2) := by decide +kernel
theorem dL_law_745 : decode cL_law 745 = .ok (.aload_n 2, 1) := by decide +kernel
theorem dL_law_746 : decode cL_law 746 = .ok (.aload_n 0, 1) := by decide +kernel
theorem dL_law_747 : decode cL_law 747 = .ok (.iload 4, 2) := by decide +kernel
theorem dL_law_749 : decode cL_law 749 = .ok (.iconst 1, 1) := by decide +kernel
theorem dL_law_750 : decode cL_law 750 = .ok (.iadd, 1) := by decide +kernel
theorem dL_law_751 : decode cL_law 751 = .ok (.iaload, 1) := by decide +kernel
theorem dL_law_752 : decode cL_law 752 = .ok (.invokevirtual 114, 3) := by decide +kernel
theorem dL_law_755 : decode cL_law 755 = .ok (.istore 6, 2) := by decide +kernel
theorem dL_law_757 : decode cL_law 757 = .ok (.aload_n 2, 1) := by decide +kernel
theorem dL_law_758 : decode cL_law 758 = .ok (.invokevirtual 86, 3) := by decide +kernel
theorem dL_law_761 : decode cL_law 761 = .ok (.iload 5, 2) := by decide +kernel
theorem dL_law_763 : decode cL_law 763 = .ok (.if_icmp .eq 5, 3) := by decide +kernel
theorem dL_law_766 : decode cL_law 766 = .ok (.iconst 0, 1) := by decide +kernel
theorem dL_law_767 : decode cL_law 767 = .ok (.ireturn, 1) := by decide +kernel
theorem dL_law_768 : decode cL_law 768 = .ok (.iload 5, 2) := by decide +kernel
theorem dL_law_770 : decode cL_law 770 = .ok (.ifCond .ne 15, 3) := by decide +kernel
theorem dL_law_773 : decode cL_law 773 = .ok (.aload_n 3, 1) := by decide +kernel
theorem dL_law_774 : decode cL_law 774 = .ok (.iconst 0, 1) := by decide +kernel
theorem dL_law_775 : decode cL_law 775 = .ok (.laload, 1) := by decide +kernel
theorem dL_law_776 : decode cL_law 776 = .ok (.iload 6, 2) := by decide +kernel
theorem dL_law_778 : decode cL_law 778 = .ok (.i2l, 1) := by decide +kernel
theorem dL_law_779 : decode cL_law 779 = .ok (.lcmp, 1) := by decide +kernel
theorem dL_law_780 : decode cL_law 780 = .ok (.ifCond .eq 5, 3) := by decide +kernel
theorem dL_law_783 : decode cL_law 783 = .ok (.iconst 0, 1) := by decide +kernel
theorem dL_law_784 : decode cL_law 784 = .ok (.ireturn, 1) := by decide +kernel
theorem dL_law_785 : decode cL_law 785 = .ok (.goto 706, 3) := by decide +kernel
theorem dL_law_788 : decode cL_law 788 = .ok (.aload_n 1, 1) := by decide +kernel
theorem dL_law_789 : decode cL_law 789 = .ok (.invokevirtual 115, 3) := by decide +kernel
theorem dL_law_792 : decode cL_law 792 = .ok (.aload_n 2, 1) := by decide +kernel
theorem dL_law_793 : decode cL_law 793 = .ok (.invokevirtual 118, 3) := by decide +kernel
theorem dL_law_796 : decode cL_law 796 = .ok (.if_icmp .eq 695, 3) := by decide +kernel
theorem dL_law_799 : decode cL_law 799 = .ok (.iconst 0, 1) := by decide +kernel
theorem dL_law_800 : decode cL_law 800 = .ok (.ireturn, 1) := by decide +kernel
theorem dL_law_801 : decode cL_law 801 = .ok (.aload_n 1, 1) := by decide +kernel
theorem dL_law_802 : decode cL_law 802 = .ok (.invokevirtual 119, 3) := by decide +kernel
theorem dL_law_805 : decode cL_law 805 = .ok (.aload_n 2, 1) := by decide +kernel
theorem dL_law_806 : decode cL_law 806 = .ok (.invokevirtual 122, 3) := by decide +kernel
theorem dL_law_809 : decode cL_law 809 = .ok (.if_icmp .eq 682, 3) := by decide +kernel
theorem dL_law_812 : decode cL_law 812 = .ok (.iconst 0, 1) := by decide +kernel
theorem dL_law_813 : decode cL_law 813 = .ok (.ireturn, 1) := by decide +kernel
theorem dL_law_814 : decode cL_law 814 = .ok (.aload_n 1, 1) := by decide +kernel
theorem dL_law_815 : decode cL_law 815 = .ok (.aload_n 3, 1) := by decide +kernel
theorem dL_law_816 : decode cL_law 816 = .ok (.invokestatic 123, 3) := by decide +kernel
theorem dL_law_819 : decode cL_law 819 = .ok (.istore 5, 2) := by decide +kernel
theorem dL_law_821 : decode cL_law 821 = .ok (.aload_n 2, 1) := by decide +kernel
theorem dL_law_822 : decode cL_law 822 = .ok (.invokevirtual 126, 3) := by decide +kernel
theorem dL_law_825 : decode cL_law 825 = .ok (.istore 6, 2) := by decide +kernel
theorem dL_law_827 : decode cL_law 827 = .ok (.aload_n 2, 1) := by decide +kernel
theorem dL_law_828 : decode cL_law 828 = .ok (.invokevirtual 86, 3) := by decide +kernel
theorem dL_law_831 : decode cL_law 831 = .ok (.iload 5, 2) := by decide +kernel
theorem dL_law_833 : decode cL_law 833 = .ok (.if_icmp .eq 5, 3) := by decide +kernel
theorem dL_law_836 : decode cL_law 836 = .ok (.iconst 0, 1) := by decide +kernel
theorem dL_law_837 : decode cL_law 837 = .ok (.ireturn, 1) := by decide +kernel
theorem dL_law_838 : decode cL_law 838 = .ok (.iload 5, 2) := by decide +kernel
theorem dL_law_840 : decode cL_law 840 = .ok (.ifCond .ne 15, 3) := by decide +kernel
theorem dL_law_843 : decode cL_law 843 = .ok (.aload_n 3, 1) := by decide +kernel
theorem dL_law_844 : decode cL_law 844 = .ok (.iconst 0, 1) := by decide +kernel
theorem dL_law_845 : decode cL_law 845 = .ok (.laload, 1) := by decide +kernel
theorem dL_law_846 : decode cL_law 846 = .ok (.iload 6, 2) := by decide +kernel
theorem dL_law_848 : decode cL_law 848 = .ok (.i2l, 1) := by decide +kernel
theorem dL_law_849 : decode cL_law 849 = .ok (.lcmp, 1) := by decide +kernel
theorem dL_law_850 : decode cL_law 850 = .ok (.ifCond .eq 5, 3) := by decide +kernel
theorem dL_law_853 : decode cL_law 853 = .ok (.iconst 0, 1) := by decide +kernel
theorem dL_law_854 : decode cL_law 854 = .ok (.ireturn, 1) := by decide +kernel
theorem dL_law_855 : decode cL_law 855 = .ok (.goto 636, 3) := by decide +kernel
theorem dL_law_858 : decode cL_law 858 = .ok (.aload_n 1, 1) := by decide +kernel
theorem dL_law_859 : decode cL_law 859 = .ok (.aload_n 3, 1) := by decide +kernel
theorem dL_law_860 : decode cL_law 860 = .ok (.invokestatic 127, 3) := by decide +kernel
theorem dL_law_863 : decode cL_law 863 = .ok (.istore 5, 2) := by decide +kernel
theorem dL_law_865 : decode cL_law 865 = .ok (.aload_n 2, 1) := by decide +kernel
theorem dL_law_866 : decode cL_law 866 = .ok (.invokevirtual 129, 3) := by decide +kernel
theorem dL_law_869 : decode cL_law 869 = .ok (.istore 6, 2) := by decide +kernel
theorem dL_law_871 : decode cL_law 871 = .ok (.aload_n 2, 1) := by decide +kernel
theorem dL_law_872 : decode cL_law 872 = .ok (.invokevirtual 86, 3) := by decide +kernel
theorem dL_law_875 : decode cL_law 875 = .ok (.iload 5, 2) := by decide +kernel
theorem dL_law_877 : decode cL_law 877 = .ok (.if_icmp .eq 5, 3) := by decide +kernel
theorem dL_law_880 : decode cL_law 880 = .ok (.iconst 0, 1) := by decide +kernel
theorem dL_law_881 : decode cL_law 881 = .ok (.ireturn, 1) := by decide +kernel
theorem dL_law_882 : decode cL_law 882 = .ok (.iload 5, 2) := by decide +kernel
theorem dL_law_884 : decode cL_law 884 = .ok (.ifCond .ne 15, 3) := by decide +kernel
theorem dL_law_887 : decode cL_law 887 = .ok (.aload_n 3, 1) := by decide +kernel
theorem dL_law_888 : decode cL_law 888 = .ok (.iconst 0, 1) := by decide +kernel
theorem dL_law_889 : decode cL_law 889 = .ok (.laload, 1) := by decide +kernel
theorem dL_law_890 : decode cL_law 890 = .ok (.iload 6, 2) := by decide +kernel
theorem dL_law_892 : decode cL_law 892 = .ok (.i2l, 1) := by decide +kernel
theorem dL_law_893 : decode cL_law 893 = .ok (.lcmp, 1) := by decide +kernel
theorem dL_law_894 : decode cL_law 894 = .ok (.ifCond .eq 5, 3) := by decide +kernel
theorem dL_law_897 : decode cL_law 897 = .ok (.iconst 0, 1) := by decide +kernel
theorem dL_law_898 : decode cL_law 898 = .ok (.ireturn, 1) := by decide +kernel
theorem dL_law_899 : decode cL_law 899 = .ok (.goto 592, 3) := by decide +kernel
theorem dL_law_902 : decode cL_law 902 = .ok (.aload_n 1, 1) := by decide +kernel
theorem dL_law_903 : decode cL_law 903 = .ok (.aload_n 0, 1) := by decide +kernel
theorem dL_law_904 : decode cL_law 904 = .ok (.iload 4, 2) := by decide +kernel
theorem dL_law_906 : decode cL_law 906 = .ok (.iconst 1, 1) := by decide +kernel
theorem dL_law_907 : decode cL_law 907 = .ok (.iadd, 1) := by decide +kernel
theorem dL_law_908 : decode cL_law 908 = .ok (.iaload, 1) := by decide +kernel
theorem dL_law_909 : decode cL_law 909 = .ok (.aload_n 0, 1) := by decide +kernel
theorem dL_law_910 : decode cL_law 910 = .ok (.iload 4, 2) := by decide +kernel
theorem dL_law_912 : decode cL_law 912 = .ok (.iconst 2, 1) := by decide +kernel
theorem dL_law_913 : decode cL_law 913 = .ok (.iadd, 1) := by decide +kernel
theorem dL_law_914 : decode cL_law 914 = .ok (.iaload, 1) := by decide +kernel
theorem dL_law_915 : decode cL_law 915 = .ok (.aload_n 3, 1) := by decide +kernel
theorem dL_law_916 : decode cL_law 916 = .ok (.invokestatic 130, 3) := by decide +kernel
theorem dL_law_919 : decode cL_law 919 = .ok (.istore 5, 2) := by decide +kernel
theorem dL_law_921 : decode cL_law 921 = .ok (.aload_n 2, 1) := by decide +kernel
theorem dL_law_922 : decode cL_law 922 = .ok (.aload_n 0, 1) := by decide +kernel
theorem dL_law_923 : decode cL_law 923 = .ok (.iload 4, 2) := by decide +kernel
theorem dL_law_925 : decode cL_law 925 = .ok (.iconst 1, 1) := by decide +kernel
theorem dL_law_926 : decode cL_law 926 = .ok (.iadd, 1) := by decide +kernel
theorem dL_law_927 : decode cL_law 927 = .ok (.iaload, 1) := by decide +kernel
theorem dL_law_928 : decode cL_law 928 = .ok (.aload_n 0, 1) := by decide +kernel
theorem dL_law_929 : decode cL_law 929 = .ok (.iload 4, 2) := by decide +kernel
theorem dL_law_931 : decode cL_law 931 = .ok (.iconst 2, 1) := by decide +kernel
theorem dL_law_932 : decode cL_law 932 = .ok (.iadd, 1) := by decide +kernel
theorem dL_law_933 : decode cL_law 933 = .ok (.iaload, 1) := by decide +kernel
theorem dL_law_934 : decode cL_law 934 = .ok (.invokevirtual 132, 3) := by decide +kernel
theorem dL_law_937 : decode cL_law 937 = .ok (.istore 6, 2) := by decide +kernel
theorem dL_law_939 : decode cL_law 939 = .ok (.aload_n 2, 1) := by decide +kernel
theorem dL_law_940 : decode cL_law 940 = .ok (.invokevirtual 86, 3) := by decide +kernel
theorem dL_law_943 : decode cL_law 943 = .ok (.iload 5, 2) := by decide +kernel
theorem dL_law_945 : decode cL_law 945 = .ok (.if_icmp .eq 5, 3) := by decide +kernel
theorem dL_law_948 : decode cL_law 948 = .ok (.iconst 0, 1) := by decide +kernel
theorem dL_law_949 : decode cL_law 949 = .ok (.ireturn, 1) := by decide +kernel
theorem dL_law_950 : decode cL_law 950 = .ok (.iload 5, 2) := by decide +kernel
theorem dL_law_952 : decode cL_law 952 = .ok (.ifCond .ne 15, 3) := by decide +kernel
theorem dL_law_955 : decode cL_law 955 = .ok (.aload_n 3, 1) := by decide +kernel
theorem dL_law_956 : decode cL_law 956 = .ok (.iconst 0, 1) := by decide +kernel
theorem dL_law_957 : decode cL_law 957 = .ok (.laload, 1) := by decide +kernel
theorem dL_law_958 : decode cL_law 958 = .ok (.iload 6, 2) := by decide +kernel
theorem dL_law_960 : decode cL_law 960 = .ok (.i2l, 1) := by decide +kernel
theorem dL_law_961 : decode cL_law 961 = .ok (.lcmp, 1) := by decide +kernel
theorem dL_law_962 : decode cL_law 962 = .ok (.ifCond .eq 5, 3) := by decide +kernel
theorem dL_law_965 : decode cL_law 965 = .ok (.iconst 0, 1) := by decide +kernel
theorem dL_law_966 : decode cL_law 966 = .ok (.ireturn, 1) := by decide +kernel
theorem dL_law_967 : decode cL_law 967 = .ok (.goto 524, 3) := by decide +kernel
theorem dL_law_970 : decode cL_law 970 = .ok (.aload_n 1, 1) := by decide +kernel
theorem dL_law_971 : decode cL_law 971 = .ok (.aload_n 0, 1) := by decide +kernel
theorem dL_law_972 : decode cL_law 972 = .ok (.iload 4, 2) := by decide +kernel
theorem dL_law_974 : decode cL_law 974 = .ok (.iconst 1, 1) := by decide +kernel
theorem dL_law_975 : decode cL_law 975 = .ok (.iadd, 1) := by decide +kernel
theorem dL_law_976 : decode cL_law 976 = .ok (.iaload, 1) := by decide +kernel
theorem dL_law_977 : decode cL_law 977 = .ok (.aload_n 0, 1) := by decide +kernel
theorem dL_law_978 : decode cL_law 978 = .ok (.iload 4, 2) := by decide +kernel
theorem dL_law_980 : decode cL_law 980 = .ok (.iconst 2, 1) := by decide +kernel
theorem dL_law_981 : decode cL_law 981 = .ok (.iadd, 1) := by decide +kernel
theorem dL_law_982 : decode cL_law 982 = .ok (.iaload, 1) := by decide +kernel
theorem dL_law_983 : decode cL_law 983 = .ok (.aload_n 3, 1) := by decide +kernel
theorem dL_law_984 : decode cL_law 984 = .ok (.invokestatic 133, 3) := by decide +kernel
theorem dL_law_987 : decode cL_law 987 = .ok (.istore 5, 2) := by decide +kernel
theorem dL_law_989 : decode cL_law 989 = .ok (.aload_n 2, 1) := by decide +kernel
theorem dL_law_990 : decode cL_law 990 = .ok (.aload_n 0, 1) := by decide +kernel
theorem dL_law_991 : decode cL_law 991 = .ok (.iload 4, 2) := by decide +kernel
theorem dL_law_993 : decode cL_law 993 = .ok (.iconst 1, 1) := by decide +kernel
theorem dL_law_994 : decode cL_law 994 = .ok (.iadd, 1) := by decide +kernel
theorem dL_law_995 : decode cL_law 995 = .ok (.iaload, 1) := by decide +kernel
theorem dL_law_996 : decode cL_law 996 = .ok (.aload_n 0, 1) := by decide +kernel
theorem dL_law_997 : decode cL_law 997 = .ok (.iload 4, 2) := by decide +kernel
theorem dL_law_999 : decode cL_law 999 = .ok (.iconst 2, 1) := by decide +kernel
theorem dL_law_1000 : decode cL_law 1000 = .ok (.iadd, 1) := by decide +kernel
theorem dL_law_1001 : decode cL_law 1001 = .ok (.iaload, 1) := by decide +kernel
theorem dL_law_1002 : decode cL_law 1002 = .ok (.invokevirtual 135, 3) := by decide +kernel
theorem dL_law_1005 : decode cL_law 1005 = .ok (.istore 6, 2) := by decide +kernel
theorem dL_law_1007 : decode cL_law 1007 = .ok (.aload_n 2, 1) := by decide +kernel
theorem dL_law_1008 : decode cL_law 1008 = .ok (.invokevirtual 86, 3) := by decide +kernel
theorem dL_law_1011 : decode cL_law 1011 = .ok (.iload 5, 2) := by decide +kernel
theorem dL_law_1013 : decode cL_law 1013 = .ok (.if_icmp .eq 5, 3) := by decide +kernel
theorem dL_law_1016 : decode cL_law 1016 = .ok (.iconst 0, 1) := by decide +kernel
theorem dL_law_1017 : decode cL_law 1017 = .ok (.ireturn, 1) := by decide +kernel
theorem dL_law_1018 : decode cL_law 1018 = .ok (.iload 5, 2) := by decide +kernel
theorem dL_law_1020 : decode cL_law 1020 = .ok (.ifCond .ne 15, 3) := by decide +kernel
theorem dL_law_1023 : decode cL_law 1023 = .ok (.aload_n 3, 1) := by decide +kernel
theorem dL_law_1024 : decode cL_law 1024 = .ok (.iconst 0, 1) := by decide +kernel
theorem dL_law_1025 : decode cL_law 1025 = .ok (.laload, 1) := by decide +kernel
theorem dL_law_1026 : decode cL_law 1026 = .ok (.iload 6, 2) := by decide +kernel
theorem dL_law_1028 : decode cL_law 1028 = .ok (.i2l, 1) := by decide +kernel
theorem dL_law_1029 : decode cL_law 1029 = .ok (.lcmp, 1) := by decide +kernel
theorem dL_law_1030 : decode cL_law 1030 = .ok (.ifCond .eq 5, 3) := by decide +kernel
theorem dL_law_1033 : decode cL_law 1033 = .ok (.iconst 0, 1) := by decide +kernel
theorem dL_law_1034 : decode cL_law 1034 = .ok (.ireturn, 1) := by decide +kernel
theorem dL_law_1035 : decode cL_law 1035 = .ok (.goto 456, 3) := by decide +kernel
theorem dL_law_1038 : decode cL_law 1038 = .ok (.aload_n 1, 1) := by decide +kernel
theorem dL_law_1039 : decode cL_law 1039 = .ok (.aload_n 0, 1) := by decide +kernel
theorem dL_law_1040 : decode cL_law 1040 = .ok (.iload 4, 2) := by decide +kernel
theorem dL_law_1042 : decode cL_law 1042 = .ok (.iconst 1, 1) := by decide +kernel
theorem dL_law_1043 : decode cL_law 1043 = .ok (.iadd, 1) := by decide +kernel
theorem dL_law_1044 : decode cL_law 1044 = .ok (.iaload, 1) := by decide +kernel
theorem dL_law_1045 : decode cL_law 1045 = .ok (.aload_n 0, 1) := by decide +kernel
theorem dL_law_1046 : decode cL_law 1046 = .ok (.iload 4, 2) := by decide +kernel
theorem dL_law_1048 : decode cL_law 1048 = .ok (.iconst 2, 1) := by decide +kernel
theorem dL_law_1049 : decode cL_law 1049 = .ok (.iadd, 1) := by decide +kernel
theorem dL_law_1050 : decode cL_law 1050 = .ok (.iaload, 1) := by decide +kernel
theorem dL_law_1051 : decode cL_law 1051 = .ok (.aload_n 3, 1) := by decide +kernel
theorem dL_law_1052 : decode cL_law 1052 = .ok (.invokestatic 136, 3) := by decide +kernel
theorem dL_law_1055 : decode cL_law 1055 = .ok (.istore 5, 2) := by decide +kernel
theorem dL_law_1057 : decode cL_law 1057 = .ok (.aload_n 2, 1) := by decide +kernel
theorem dL_law_1058 : decode cL_law 1058 = .ok (.aload_n 0, 1) := by decide +kernel
theorem dL_law_1059 : decode cL_law 1059 = .ok (.iload 4, 2) := by decide +kernel
theorem dL_law_1061 : decode cL_law 1061 = .ok (.iconst 1, 1) := by decide +kernel
theorem dL_law_1062 : decode cL_law 1062 = .ok (.iadd, 1) := by decide +kernel
theorem dL_law_1063 : decode cL_law 1063 = .ok (.iaload, 1) := by decide +kernel
theorem dL_law_1064 : decode cL_law 1064 = .ok (.aload_n 0, 1) := by decide +kernel
theorem dL_law_1065 : decode cL_law 1065 = .ok (.iload 4, 2) := by decide +kernel
theorem dL_law_1067 : decode cL_law 1067 = .ok (.iconst 2, 1) := by decide +kernel
theorem dL_law_1068 : decode cL_law 1068 = .ok (.iadd, 1) := by decide +kernel
theorem dL_law_1069 : decode cL_law 1069 = .ok (.iaload, 1) := by decide +kernel
theorem dL_law_1070 : decode cL_law 1070 = .ok (.invokevirtual 138, 3) := by decide +kernel
theorem dL_law_1073 : decode cL_law 1073 = .ok (.istore 6, 2) := by decide +kernel
theorem dL_law_1075 : decode cL_law 1075 = .ok (.aload_n 2, 1) := by decide +kernel
theorem dL_law_1076 : decode cL_law 1076 = .ok (.invokevirtual 86, 3) := by decide +kernel
theorem dL_law_1079 : decode cL_law 1079 = .ok (.iload 5, 2) := by decide +kernel
theorem dL_law_1081 : decode cL_law 1081 = .ok (.if_icmp .eq 5, 3) := by decide +kernel
theorem dL_law_1084 : decode cL_law 1084 = .ok (.iconst 0, 1) := by decide +kernel
theorem dL_law_1085 : decode cL_law 1085 = .ok (.ireturn, 1) := by decide +kernel
theorem dL_law_1086 : decode cL_law 1086 = .ok (.iload 5, 2) := by decide +kernel
theorem dL_law_1088 : decode cL_law 1088 = .ok (.ifCond .ne 15, 3) := by decide +kernel
theorem dL_law_1091 : decode cL_law 1091 = .ok (.aload_n 3, 1) := by decide +kernel
theorem dL_law_1092 : decode cL_law 1092 = .ok (.iconst 0, 1) := by decide +kernel
theorem dL_law_1093 : decode cL_law 1093 = .ok (.laload, 1) := by decide +kernel
theorem dL_law_1094 : decode cL_law 1094 = .ok (.iload 6, 2) := by decide +kernel
theorem dL_law_1096 : decode cL_law 1096 = .ok (.i2l, 1) := by decide +kernel
theorem dL_law_1097 : decode cL_law 1097 = .ok (.lcmp, 1) := by decide +kernel
theorem dL_law_1098 : decode cL_law 1098 = .ok (.ifCond .eq 5, 3) := by decide +kernel
theorem dL_law_1101 : decode cL_law 1101 = .ok (.iconst 0, 1) := by decide +kernel
theorem dL_law_1102 : decode cL_law 1102 = .ok (.ireturn, 1) := by decide +kernel
theorem dL_law_1103 : decode cL_law 1103 = .ok (.goto 388, 3) := by decide +kernel
theorem dL_law_1106 : decode cL_law 1106 = .ok (.aload_n 1, 1) := by decide +kernel
theorem dL_law_1107 : decode cL_law 1107 = .ok (.aload_n 0, 1) := by decide +kernel
theorem dL_law_1108 : decode cL_law 1108 = .ok (.iload 4, 2) := by decide +kernel
theorem dL_law_1110 : decode cL_law 1110 = .ok (.iconst 1, 1) := by decide +kernel
theorem dL_law_1111 : decode cL_law 1111 = .ok (.iadd, 1) := by decide +kernel
theorem dL_law_1112 : decode cL_law 1112 = .ok (.iaload, 1) := by decide +kernel
theorem dL_law_1113 : decode cL_law 1113 = .ok (.aload_n 3, 1) := by decide +kernel
theorem dL_law_1114 : decode cL_law 1114 = .ok (.invokestatic 139, 3) := by decide +kernel
theorem dL_law_1117 : decode cL_law 1117 = .ok (.istore 5, 2) := by decide +kernel
theorem dL_law_1119 : decode cL_law 1119 = .ok (.aload_n 2, 1) := by decide +kernel
theorem dL_law_1120 : decode cL_law 1120 = .ok (.aload_n 0, 1) := by decide +kernel
theorem dL_law_1121 : decode cL_law 1121 = .ok (.iload 4, 2) := by decide +kernel
theorem dL_law_1123 : decode cL_law 1123 = .ok (.iconst 1, 1) := by decide +kernel
theorem dL_law_1124 : decode cL_law 1124 = .ok (.iadd, 1) := by decide +kernel
theorem dL_law_1125 : decode cL_law 1125 = .ok (.iaload, 1) := by decide +kernel
theorem dL_law_1126 : decode cL_law 1126 = .ok (.invokevirtual 141, 3) := by decide +kernel
theorem dL_law_1129 : decode cL_law 1129 = .ok (.istore 6, 2) := by decide +kernel
theorem dL_law_1131 : decode cL_law 1131 = .ok (.aload_n 2, 1) := by decide +kernel
theorem dL_law_1132 : decode cL_law 1132 = .ok (.invokevirtual 86, 3) := by decide +kernel
theorem dL_law_1135 : decode cL_law 1135 = .ok (.iload 5, 2) := by decide +kernel
theorem dL_law_1137 : decode cL_law 1137 = .ok (.if_icmp .eq 5, 3) := by decide +kernel
theorem dL_law_1140 : decode cL_law 1140 = .ok (.iconst 0, 1) := by decide +kernel
theorem dL_law_1141 : decode cL_law 1141 = .ok (.ireturn, 1) := by decide +kernel
theorem dL_law_1142 : decode cL_law 1142 = .ok (.iload 5, 2) := by decide +kernel
theorem dL_law_1144 : decode cL_law 1144 = .ok (.ifCond .ne 15, 3) := by decide +kernel
theorem dL_law_1147 : decode cL_law 1147 = .ok (.aload_n 3, 1) := by decide +kernel
theorem dL_law_1148 : decode cL_law 1148 = .ok (.iconst 0, 1) := by decide +kernel
theorem dL_law_1149 : decode cL_law 1149 = .ok (.laload, 1) := by decide +kernel
theorem dL_law_1150 : decode cL_law 1150 = .ok (.iload 6, 2) := by decide +kernel
theorem dL_law_1152 : decode cL_law 1152 = .ok (.i2l, 1) := by decide +kernel
theorem dL_law_1153 : decode cL_law 1153 = .ok (.lcmp, 1) := by decide +kernel
theorem dL_law_1154 : decode cL_law 1154 = .ok (.ifCond .eq 5, 3) := by decide +kernel
theorem dL_law_1157 : decode cL_law 1157 = .ok (.iconst 0, 1) := by decide +kernel
theorem dL_law_1158 : decode cL_law 1158 = .ok (.ireturn, 1) := by decide +kernel
theorem dL_law_1159 : decode cL_law 1159 = .ok (.goto 332, 3) := by decide +kernel
theorem dL_law_1162 : decode cL_law 1162 = .ok (.aload_n 1, 1) := by decide +kernel
theorem dL_law_1163 : decode cL_law 1163 = .ok (.aload_n 0, 1) := by decide +kernel
theorem dL_law_1164 : decode cL_law 1164 = .ok (.iload 4, 2) := by decide +kernel
theorem dL_law_1166 : decode cL_law 1166 = .ok (.iconst 1, 1) := by decide +kernel
theorem dL_law_1167 : decode cL_law 1167 = .ok (.iadd, 1) := by decide +kernel
theorem dL_law_1168 : decode cL_law 1168 = .ok (.iaload, 1) := by decide +kernel
theorem dL_law_1169 : decode cL_law 1169 = .ok (.aload_n 3, 1) := by decide +kernel
theorem dL_law_1170 : decode cL_law 1170 = .ok (.invokestatic 142, 3) := by decide +kernel
theorem dL_law_1173 : decode cL_law 1173 = .ok (.istore 5, 2) := by decide +kernel
theorem dL_law_1175 : decode cL_law 1175 = .ok (.aload_n 2, 1) := by decide +kernel
theorem dL_law_1176 : decode cL_law 1176 = .ok (.aload_n 0, 1) := by decide +kernel
theorem dL_law_1177 : decode cL_law 1177 = .ok (.iload 4, 2) := by decide +kernel
theorem dL_law_1179 : decode cL_law 1179 = .ok (.iconst 1, 1) := by decide +kernel
theorem dL_law_1180 : decode cL_law 1180 = .ok (.iadd, 1) := by decide +kernel
theorem dL_law_1181 : decode cL_law 1181 = .ok (.iaload, 1) := by decide +kernel
theorem dL_law_1182 : decode cL_law 1182 = .ok (.invokevirtual 144, 3) := by decide +kernel
theorem dL_law_1185 : decode cL_law 1185 = .ok (.istore 6, 2) := by decide +kernel
theorem dL_law_1187 : decode cL_law 1187 = .ok (.aload_n 2, 1) := by decide +kernel
theorem dL_law_1188 : decode cL_law 1188 = .ok (.invokevirtual 86, 3) := by decide +kernel
theorem dL_law_1191 : decode cL_law 1191 = .ok (.iload 5, 2) := by decide +kernel
theorem dL_law_1193 : decode cL_law 1193 = .ok (.if_icmp .eq 5, 3) := by decide +kernel
theorem dL_law_1196 : decode cL_law 1196 = .ok (.iconst 0, 1) := by decide +kernel
theorem dL_law_1197 : decode cL_law 1197 = .ok (.ireturn, 1) := by decide +kernel
theorem dL_law_1198 : decode cL_law 1198 = .ok (.iload 5, 2) := by decide +kernel
theorem dL_law_1200 : decode cL_law 1200 = .ok (.ifCond .ne 15, 3) := by decide +kernel
theorem dL_law_1203 : decode cL_law 1203 = .ok (.aload_n 3, 1) := by decide +kernel
theorem dL_law_1204 : decode cL_law 1204 = .ok (.iconst 0, 1) := by decide +kernel
theorem dL_law_1205 : decode cL_law 1205 = .ok (.laload, 1) := by decide +kernel
theorem dL_law_1206 : decode cL_law 1206 = .ok (.iload 6, 2) := by decide +kernel
theorem dL_law_1208 : decode cL_law 1208 = .ok (.i2l, 1) := by decide +kernel
theorem dL_law_1209 : decode cL_law 1209 = .ok (.lcmp, 1) := by decide +kernel
theorem dL_law_1210 : decode cL_law 1210 = .ok (.ifCond .eq 5, 3) := by decide +kernel
theorem dL_law_1213 : decode cL_law 1213 = .ok (.iconst 0, 1) := by decide +kernel
theorem dL_law_1214 : decode cL_law 1214 = .ok (.ireturn, 1) := by decide +kernel
theorem dL_law_1215 : decode cL_law 1215 = .ok (.goto 276, 3) := by decide +kernel
theorem dL_law_1218 : decode cL_law 1218 = .ok (.aload_n 1, 1) := by decide +kernel
theorem dL_law_1219 : decode cL_law 1219 = .ok (.aload_n 0, 1) := by decide +kernel
theorem dL_law_1220 : decode cL_law 1220 = .ok (.iload 4, 2) := by decide +kernel
theorem dL_law_1222 : decode cL_law 1222 = .ok (.iconst 1, 1) := by decide +kernel
theorem dL_law_1223 : decode cL_law 1223 = .ok (.iadd, 1) := by decide +kernel
theorem dL_law_1224 : decode cL_law 1224 = .ok (.iaload, 1) := by decide +kernel
theorem dL_law_1225 : decode cL_law 1225 = .ok (.aload_n 0, 1) := by decide +kernel
theorem dL_law_1226 : decode cL_law 1226 = .ok (.iload 4, 2) := by decide +kernel
theorem dL_law_1228 : decode cL_law 1228 = .ok (.iconst 2, 1) := by decide +kernel
theorem dL_law_1229 : decode cL_law 1229 = .ok (.iadd, 1) := by decide +kernel
theorem dL_law_1230 : decode cL_law 1230 = .ok (.iaload, 1) := by decide +kernel
theorem dL_law_1231 : decode cL_law 1231 = .ok (.aload_n 3, 1) := by decide +kernel
theorem dL_law_1232 : decode cL_law 1232 = .ok (.invokestatic 145, 3) := by decide +kernel
theorem dL_law_1235 : decode cL_law 1235 = .ok (.istore 5, 2) := by decide +kernel
theorem dL_law_1237 : decode cL_law 1237 = .ok (.aload_n 2, 1) := by decide +kernel
theorem dL_law_1238 : decode cL_law 1238 = .ok (.aload_n 0, 1) := by decide +kernel
theorem dL_law_1239 : decode cL_law 1239 = .ok (.iload 4, 2) := by decide +kernel
theorem dL_law_1241 : decode cL_law 1241 = .ok (.iconst 1, 1) := by decide +kernel
theorem dL_law_1242 : decode cL_law 1242 = .ok (.iadd, 1) := by decide +kernel
theorem dL_law_1243 : decode cL_law 1243 = .ok (.iaload, 1) := by decide +kernel
theorem dL_law_1244 : decode cL_law 1244 = .ok (.aload_n 0, 1) := by decide +kernel
theorem dL_law_1245 : decode cL_law 1245 = .ok (.iload 4, 2) := by decide +kernel
theorem dL_law_1247 : decode cL_law 1247 = .ok (.iconst 2, 1) := by decide +kernel
theorem dL_law_1248 : decode cL_law 1248 = .ok (.iadd, 1) := by decide +kernel
theorem dL_law_1249 : decode cL_law 1249 = .ok (.iaload, 1) := by decide +kernel
theorem dL_law_1250 : decode cL_law 1250 = .ok (.invokevirtual 147, 3) := by decide +kernel
theorem dL_law_1253 : decode cL_law 1253 = .ok (.istore 6, 2) := by decide +kernel
theorem dL_law_1255 : decode cL_law 1255 = .ok (.aload_n 2, 1) := by decide +kernel
theorem dL_law_1256 : decode cL_law 1256 = .ok (.invokevirtual 86, 3) := by decide +kernel
theorem dL_law_1259 : decode cL_law 1259 = .ok (.iload 5, 2) := by decide +kernel
theorem dL_law_1261 : decode cL_law 1261 = .ok (.if_icmp .eq 5, 3) := by decide +kernel
theorem dL_law_1264 : decode cL_law 1264 = .ok (.iconst 0, 1) := by decide +kernel
theorem dL_law_1265 : decode cL_law 1265 = .ok (.ireturn, 1) := by decide +kernel
theorem dL_law_1266 : decode cL_law 1266 = .ok (.iload 5, 2) := by decide +kernel
theorem dL_law_1268 : decode cL_law 1268 = .ok (.ifCond .ne 15, 3) := by decide +kernel
theorem dL_law_1271 : decode cL_law 1271 = .ok (.aload_n 3, 1) := by decide +kernel
theorem dL_law_1272 : decode cL_law 1272 = .ok (.iconst 0, 1) := by decide +kernel
theorem dL_law_1273 : decode cL_law 1273 = .ok (.laload, 1) := by decide +kernel
theorem dL_law_1274 : decode cL_law 1274 = .ok (.iload 6, 2) := by decide +kernel
theorem dL_law_1276 : decode cL_law 1276 = .ok (.i2l, 1) := by decide +kernel
theorem dL_law_1277 : decode cL_law 1277 = .ok (.lcmp, 1) := by decide +kernel
theorem dL_law_1278 : decode cL_law 1278 = .ok (.ifCond .eq 5, 3) := by decide +kernel
theorem dL_law_1281 : decode cL_law 1281 = .ok (.iconst 0, 1) := by decide +kernel
theorem dL_law_1282 : decode cL_law 1282 = .ok (.ireturn, 1) := by decide +kernel
theorem dL_law_1283 : decode cL_law 1283 = .ok (.goto 208, 3) := by decide +kernel
theorem dL_law_1286 : decode cL_law 1286 = .ok (.aload_n 1, 1) := by decide +kernel
theorem dL_law_1287 : decode cL_law 1287 = .ok (.aload_n 0, 1) := by decide +kernel
theorem dL_law_1288 : decode cL_law 1288 = .ok (.iload 4, 2) := by decide +kernel
theorem dL_law_1290 : decode cL_law 1290 = .ok (.iconst 1, 1) := by decide +kernel
theorem dL_law_1291 : decode cL_law 1291 = .ok (.iadd, 1) := by decide +kernel
theorem dL_law_1292 : decode cL_law 1292 = .ok (.iaload, 1) := by decide +kernel
theorem dL_law_1293 : decode cL_law 1293 = .ok (.aload_n 3, 1) := by decide +kernel
theorem dL_law_1294 : decode cL_law 1294 = .ok (.invokestatic 148, 3) := by decide +kernel
theorem dL_law_1297 : decode cL_law 1297 = .ok (.istore 5, 2) := by decide +kernel
theorem dL_law_1299 : decode cL_law 1299 = .ok (.aload_n 2, 1) := by decide +kernel
theorem dL_law_1300 : decode cL_law 1300 = .ok (.aload_n 0, 1) := by decide +kernel
theorem dL_law_1301 : decode cL_law 1301 = .ok (.iload 4, 2) := by decide +kernel
theorem dL_law_1303 : decode cL_law 1303 = .ok (.iconst 1, 1) := by decide +kernel
theorem dL_law_1304 : decode cL_law 1304 = .ok (.iadd, 1) := by decide +kernel
theorem dL_law_1305 : decode cL_law 1305 = .ok (.iaload, 1) := by decide +kernel
theorem dL_law_1306 : decode cL_law 1306 = .ok (.invokevirtual 150, 3) := by decide +kernel
theorem dL_law_1309 : decode cL_law 1309 = .ok (.istore 6, 2) := by decide +kernel
theorem dL_law_1311 : decode cL_law 1311 = .ok (.aload_n 2, 1) := by decide +kernel
theorem dL_law_1312 : decode cL_law 1312 = .ok (.invokevirtual 86, 3) := by decide +kernel
theorem dL_law_1315 : decode cL_law 1315 = .ok (.iload 5, 2) := by decide +kernel
theorem dL_law_1317 : decode cL_law 1317 = .ok (.if_icmp .eq 5, 3) := by decide +kernel
theorem dL_law_1320 : decode cL_law 1320 = .ok (.iconst 0, 1) := by decide +kernel
theorem dL_law_1321 : decode cL_law 1321 = .ok (.ireturn, 1) := by decide +kernel
theorem dL_law_1322 : decode cL_law 1322 = .ok (.iload 5, 2) := by decide +kernel
theorem dL_law_1324 : decode cL_law 1324 = .ok (.ifCond .ne 15, 3) := by decide +kernel
theorem dL_law_1327 : decode cL_law 1327 = .ok (.aload_n 3, 1) := by decide +kernel
theorem dL_law_1328 : decode cL_law 1328 = .ok (.iconst 0, 1) := by decide +kernel
theorem dL_law_1329 : decode cL_law 1329 = .ok (.laload, 1) := by decide +kernel
theorem dL_law_1330 : decode cL_law 1330 = .ok (.iload 6, 2) := by decide +kernel
theorem dL_law_1332 : decode cL_law 1332 = .ok (.i2l, 1) := by decide +kernel
theorem dL_law_1333 : decode cL_law 1333 = .ok (.lcmp, 1) := by decide +kernel
theorem dL_law_1334 : decode cL_law 1334 = .ok (.ifCond .eq 5, 3) := by decide +kernel
theorem dL_law_1337 : decode cL_law 1337 = .ok (.iconst 0, 1) := by decide +kernel
theorem dL_law_1338 : decode cL_law 1338 = .ok (.ireturn, 1) := by decide +kernel
theorem dL_law_1339 : decode cL_law 1339 = .ok (.goto 152, 3) := by decide +kernel
theorem dL_law_1342 : decode cL_law 1342 = .ok (.aload_n 1, 1) := by decide +kernel
theorem dL_law_1343 : decode cL_law 1343 = .ok (.aload_n 0, 1) := by decide +kernel
theorem dL_law_1344 : decode cL_law 1344 = .ok (.iload 4, 2) := by decide +kernel
theorem dL_law_1346 : decode cL_law 1346 = .ok (.iconst 1, 1) := by decide +kernel
theorem dL_law_1347 : decode cL_law 1347 = .ok (.iadd, 1) := by decide +kernel
theorem dL_law_1348 : decode cL_law 1348 = .ok (.iaload, 1) := by decide +kernel
theorem dL_law_1349 : decode cL_law 1349 = .ok (.aload_n 0, 1) := by decide +kernel
theorem dL_law_1350 : decode cL_law 1350 = .ok (.iload 4, 2) := by decide +kernel
theorem dL_law_1352 : decode cL_law 1352 = .ok (.iconst 2, 1) := by decide +kernel
theorem dL_law_1353 : decode cL_law 1353 = .ok (.iadd, 1) := by decide +kernel
theorem dL_law_1354 : decode cL_law 1354 = .ok (.iaload, 1) := by decide +kernel
theorem dL_law_1355 : decode cL_law 1355 = .ok (.aload_n 3, 1) := by decide +kernel
theorem dL_law_1356 : decode cL_law 1356 = .ok (.invokestatic 151, 3) := by decide +kernel
theorem dL_law_1359 : decode cL_law 1359 = .ok (.istore 5, 2) := by decide +kernel
theorem dL_law_1361 : decode cL_law 1361 = .ok (.aload_n 2, 1) := by decide +kernel
theorem dL_law_1362 : decode cL_law 1362 = .ok (.aload_n 0, 1) := by decide +kernel
theorem dL_law_1363 : decode cL_law 1363 = .ok (.iload 4, 2) := by decide +kernel
theorem dL_law_1365 : decode cL_law 1365 = .ok (.iconst 1, 1) := by decide +kernel
theorem dL_law_1366 : decode cL_law 1366 = .ok (.iadd, 1) := by decide +kernel
theorem dL_law_1367 : decode cL_law 1367 = .ok (.iaload, 1) := by decide +kernel
theorem dL_law_1368 : decode cL_law 1368 = .ok (.aload_n 0, 1) := by decide +kernel
theorem dL_law_1369 : decode cL_law 1369 = .ok (.iload 4, 2) := by decide +kernel
theorem dL_law_1371 : decode cL_law 1371 = .ok (.iconst 2, 1) := by decide +kernel
theorem dL_law_1372 : decode cL_law 1372 = .ok (.iadd, 1) := by decide +kernel
theorem dL_law_1373 : decode cL_law 1373 = .ok (.iaload, 1) := by decide +kernel
theorem dL_law_1374 : decode cL_law 1374 = .ok (.invokevirtual 153, 3) := by decide +kernel
theorem dL_law_1377 : decode cL_law 1377 = .ok (.istore 6, 2) := by decide +kernel
theorem dL_law_1379 : decode cL_law 1379 = .ok (.aload_n 2, 1) := by decide +kernel
theorem dL_law_1380 : decode cL_law 1380 = .ok (.invokevirtual 86, 3) := by decide +kernel
theorem dL_law_1383 : decode cL_law 1383 = .ok (.iload 5, 2) := by decide +kernel
theorem dL_law_1385 : decode cL_law 1385 = .ok (.if_icmp .eq 5, 3) := by decide +kernel
theorem dL_law_1388 : decode cL_law 1388 = .ok (.iconst 0, 1) := by decide +kernel
theorem dL_law_1389 : decode cL_law 1389 = .ok (.ireturn, 1) := by decide +kernel
theorem dL_law_1390 : decode cL_law 1390 = .ok (.iload 5, 2) := by decide +kernel
theorem dL_law_1392 : decode cL_law 1392 = .ok (.ifCond .ne 15, 3) := by decide +kernel
theorem dL_law_1395 : decode cL_law 1395 = .ok (.aload_n 3, 1) := by decide +kernel
theorem dL_law_1396 : decode cL_law 1396 = .ok (.iconst 0, 1) := by decide +kernel
theorem dL_law_1397 : decode cL_law 1397 = .ok (.laload, 1) := by decide +kernel
theorem dL_law_1398 : decode cL_law 1398 = .ok (.iload 6, 2) := by decide +kernel
theorem dL_law_1400 : decode cL_law 1400 = .ok (.i2l, 1) := by decide +kernel
theorem dL_law_1401 : decode cL_law 1401 = .ok (.lcmp, 1) := by decide +kernel
theorem dL_law_1402 : decode cL_law 1402 = .ok (.ifCond .eq 5, 3) := by decide +kernel
theorem dL_law_1405 : decode cL_law 1405 = .ok (.iconst 0, 1) := by decide +kernel
theorem dL_law_1406 : decode cL_law 1406 = .ok (.ireturn, 1) := by decide +kernel
theorem dL_law_1407 : decode cL_law 1407 = .ok (.goto 84, 3) := by decide +kernel
theorem dL_law_1410 : decode cL_law 1410 = .ok (.aload_n 1, 1) := by decide +kernel
theorem dL_law_1411 : decode cL_law 1411 = .ok (.invokevirtual 154, 3) := by decide +kernel
theorem dL_law_1414 : decode cL_law 1414 = .ok (.aload_n 2, 1) := by decide +kernel
theorem dL_law_1415 : decode cL_law 1415 = .ok (.invokevirtual 157, 3) := by decide +kernel
theorem dL_law_1418 : decode cL_law 1418 = .ok (.if_icmp .eq 73, 3) := by decide +kernel
theorem dL_law_1421 : decode cL_law 1421 = .ok (.iconst 0, 1) := by decide +kernel
theorem dL_law_1422 : decode cL_law 1422 = .ok (.ireturn, 1) := by decide +kernel
theorem dL_law_1423 : decode cL_law 1423 = .ok (.aload_n 1, 1) := by decide +kernel
theorem dL_law_1424 : decode cL_law 1424 = .ok (.invokevirtual 158, 3) := by decide +kernel
theorem dL_law_1427 : decode cL_law 1427 = .ok (.aload_n 2, 1) := by decide +kernel
theorem dL_law_1428 : decode cL_law 1428 = .ok (.invokevirtual 161, 3) := by decide +kernel
theorem dL_law_1431 : decode cL_law 1431 = .ok (.if_icmp .eq 60, 3) := by decide +kernel
theorem dL_law_1434 : decode cL_law 1434 = .ok (.iconst 0, 1) := by decide +kernel
theorem dL_law_1435 : decode cL_law 1435 = .ok (.ireturn, 1) := by decide +kernel
theorem dL_law_1436 : decode cL_law 1436 = .ok (.aload_n 1, 1) := by decide +kernel
theorem dL_law_1437 : decode cL_law 1437 = .ok (.invokevirtual 162, 3) := by decide +kernel
theorem dL_law_1440 : decode cL_law 1440 = .ok (.dstore 5, 2) := by decide +kernel
theorem dL_law_1442 : decode cL_law 1442 = .ok (.aload_n 2, 1) := by decide +kernel
theorem dL_law_1443 : decode cL_law 1443 = .ok (.invokevirtual 166, 3) := by decide +kernel
theorem dL_law_1446 : decode cL_law 1446 = .ok (.dstore 7, 2) := by decide +kernel
theorem dL_law_1448 : decode cL_law 1448 = .ok (.dload 5, 2) := by decide +kernel
theorem dL_law_1450 : decode cL_law 1450 = .ok (.dload 7, 2) := by decide +kernel
theorem dL_law_1452 : decode cL_law 1452 = .ok (.dcmp .l, 1) := by decide +kernel
theorem dL_law_1453 : decode cL_law 1453 = .ok (.ifCond .eq 21, 3) := by decide +kernel
theorem dL_law_1456 : decode cL_law 1456 = .ok (.dload 5, 2) := by decide +kernel
theorem dL_law_1458 : decode cL_law 1458 = .ok (.dload 5, 2) := by decide +kernel
theorem dL_law_1460 : decode cL_law 1460 = .ok (.dcmp .l, 1) := by decide +kernel
theorem dL_law_1461 : decode cL_law 1461 = .ok (.ifCond .eq 11, 3) := by decide +kernel
theorem dL_law_1464 : decode cL_law 1464 = .ok (.dload 7, 2) := by decide +kernel
theorem dL_law_1466 : decode cL_law 1466 = .ok (.dload 7, 2) := by decide +kernel
theorem dL_law_1468 : decode cL_law 1468 = .ok (.dcmp .l, 1) := by decide +kernel
theorem dL_law_1469 : decode cL_law 1469 = .ok (.ifCond .ne 5, 3) := by decide +kernel
theorem dL_law_1472 : decode cL_law 1472 = .ok (.iconst 0, 1) := by decide +kernel
theorem dL_law_1473 : decode cL_law 1473 = .ok (.ireturn, 1) := by decide +kernel
theorem dL_law_1474 : decode cL_law 1474 = .ok (.goto 17, 3) := by decide +kernel
theorem dL_law_1477 : decode cL_law 1477 = .ok (.aload_n 1, 1) := by decide +kernel
theorem dL_law_1478 : decode cL_law 1478 = .ok (.invokevirtual 167, 3) := by decide +kernel
theorem dL_law_1481 : decode cL_law 1481 = .ok (.aload_n 2, 1) := by decide +kernel
theorem dL_law_1482 : decode cL_law 1482 = .ok (.invokevirtual 171, 3) := by decide +kernel
theorem dL_law_1485 : decode cL_law 1485 = .ok (.lcmp, 1) := by decide +kernel
theorem dL_law_1486 : decode cL_law 1486 = .ok (.ifCond .eq 5, 3) := by decide +kernel
theorem dL_law_1489 : decode cL_law 1489 = .ok (.iconst 0, 1) := by decide +kernel
theorem dL_law_1490 : decode cL_law 1490 = .ok (.ireturn, 1) := by decide +kernel
theorem dL_law_1491 : decode cL_law 1491 = .ok (.iinc 4 4, 3) := by decide +kernel
theorem dL_law_1494 : decode cL_law 1494 = .ok (.goto (-1471), 3) := by decide +kernel
theorem dL_law_1497 : decode cL_law 1497 = .ok (.iconst 1, 1) := by decide +kernel
theorem dL_law_1498 : decode cL_law 1498 = .ok (.ireturn, 1) := by decide +kernel
end
section
def gw : List Cond := lw_tbl.filter goodWord
theorem gw_of {w : Cond} (i : Nat) (h : lw_tbl[i]? = some w) (g : goodWord w = true) : w ∈ gw := List.mem_filter.mpr ⟨List.mem_of_getElem? h, g⟩
theorem gw_tbl : ∀ w ∈ gw, w ∈ lw_tbl := fun _ h => (List.mem_filter.mp h).1
theorem gw_good : ∀ w ∈ gw, goodWord w = true := fun _ h => (List.mem_filter.mp h).2
theorem gw_in : GoodIn gw gw := fun w h => ⟨h, good_of_word (gw_good w h)⟩
theorem m0 : (Jvm.Cond.selects "NumberLeases$Orders" ({ cls := "NumberLeases$Orders", name := "readSign", desc := "(I)V" } : Jvm.MethodName) ({ cls := "NumberLeases$Orders", name := "readSign", desc := "(I)V" } : Jvm.MethodName)) ∈ gw := gw_of 0 (by decide +kernel) (by decide +kernel)
theorem m1 : (Jvm.Cond.selects "NumberLeases$Orders" ({ cls := "NumberLeases$Orders", name := "readOrder", desc := "()V" } : Jvm.MethodName) ({ cls := "NumberLeases$Orders", name := "readOrder", desc := "()V" } : Jvm.MethodName)) ∈ gw := gw_of 1 (by decide +kernel) (by decide +kernel)
theorem m2 : (Jvm.Cond.selects "NumberLeases$Orders" ({ cls := "NumberLeases$Orders", name := "readNumber", desc := "(II)I" } : Jvm.MethodName) ({ cls := "NumberLeases$Orders", name := "readNumber", desc := "(II)I" } : Jvm.MethodName)) ∈ gw := gw_of 2 (by decide +kernel) (by decide +kernel)
theorem m3 : (Jvm.Cond.selects "NumberLeases$Orders" ({ cls := "NumberLeases$Orders", name := "digitAt", desc := "(I)I" } : Jvm.MethodName) ({ cls := "NumberLeases$Orders", name := "digitAt", desc := "(I)I" } : Jvm.MethodName)) ∈ gw := gw_of 3 (by decide +kernel) (by decide +kernel)
theorem m4 : (Jvm.Cond.selects "NumberLeases" ({ cls := "NumberLeases", name := "fullnessBits", desc := "()I" } : Jvm.MethodName) ({ cls := "NumberLeases", name := "fullnessBits", desc := "()I" } : Jvm.MethodName)) ∈ gw := gw_of 4 (by decide +kernel) (by decide +kernel)
theorem m5 : (Jvm.Cond.selects "NumberLeases$Pool" ({ cls := "NumberLeases$Pool", name := "numbersIn", desc := "(I)I" } : Jvm.MethodName) ({ cls := "NumberLeases$Pool", name := "numbersIn", desc := "(I)I" } : Jvm.MethodName)) ∈ gw := gw_of 5 (by decide +kernel) (by decide +kernel)
theorem m6 : (Jvm.Cond.selects "NumberLeases$Pool" ({ cls := "NumberLeases$Pool", name := "stateOf", desc := "(I)I" } : Jvm.MethodName) ({ cls := "NumberLeases$Pool", name := "stateOf", desc := "(I)I" } : Jvm.MethodName)) ∈ gw := gw_of 6 (by decide +kernel) (by decide +kernel)
theorem m7 : (Jvm.Cond.selects "NumberLeases" ({ cls := "NumberLeases", name := "scatterBits", desc := "()I" } : Jvm.MethodName) ({ cls := "NumberLeases", name := "scatterBits", desc := "()I" } : Jvm.MethodName)) ∈ gw := gw_of 7 (by decide +kernel) (by decide +kernel)
theorem m8 : (Jvm.Cond.selects "NumberLeases$Pool" ({ cls := "NumberLeases$Pool", name := "rowFrom", desc := "(I)I" } : Jvm.MethodName) ({ cls := "NumberLeases$Pool", name := "rowFrom", desc := "(I)I" } : Jvm.MethodName)) ∈ gw := gw_of 8 (by decide +kernel) (by decide +kernel)
theorem m9 : (Jvm.Cond.selects "NumberLeases" ({ cls := "NumberLeases", name := "meanUnits", desc := "()D" } : Jvm.MethodName) ({ cls := "NumberLeases", name := "meanUnits", desc := "()D" } : Jvm.MethodName)) ∈ gw := gw_of 9 (by decide +kernel) (by decide +kernel)
theorem m10 : (Jvm.Cond.selects "NumberLeases" ({ cls := "NumberLeases", name := "countOf", desc := "(I)I" } : Jvm.MethodName) ({ cls := "NumberLeases", name := "countOf", desc := "(I)I" } : Jvm.MethodName)) ∈ gw := gw_of 10 (by decide +kernel) (by decide +kernel)
theorem m11 : (Jvm.Cond.selects "NumberLeases$Pool" ({ cls := "NumberLeases$Pool", name := "startsSpan", desc := "(I)Z" } : Jvm.MethodName) ({ cls := "NumberLeases$Pool", name := "startsSpan", desc := "(I)Z" } : Jvm.MethodName)) ∈ gw := gw_of 11 (by decide +kernel) (by decide +kernel)
theorem m12 : (Jvm.Cond.selects "NumberLeases" ({ cls := "NumberLeases", name := "addNumbers", desc := "(J)J" } : Jvm.MethodName) ({ cls := "NumberLeases", name := "addNumbers", desc := "(J)J" } : Jvm.MethodName)) ∈ gw := gw_of 12 (by decide +kernel) (by decide +kernel)
theorem m13 : (Jvm.Cond.selects "NumberLeases" ({ cls := "NumberLeases", name := "addHolders", desc := "(J)J" } : Jvm.MethodName) ({ cls := "NumberLeases", name := "addHolders", desc := "(J)J" } : Jvm.MethodName)) ∈ gw := gw_of 13 (by decide +kernel) (by decide +kernel)
theorem m14 : (Jvm.Cond.selects "NumberLeases$Pool" ({ cls := "NumberLeases$Pool", name := "numbersOfIn", desc := "(II)I" } : Jvm.MethodName) ({ cls := "NumberLeases$Pool", name := "numbersOfIn", desc := "(II)I" } : Jvm.MethodName)) ∈ gw := gw_of 14 (by decide +kernel) (by decide +kernel)
theorem m15 : (Jvm.Cond.selects "NumberLeases$Pool" ({ cls := "NumberLeases$Pool", name := "wishesOf", desc := "(I)I" } : Jvm.MethodName) ({ cls := "NumberLeases$Pool", name := "wishesOf", desc := "(I)I" } : Jvm.MethodName)) ∈ gw := gw_of 15 (by decide +kernel) (by decide +kernel)
theorem m16 : (Jvm.Cond.selects "NumberLeases$Pool" ({ cls := "NumberLeases$Pool", name := "leastOf", desc := "(I)I" } : Jvm.MethodName) ({ cls := "NumberLeases$Pool", name := "leastOf", desc := "(I)I" } : Jvm.MethodName)) ∈ gw := gw_of 16 (by decide +kernel) (by decide +kernel)
theorem m17 : (Jvm.Cond.selects "NumberLeases$Pool" ({ cls := "NumberLeases$Pool", name := "leastEndOf", desc := "(I)I" } : Jvm.MethodName) ({ cls := "NumberLeases$Pool", name := "leastEndOf", desc := "(I)I" } : Jvm.MethodName)) ∈ gw := gw_of 17 (by decide +kernel) (by decide +kernel)
theorem m18 : (Jvm.Cond.selects "NumberLeases" ({ cls := "NumberLeases", name := "timeToWished", desc := "(II)I" } : Jvm.MethodName) ({ cls := "NumberLeases", name := "timeToWished", desc := "(II)I" } : Jvm.MethodName)) ∈ gw := gw_of 18 (by decide +kernel) (by decide +kernel)
theorem m19 : (Jvm.Cond.selects "NumberLeases$Pool" ({ cls := "NumberLeases$Pool", name := "hasRoom", desc := "(II)Z" } : Jvm.MethodName) ({ cls := "NumberLeases$Pool", name := "hasRoom", desc := "(II)Z" } : Jvm.MethodName)) ∈ gw := gw_of 19 (by decide +kernel) (by decide +kernel)
theorem m20 : (Jvm.Cond.selects "NumberLeases$Pool" ({ cls := "NumberLeases$Pool", name := "numbersOf", desc := "(I)I" } : Jvm.MethodName) ({ cls := "NumberLeases$Pool", name := "numbersOf", desc := "(I)I" } : Jvm.MethodName)) ∈ gw := gw_of 20 (by decide +kernel) (by decide +kernel)
theorem m21 : (Jvm.Cond.selects "NumberLeases$Pool" ({ cls := "NumberLeases$Pool", name := "lease", desc := "(III)V" } : Jvm.MethodName) ({ cls := "NumberLeases$Pool", name := "lease", desc := "(III)V" } : Jvm.MethodName)) ∈ gw := gw_of 21 (by decide +kernel) (by decide +kernel)
theorem m22 : (Jvm.Cond.selects "NumberLeases$Pool" ({ cls := "NumberLeases$Pool", name := "freeDue", desc := "()V" } : Jvm.MethodName) ({ cls := "NumberLeases$Pool", name := "freeDue", desc := "()V" } : Jvm.MethodName)) ∈ gw := gw_of 22 (by decide +kernel) (by decide +kernel)
theorem m23 : (Jvm.Cond.selects "NumberLeases$Pool" ({ cls := "NumberLeases$Pool", name := "free", desc := "(I)V" } : Jvm.MethodName) ({ cls := "NumberLeases$Pool", name := "free", desc := "(I)V" } : Jvm.MethodName)) ∈ gw := gw_of 23 (by decide +kernel) (by decide +kernel)
theorem m24 : (Jvm.Cond.selects "NumberLeases" ({ cls := "NumberLeases", name := "addSpans", desc := "(J)J" } : Jvm.MethodName) ({ cls := "NumberLeases", name := "addSpans", desc := "(J)J" } : Jvm.MethodName)) ∈ gw := gw_of 24 (by decide +kernel) (by decide +kernel)
theorem m25 : (Jvm.Cond.selects "NumberLeases$Pool" ({ cls := "NumberLeases$Pool", name := "startOfSpan", desc := "(I)I" } : Jvm.MethodName) ({ cls := "NumberLeases$Pool", name := "startOfSpan", desc := "(I)I" } : Jvm.MethodName)) ∈ gw := gw_of 25 (by decide +kernel) (by decide +kernel)
theorem m26 : (Jvm.Cond.selects "NumberLeases" ({ cls := "NumberLeases", name := "holderAfter", desc := "(II)I" } : Jvm.MethodName) ({ cls := "NumberLeases", name := "holderAfter", desc := "(II)I" } : Jvm.MethodName)) ∈ gw := gw_of 26 (by decide +kernel) (by decide +kernel)
theorem m27 : (Jvm.Cond.selects "NumberLeases" ({ cls := "NumberLeases", name := "timeToFree", desc := "(I)I" } : Jvm.MethodName) ({ cls := "NumberLeases", name := "timeToFree", desc := "(I)I" } : Jvm.MethodName)) ∈ gw := gw_of 27 (by decide +kernel) (by decide +kernel)
theorem m28 : (Jvm.Cond.selects "NumberLeases" ({ cls := "NumberLeases", name := "addBuffer", desc := "(J)J" } : Jvm.MethodName) ({ cls := "NumberLeases", name := "addBuffer", desc := "(J)J" } : Jvm.MethodName)) ∈ gw := gw_of 28 (by decide +kernel) (by decide +kernel)
theorem m29 : (Jvm.Cond.selects "NumberLeases" ({ cls := "NumberLeases", name := "leaseLowest", desc := "(III)I" } : Jvm.MethodName) ({ cls := "NumberLeases", name := "leaseLowest", desc := "(III)I" } : Jvm.MethodName)) ∈ gw := gw_of 29 (by decide +kernel) (by decide +kernel)
theorem m30 : (Jvm.Cond.selects "java/lang/Throwable" ({ cls := "java/lang/Throwable", name := "fillInStackTrace", desc := "(I)Ljava/lang/Throwable;" } : Jvm.MethodName) ({ cls := "java/lang/Throwable", name := "fillInStackTrace", desc := "(I)Ljava/lang/Throwable;" } : Jvm.MethodName)) ∈ gw := gw_of 30 (by decide +kernel) (by decide +kernel)
theorem m31 : (Jvm.Cond.selects "NumberLeases$Pool" ({ cls := "NumberLeases$Pool", name := "lowestRow", desc := "(I)I" } : Jvm.MethodName) ({ cls := "NumberLeases$Pool", name := "lowestRow", desc := "(I)I" } : Jvm.MethodName)) ∈ gw := gw_of 31 (by decide +kernel) (by decide +kernel)
theorem m32 : (Jvm.Cond.selects "NumberLeases$Saves" ({ cls := "NumberLeases$Saves", name := "dropOldest", desc := "()V" } : Jvm.MethodName) ({ cls := "NumberLeases$Saves", name := "dropOldest", desc := "()V" } : Jvm.MethodName)) ∈ gw := gw_of 32 (by decide +kernel) (by decide +kernel)
theorem m33 : (Jvm.Cond.selects "NumberLeases" ({ cls := "NumberLeases", name := "needNumber", desc := "(I)V" } : Jvm.MethodName) ({ cls := "NumberLeases", name := "needNumber", desc := "(I)V" } : Jvm.MethodName)) ∈ gw := gw_of 33 (by decide +kernel) (by decide +kernel)
theorem m34 : (Jvm.Cond.selects "NumberLeases$Pool" ({ cls := "NumberLeases$Pool", name := "countUnits", desc := "()V" } : Jvm.MethodName) ({ cls := "NumberLeases$Pool", name := "countUnits", desc := "()V" } : Jvm.MethodName)) ∈ gw := gw_of 34 (by decide +kernel) (by decide +kernel)
theorem m35 : (Jvm.Cond.selects "NumberLeases" ({ cls := "NumberLeases", name := "carryOut", desc := "()Z" } : Jvm.MethodName) ({ cls := "NumberLeases", name := "carryOut", desc := "()Z" } : Jvm.MethodName)) ∈ gw := gw_of 35 (by decide +kernel) (by decide +kernel)
theorem m36 : (Jvm.Cond.selects "NumberLeasesModel" ({ cls := "NumberLeasesModel", name := "fails", desc := "(I)I" } : Jvm.MethodName) ({ cls := "NumberLeasesModel", name := "fails", desc := "(I)I" } : Jvm.MethodName)) ∈ gw := gw_of 36 (by decide +kernel) (by decide +kernel)
theorem m37 : (Jvm.Cond.selects "NumberLeasesModel" ({ cls := "NumberLeasesModel", name := "mayTake", desc := "(I)Z" } : Jvm.MethodName) ({ cls := "NumberLeasesModel", name := "mayTake", desc := "(I)Z" } : Jvm.MethodName)) ∈ gw := gw_of 37 (by decide +kernel) (by decide +kernel)
theorem m38 : (Jvm.Cond.selects "NumberLeasesModel" ({ cls := "NumberLeasesModel", name := "saves", desc := "()V" } : Jvm.MethodName) ({ cls := "NumberLeasesModel", name := "saves", desc := "()V" } : Jvm.MethodName)) ∈ gw := gw_of 38 (by decide +kernel) (by decide +kernel)
theorem m39 : (Jvm.Cond.selects "NumberLeasesModel" ({ cls := "NumberLeasesModel", name := "takes", desc := "(II)I" } : Jvm.MethodName) ({ cls := "NumberLeasesModel", name := "takes", desc := "(II)I" } : Jvm.MethodName)) ∈ gw := gw_of 39 (by decide +kernel) (by decide +kernel)
theorem m40 : (Jvm.Cond.selects "NumberLeasesModel" ({ cls := "NumberLeasesModel", name := "isNumber", desc := "(I)Z" } : Jvm.MethodName) ({ cls := "NumberLeasesModel", name := "isNumber", desc := "(I)Z" } : Jvm.MethodName)) ∈ gw := gw_of 40 (by decide +kernel) (by decide +kernel)
theorem m41 : (Jvm.Cond.selects "NumberLeasesModel" ({ cls := "NumberLeasesModel", name := "mayWish", desc := "(II)Z" } : Jvm.MethodName) ({ cls := "NumberLeasesModel", name := "mayWish", desc := "(II)Z" } : Jvm.MethodName)) ∈ gw := gw_of 41 (by decide +kernel) (by decide +kernel)
theorem m42 : (Jvm.Cond.selects "NumberLeasesModel" ({ cls := "NumberLeasesModel", name := "wishes", desc := "(III)I" } : Jvm.MethodName) ({ cls := "NumberLeasesModel", name := "wishes", desc := "(III)I" } : Jvm.MethodName)) ∈ gw := gw_of 42 (by decide +kernel) (by decide +kernel)
theorem m43 : (Jvm.Cond.selects "NumberLeasesModel" ({ cls := "NumberLeasesModel", name := "givesBack", desc := "(III)I" } : Jvm.MethodName) ({ cls := "NumberLeasesModel", name := "givesBack", desc := "(III)I" } : Jvm.MethodName)) ∈ gw := gw_of 43 (by decide +kernel) (by decide +kernel)
theorem m44 : (Jvm.Cond.selects "NumberLeasesModel" ({ cls := "NumberLeasesModel", name := "passesBy", desc := "(I)I" } : Jvm.MethodName) ({ cls := "NumberLeasesModel", name := "passesBy", desc := "(I)I" } : Jvm.MethodName)) ∈ gw := gw_of 44 (by decide +kernel) (by decide +kernel)
theorem m45 : (Jvm.Cond.selects "NumberLeasesModel" ({ cls := "NumberLeasesModel", name := "isFor", desc := "(II)Z" } : Jvm.MethodName) ({ cls := "NumberLeasesModel", name := "isFor", desc := "(II)Z" } : Jvm.MethodName)) ∈ gw := gw_of 45 (by decide +kernel) (by decide +kernel)
theorem m46 : (Jvm.Cond.selects "NumberLeasesModel" ({ cls := "NumberLeasesModel", name := "isText", desc := "()Z" } : Jvm.MethodName) ({ cls := "NumberLeasesModel", name := "isText", desc := "()Z" } : Jvm.MethodName)) ∈ gw := gw_of 46 (by decide +kernel) (by decide +kernel)
theorem m47 : (Jvm.Cond.selects "NumberLeasesModel" ({ cls := "NumberLeasesModel", name := "isOrder", desc := "()Z" } : Jvm.MethodName) ({ cls := "NumberLeasesModel", name := "isOrder", desc := "()Z" } : Jvm.MethodName)) ∈ gw := gw_of 47 (by decide +kernel) (by decide +kernel)
theorem m48 : (Jvm.Cond.selects "NumberLeasesModel" ({ cls := "NumberLeasesModel", name := "isAt", desc := "(II)Z" } : Jvm.MethodName) ({ cls := "NumberLeasesModel", name := "isAt", desc := "(II)Z" } : Jvm.MethodName)) ∈ gw := gw_of 48 (by decide +kernel) (by decide +kernel)
theorem m49 : (Jvm.Cond.selects "NumberLeasesModel" ({ cls := "NumberLeasesModel", name := "stops", desc := "()Z" } : Jvm.MethodName) ({ cls := "NumberLeasesModel", name := "stops", desc := "()Z" } : Jvm.MethodName)) ∈ gw := gw_of 49 (by decide +kernel) (by decide +kernel)
theorem m50 : (Jvm.Cond.selects "NumberLeasesModel" ({ cls := "NumberLeasesModel", name := "isTold", desc := "(III)Z" } : Jvm.MethodName) ({ cls := "NumberLeasesModel", name := "isTold", desc := "(III)Z" } : Jvm.MethodName)) ∈ gw := gw_of 50 (by decide +kernel) (by decide +kernel)
theorem m51 : (Jvm.Cond.selects "NumberLeasesModel" ({ cls := "NumberLeasesModel", name := "isWhole", desc := "(II)Z" } : Jvm.MethodName) ({ cls := "NumberLeasesModel", name := "isWhole", desc := "(II)Z" } : Jvm.MethodName)) ∈ gw := gw_of 51 (by decide +kernel) (by decide +kernel)
theorem m52 : (Jvm.Cond.selects "NumberLeasesModel" ({ cls := "NumberLeasesModel", name := "isSign", desc := "(I)Z" } : Jvm.MethodName) ({ cls := "NumberLeasesModel", name := "isSign", desc := "(I)Z" } : Jvm.MethodName)) ∈ gw := gw_of 52 (by decide +kernel) (by decide +kernel)
theorem m53 : (Jvm.Cond.selects "NumberLeasesModel" ({ cls := "NumberLeasesModel", name := "isDone", desc := "(I)Z" } : Jvm.MethodName) ({ cls := "NumberLeasesModel", name := "isDone", desc := "(I)Z" } : Jvm.MethodName)) ∈ gw := gw_of 53 (by decide +kernel) (by decide +kernel)
theorem m54 : (Jvm.Cond.selects "NumberLeasesModel" ({ cls := "NumberLeasesModel", name := "ofNumber", desc := "(II)I" } : Jvm.MethodName) ({ cls := "NumberLeasesModel", name := "ofNumber", desc := "(II)I" } : Jvm.MethodName)) ∈ gw := gw_of 54 (by decide +kernel) (by decide +kernel)
theorem m55 : (Jvm.Cond.selects "NumberLeasesModel" ({ cls := "NumberLeasesModel", name := "ofHolder", desc := "(II)I" } : Jvm.MethodName) ({ cls := "NumberLeasesModel", name := "ofHolder", desc := "(II)I" } : Jvm.MethodName)) ∈ gw := gw_of 55 (by decide +kernel) (by decide +kernel)
theorem m56 : (Jvm.Cond.selects "NumberLeasesModel" ({ cls := "NumberLeasesModel", name := "spans", desc := "(II)I" } : Jvm.MethodName) ({ cls := "NumberLeasesModel", name := "spans", desc := "(II)I" } : Jvm.MethodName)) ∈ gw := gw_of 56 (by decide +kernel) (by decide +kernel)
theorem m57 : (Jvm.Cond.selects "NumberLeasesModel" ({ cls := "NumberLeasesModel", name := "counted", desc := "(I)I" } : Jvm.MethodName) ({ cls := "NumberLeasesModel", name := "counted", desc := "(I)I" } : Jvm.MethodName)) ∈ gw := gw_of 57 (by decide +kernel) (by decide +kernel)
theorem m58 : (Jvm.Cond.selects "NumberLeasesModel" ({ cls := "NumberLeasesModel", name := "sumOf", desc := "(III)I" } : Jvm.MethodName) ({ cls := "NumberLeasesModel", name := "sumOf", desc := "(III)I" } : Jvm.MethodName)) ∈ gw := gw_of 58 (by decide +kernel) (by decide +kernel)
theorem m59 : (Jvm.Cond.selects "NumberLeasesModel" ({ cls := "NumberLeasesModel", name := "whoThen", desc := "(II)I" } : Jvm.MethodName) ({ cls := "NumberLeasesModel", name := "whoThen", desc := "(II)I" } : Jvm.MethodName)) ∈ gw := gw_of 59 (by decide +kernel) (by decide +kernel)
theorem m60 : (Jvm.Cond.selects "NumberLeasesModel" ({ cls := "NumberLeasesModel", name := "tries", desc := "()V" } : Jvm.MethodName) ({ cls := "NumberLeasesModel", name := "tries", desc := "()V" } : Jvm.MethodName)) ∈ gw := gw_of 60 (by decide +kernel) (by decide +kernel)
theorem m61 : (Jvm.Cond.selects "NumberLeasesModel" ({ cls := "NumberLeasesModel", name := "freeThen", desc := "(I)I" } : Jvm.MethodName) ({ cls := "NumberLeasesModel", name := "freeThen", desc := "(I)I" } : Jvm.MethodName)) ∈ gw := gw_of 61 (by decide +kernel) (by decide +kernel)
theorem m62 : (Jvm.Cond.selects "NumberLeasesModel" ({ cls := "NumberLeasesModel", name := "wishedThen", desc := "(II)I" } : Jvm.MethodName) ({ cls := "NumberLeasesModel", name := "wishedThen", desc := "(II)I" } : Jvm.MethodName)) ∈ gw := gw_of 62 (by decide +kernel) (by decide +kernel)
theorem m63 : (Jvm.Cond.initialized "NumberLeasesLaw") ∈ gw := gw_of 63 (by decide +kernel) (by decide +kernel)
theorem m64 : (Jvm.Cond.initialized "NumberLeases") ∈ gw := gw_of 64 (by decide +kernel) (by decide +kernel)
theorem m65 : (Jvm.Cond.initialized "NumberLeases$Pool") ∈ gw := gw_of 65 (by decide +kernel) (by decide +kernel)
theorem m66 : (Jvm.Cond.initialized "NumberLeases$Saves") ∈ gw := gw_of 66 (by decide +kernel) (by decide +kernel)
theorem m67 : (Jvm.Cond.initialized "NumberLeases$Orders") ∈ gw := gw_of 67 (by decide +kernel) (by decide +kernel)
theorem m68 : (Jvm.Cond.initialized "NumberLeasesModel") ∈ gw := gw_of 68 (by decide +kernel) (by decide +kernel)
theorem m69 : (Jvm.Cond.initialized "java/lang/Throwable") ∈ gw := gw_of 69 (by decide +kernel) (by decide +kernel)
theorem m70 : (Jvm.Cond.initialized "java/lang/Exception") ∈ gw := gw_of 70 (by decide +kernel) (by decide +kernel)
theorem m71 : (Jvm.Cond.initialized "java/lang/RuntimeException") ∈ gw := gw_of 71 (by decide +kernel) (by decide +kernel)
theorem m72 : (Jvm.Cond.initialized "java/lang/IndexOutOfBoundsException") ∈ gw := gw_of 72 (by decide +kernel) (by decide +kernel)
theorem m73 : (Jvm.Cond.initialized "java/lang/IllegalArgumentException") ∈ gw := gw_of 73 (by decide +kernel) (by decide +kernel)
theorem m74 : (Jvm.Cond.initialized "java/lang/IllegalStateException") ∈ gw := gw_of 74 (by decide +kernel) (by decide +kernel)
theorem m75 : (Jvm.Cond.initialized "java/lang/Math") ∈ gw := gw_of 75 (by decide +kernel) (by decide +kernel)
theorem m76 : (Jvm.Cond.initialized "java/lang/System") ∈ gw := gw_of 76 (by decide +kernel) (by decide +kernel)
theorem m77 : (Jvm.Cond.initialized "NumberLeases$Bits") ∈ gw := gw_of 77 (by decide +kernel) (by decide +kernel)
theorem m78 : (Jvm.Cond.initialized "java/lang/Float") ∈ gw := gw_of 78 (by decide +kernel) (by decide +kernel)
theorem m79 : (Jvm.Cond.initialized "java/lang/Double") ∈ gw := gw_of 79 (by decide +kernel) (by decide +kernel)
theorem m80 : (Jvm.Cond.classLink "NumberLeasesLaw" (8 : Nat) "NumberLeases") ∈ gw := gw_of 80 (by decide +kernel) (by decide +kernel)
theorem m81 : (Jvm.Cond.instantiable "NumberLeases" (4 : Nat)) ∈ gw := gw_of 81 (by decide +kernel) (by decide +kernel)
theorem m82 : (Jvm.Cond.methodLink "NumberLeasesLaw" (76 : Nat) ({ cls := "NumberLeases", name := "<init>", desc := "()V" } : Jvm.MethodName)) ∈ gw := gw_of 82 (by decide +kernel) (by decide +kernel)
theorem m83 : (Jvm.Cond.instanceMethod ({ cls := "NumberLeases", name := "<init>", desc := "()V" } : Jvm.MethodName)) ∈ gw := gw_of 83 (by decide +kernel) (by decide +kernel)
theorem m84 : (Jvm.Cond.code ({ cls := "NumberLeases", name := "<init>", desc := "()V" } : Jvm.MethodName) prog_1_method_1_code (1 : Nat) (Option.none : Option Jvm.ClassFile.FieldType)) ∈ gw := gw_of 84 (by decide +kernel) (by decide +kernel)
theorem m85 : (Jvm.Cond.methodLink "NumberLeases" (1 : Nat) ({ cls := "java/lang/Object", name := "<init>", desc := "()V" } : Jvm.MethodName)) ∈ gw := gw_of 85 (by decide +kernel) (by decide +kernel)
theorem m86 : (Jvm.Cond.instanceMethod ({ cls := "java/lang/Object", name := "<init>", desc := "()V" } : Jvm.MethodName)) ∈ gw := gw_of 86 (by decide +kernel) (by decide +kernel)
theorem m87 : (Jvm.Cond.code ({ cls := "java/lang/Object", name := "<init>", desc := "()V" } : Jvm.MethodName) object_method_1_code (1 : Nat) (Option.none : Option Jvm.ClassFile.FieldType)) ∈ gw := gw_of 87 (by decide +kernel) (by decide +kernel)
theorem m88 : (Jvm.Cond.classLink "NumberLeases" (7 : Nat) "NumberLeases$Pool") ∈ gw := gw_of 88 (by decide +kernel) (by decide +kernel)
theorem m89 : (Jvm.Cond.instantiable "NumberLeases$Pool" (16 : Nat)) ∈ gw := gw_of 89 (by decide +kernel) (by decide +kernel)
theorem m90 : (Jvm.Cond.methodLink "NumberLeases" (9 : Nat) ({ cls := "NumberLeases$Pool", name := "<init>", desc := "()V" } : Jvm.MethodName)) ∈ gw := gw_of 90 (by decide +kernel) (by decide +kernel)
theorem m91 : (Jvm.Cond.instanceMethod ({ cls := "NumberLeases$Pool", name := "<init>", desc := "()V" } : Jvm.MethodName)) ∈ gw := gw_of 91 (by decide +kernel) (by decide +kernel)
theorem m92 : (Jvm.Cond.code ({ cls := "NumberLeases$Pool", name := "<init>", desc := "()V" } : Jvm.MethodName) prog_4_method_1_code (2 : Nat) (Option.none : Option Jvm.ClassFile.FieldType)) ∈ gw := gw_of 92 (by decide +kernel) (by decide +kernel)
theorem m93 : (Jvm.Cond.methodLink "NumberLeases$Pool" (3 : Nat) ({ cls := "java/lang/Object", name := "<init>", desc := "()V" } : Jvm.MethodName)) ∈ gw := gw_of 93 (by decide +kernel) (by decide +kernel)
theorem m94 : (Jvm.Cond.fieldLink "NumberLeases$Pool" (48 : Nat) "NumberLeases$Pool" "time" "I") ∈ gw := gw_of 94 (by decide +kernel) (by decide +kernel)
theorem m95 : (Jvm.Cond.fieldLink "NumberLeases" (227 : Nat) "NumberLeases$Pool" "time" "I") ∈ gw := gw_of 95 (by decide +kernel) (by decide +kernel)
theorem m96 : (Jvm.Cond.fieldLink "NumberLeases$Pool" (52 : Nat) "NumberLeases$Pool" "renewals" "I") ∈ gw := gw_of 96 (by decide +kernel) (by decide +kernel)
theorem m97 : (Jvm.Cond.fieldLink "NumberLeases$Pool" (55 : Nat) "NumberLeases$Pool" "graceRenewals" "I") ∈ gw := gw_of 97 (by decide +kernel) (by decide +kernel)
theorem m98 : (Jvm.Cond.fieldLink "NumberLeases$Pool" (58 : Nat) "NumberLeases$Pool" "freed" "I") ∈ gw := gw_of 98 (by decide +kernel) (by decide +kernel)
theorem m99 : (Jvm.Cond.fieldLink "NumberLeases$Pool" (9 : Nat) "NumberLeases$Pool" "settings" "[I") ∈ gw := gw_of 99 (by decide +kernel) (by decide +kernel)
theorem m100 : (Jvm.Cond.fieldLink "NumberLeases" (104 : Nat) "NumberLeases$Pool" "settings" "[I") ∈ gw := gw_of 100 (by decide +kernel) (by decide +kernel)
theorem m101 : (Jvm.Cond.fieldLink "NumberLeases$Pool" (15 : Nat) "NumberLeases$Pool" "whose" "[I") ∈ gw := gw_of 101 (by decide +kernel) (by decide +kernel)
theorem m102 : (Jvm.Cond.fieldLink "NumberLeases" (233 : Nat) "NumberLeases$Pool" "whose" "[I") ∈ gw := gw_of 102 (by decide +kernel) (by decide +kernel)
theorem m103 : (Jvm.Cond.fieldLink "NumberLeases$Pool" (18 : Nat) "NumberLeases$Pool" "begin" "[I") ∈ gw := gw_of 103 (by decide +kernel) (by decide +kernel)
theorem m104 : (Jvm.Cond.fieldLink "NumberLeases$Pool" (21 : Nat) "NumberLeases$Pool" "end" "[I") ∈ gw := gw_of 104 (by decide +kernel) (by decide +kernel)
theorem m105 : (Jvm.Cond.fieldLink "NumberLeases$Pool" (24 : Nat) "NumberLeases$Pool" "last" "[I") ∈ gw := gw_of 105 (by decide +kernel) (by decide +kernel)
theorem m106 : (Jvm.Cond.fieldLink "NumberLeases$Pool" (27 : Nat) "NumberLeases$Pool" "given" "[I") ∈ gw := gw_of 106 (by decide +kernel) (by decide +kernel)
theorem m107 : (Jvm.Cond.fieldLink "NumberLeases$Pool" (30 : Nat) "NumberLeases$Pool" "waiting" "[I") ∈ gw := gw_of 107 (by decide +kernel) (by decide +kernel)
theorem m108 : (Jvm.Cond.fieldLink "NumberLeases" (71 : Nat) "NumberLeases$Pool" "waiting" "[I") ∈ gw := gw_of 108 (by decide +kernel) (by decide +kernel)
theorem m109 : (Jvm.Cond.fieldLink "NumberLeases$Pool" (33 : Nat) "NumberLeases$Pool" "wishers" "[I") ∈ gw := gw_of 109 (by decide +kernel) (by decide +kernel)
theorem m110 : (Jvm.Cond.fieldLink "NumberLeases$Pool" (36 : Nat) "NumberLeases$Pool" "wishTerms" "[I") ∈ gw := gw_of 110 (by decide +kernel) (by decide +kernel)
theorem m111 : (Jvm.Cond.fieldLink "NumberLeases$Pool" (39 : Nat) "NumberLeases$Pool" "leases" "[I") ∈ gw := gw_of 111 (by decide +kernel) (by decide +kernel)
theorem m112 : (Jvm.Cond.fieldLink "NumberLeases" (246 : Nat) "NumberLeases$Pool" "leases" "[I") ∈ gw := gw_of 112 (by decide +kernel) (by decide +kernel)
theorem m113 : (Jvm.Cond.fieldLink "NumberLeases$Pool" (42 : Nat) "NumberLeases$Pool" "lost" "[I") ∈ gw := gw_of 113 (by decide +kernel) (by decide +kernel)
theorem m114 : (Jvm.Cond.fieldLink "NumberLeases$Pool" (45 : Nat) "NumberLeases$Pool" "units" "[I") ∈ gw := gw_of 114 (by decide +kernel) (by decide +kernel)
theorem m115 : (Jvm.Cond.fieldLink "NumberLeases" (253 : Nat) "NumberLeases$Pool" "units" "[I") ∈ gw := gw_of 115 (by decide +kernel) (by decide +kernel)
theorem m149 : (Jvm.Cond.arrayClass Jvm.ClassFile.FieldType.int) ∈ gw := gw_of 149 (by decide +kernel) (by decide +kernel)
theorem m150 : (Jvm.Cond.classLink "NumberLeases" (19 : Nat) "NumberLeases$Saves") ∈ gw := gw_of 150 (by decide +kernel) (by decide +kernel)
theorem m151 : (Jvm.Cond.instantiable "NumberLeases$Saves" (2 : Nat)) ∈ gw := gw_of 151 (by decide +kernel) (by decide +kernel)
theorem m152 : (Jvm.Cond.methodLink "NumberLeases" (21 : Nat) ({ cls := "NumberLeases$Saves", name := "<init>", desc := "()V" } : Jvm.MethodName)) ∈ gw := gw_of 152 (by decide +kernel) (by decide +kernel)
theorem m153 : (Jvm.Cond.instanceMethod ({ cls := "NumberLeases$Saves", name := "<init>", desc := "()V" } : Jvm.MethodName)) ∈ gw := gw_of 153 (by decide +kernel) (by decide +kernel)
theorem m154 : (Jvm.Cond.code ({ cls := "NumberLeases$Saves", name := "<init>", desc := "()V" } : Jvm.MethodName) prog_5_method_1_code (2 : Nat) (Option.none : Option Jvm.ClassFile.FieldType)) ∈ gw := gw_of 154 (by decide +kernel) (by decide +kernel)
theorem m155 : (Jvm.Cond.methodLink "NumberLeases$Saves" (3 : Nat) ({ cls := "java/lang/Object", name := "<init>", desc := "()V" } : Jvm.MethodName)) ∈ gw := gw_of 155 (by decide +kernel) (by decide +kernel)
theorem m156 : (Jvm.Cond.classLink "NumberLeases$Saves" (9 : Nat) "NumberLeases$Pool") ∈ gw := gw_of 156 (by decide +kernel) (by decide +kernel)
theorem m158 : (Jvm.Cond.methodLink "NumberLeases$Saves" (17 : Nat) ({ cls := "NumberLeases$Pool", name := "<init>", desc := "()V" } : Jvm.MethodName)) ∈ gw := gw_of 158 (by decide +kernel) (by decide +kernel)
theorem m159 : (Jvm.Cond.fieldLink "NumberLeases$Saves" (11 : Nat) "NumberLeases$Saves" "kept" "[LNumberLeases$Pool;") ∈ gw := gw_of 159 (by decide +kernel) (by decide +kernel)
theorem m160 : (Jvm.Cond.fieldLink "NumberLeases$Saves" (18 : Nat) "NumberLeases$Saves" "many" "I") ∈ gw := gw_of 160 (by decide +kernel) (by decide +kernel)
theorem m161 : (Jvm.Cond.fieldLink "NumberLeases" (133 : Nat) "NumberLeases$Saves" "many" "I") ∈ gw := gw_of 161 (by decide +kernel) (by decide +kernel)
theorem m167 : (Jvm.Cond.classLink "NumberLeases" (26 : Nat) "NumberLeases$Orders") ∈ gw := gw_of 167 (by decide +kernel) (by decide +kernel)
theorem m168 : (Jvm.Cond.instantiable "NumberLeases$Orders" (8 : Nat)) ∈ gw := gw_of 168 (by decide +kernel) (by decide +kernel)
theorem m170 : (Jvm.Cond.instanceMethod ({ cls := "NumberLeases$Orders", name := "<init>", desc := "()V" } : Jvm.MethodName)) ∈ gw := gw_of 170 (by decide +kernel) (by decide +kernel)
theorem m171 : (Jvm.Cond.code ({ cls := "NumberLeases$Orders", name := "<init>", desc := "()V" } : Jvm.MethodName) prog_3_method_1_code (1 : Nat) (Option.none : Option Jvm.ClassFile.FieldType)) ∈ gw := gw_of 171 (by decide +kernel) (by decide +kernel)
theorem m172 : (Jvm.Cond.methodLink "NumberLeases$Orders" (3 : Nat) ({ cls := "java/lang/Object", name := "<init>", desc := "()V" } : Jvm.MethodName)) ∈ gw := gw_of 172 (by decide +kernel) (by decide +kernel)
theorem m173 : (Jvm.Cond.fieldLink "NumberLeases$Orders" (9 : Nat) "NumberLeases$Orders" "signs" "[I") ∈ gw := gw_of 173 (by decide +kernel) (by decide +kernel)
theorem m174 : (Jvm.Cond.fieldLink "NumberLeases$Orders" (15 : Nat) "NumberLeases$Orders" "length" "I") ∈ gw := gw_of 174 (by decide +kernel) (by decide +kernel)
theorem m175 : (Jvm.Cond.fieldLink "NumberLeases" (107 : Nat) "NumberLeases$Orders" "length" "I") ∈ gw := gw_of 175 (by decide +kernel) (by decide +kernel)
theorem m176 : (Jvm.Cond.fieldLink "NumberLeases$Orders" (19 : Nat) "NumberLeases$Orders" "at" "I") ∈ gw := gw_of 176 (by decide +kernel) (by decide +kernel)
theorem m177 : (Jvm.Cond.fieldLink "NumberLeases" (118 : Nat) "NumberLeases$Orders" "at" "I") ∈ gw := gw_of 177 (by decide +kernel) (by decide +kernel)
theorem m178 : (Jvm.Cond.fieldLink "NumberLeases$Orders" (22 : Nat) "NumberLeases$Orders" "stopped" "Z") ∈ gw := gw_of 178 (by decide +kernel) (by decide +kernel)
theorem m179 : (Jvm.Cond.fieldLink "NumberLeases$Orders" (43 : Nat) "NumberLeases$Orders" "kind" "I") ∈ gw := gw_of 179 (by decide +kernel) (by decide +kernel)
theorem m180 : (Jvm.Cond.fieldLink "NumberLeases" (218 : Nat) "NumberLeases$Orders" "kind" "I") ∈ gw := gw_of 180 (by decide +kernel) (by decide +kernel)
theorem m181 : (Jvm.Cond.fieldLink "NumberLeases$Orders" (50 : Nat) "NumberLeases$Orders" "holder" "I") ∈ gw := gw_of 181 (by decide +kernel) (by decide +kernel)
theorem m182 : (Jvm.Cond.fieldLink "NumberLeases" (209 : Nat) "NumberLeases$Orders" "holder" "I") ∈ gw := gw_of 182 (by decide +kernel) (by decide +kernel)
theorem m183 : (Jvm.Cond.fieldLink "NumberLeases$Orders" (56 : Nat) "NumberLeases$Orders" "first" "I") ∈ gw := gw_of 183 (by decide +kernel) (by decide +kernel)
theorem m184 : (Jvm.Cond.fieldLink "NumberLeases" (212 : Nat) "NumberLeases$Orders" "first" "I") ∈ gw := gw_of 184 (by decide +kernel) (by decide +kernel)
theorem m185 : (Jvm.Cond.fieldLink "NumberLeases$Orders" (53 : Nat) "NumberLeases$Orders" "second" "I") ∈ gw := gw_of 185 (by decide +kernel) (by decide +kernel)
theorem m186 : (Jvm.Cond.fieldLink "NumberLeases" (215 : Nat) "NumberLeases$Orders" "second" "I") ∈ gw := gw_of 186 (by decide +kernel) (by decide +kernel)
theorem m204 : (Jvm.Cond.fieldLink "NumberLeases" (10 : Nat) "NumberLeases" "pool" "LNumberLeases$Pool;") ∈ gw := gw_of 204 (by decide +kernel) (by decide +kernel)
theorem m205 : (Jvm.Cond.fieldLink "NumberLeases" (16 : Nat) "NumberLeases" "ahead" "LNumberLeases$Pool;") ∈ gw := gw_of 205 (by decide +kernel) (by decide +kernel)
theorem m206 : (Jvm.Cond.fieldLink "NumberLeases" (22 : Nat) "NumberLeases" "saves" "LNumberLeases$Saves;") ∈ gw := gw_of 206 (by decide +kernel) (by decide +kernel)
theorem m207 : (Jvm.Cond.fieldLink "NumberLeases" (29 : Nat) "NumberLeases" "orders" "LNumberLeases$Orders;") ∈ gw := gw_of 207 (by decide +kernel) (by decide +kernel)
theorem m217 : (Jvm.Cond.methodLink "NumberLeasesLaw" (115 : Nat) ({ cls := "NumberLeases", name := "clearBuffer", desc := "()I" } : Jvm.MethodName)) ∈ gw := gw_of 217 (by decide +kernel) (by decide +kernel)
theorem m218 : (Jvm.Cond.instanceMethod ({ cls := "NumberLeases", name := "clearBuffer", desc := "()I" } : Jvm.MethodName)) ∈ gw := gw_of 218 (by decide +kernel) (by decide +kernel)
theorem m219 : (Jvm.Cond.selects "NumberLeases" ({ cls := "NumberLeases", name := "clearBuffer", desc := "()I" } : Jvm.MethodName) ({ cls := "NumberLeases", name := "clearBuffer", desc := "()I" } : Jvm.MethodName)) ∈ gw := gw_of 219 (by decide +kernel) (by decide +kernel)
theorem m220 : (Jvm.Cond.code ({ cls := "NumberLeases", name := "clearBuffer", desc := "()I" } : Jvm.MethodName) prog_1_method_11_code (2 : Nat) (Option.some Jvm.ClassFile.FieldType.int)) ∈ gw := gw_of 220 (by decide +kernel) (by decide +kernel)
theorem m221 : (Jvm.Cond.methodLink "NumberLeasesLaw" (119 : Nat) ({ cls := "NumberLeases", name := "firstError", desc := "()I" } : Jvm.MethodName)) ∈ gw := gw_of 221 (by decide +kernel) (by decide +kernel)
theorem m222 : (Jvm.Cond.instanceMethod ({ cls := "NumberLeases", name := "firstError", desc := "()I" } : Jvm.MethodName)) ∈ gw := gw_of 222 (by decide +kernel) (by decide +kernel)
theorem m223 : (Jvm.Cond.selects "NumberLeases" ({ cls := "NumberLeases", name := "firstError", desc := "()I" } : Jvm.MethodName) ({ cls := "NumberLeases", name := "firstError", desc := "()I" } : Jvm.MethodName)) ∈ gw := gw_of 223 (by decide +kernel) (by decide +kernel)
theorem m224 : (Jvm.Cond.code ({ cls := "NumberLeases", name := "firstError", desc := "()I" } : Jvm.MethodName) prog_1_method_12_code (1 : Nat) (Option.some Jvm.ClassFile.FieldType.int)) ∈ gw := gw_of 224 (by decide +kernel) (by decide +kernel)
theorem m225 : (Jvm.Cond.methodLink "NumberLeases" (114 : Nat) ({ cls := "NumberLeases$Orders", name := "readAll", desc := "()Z" } : Jvm.MethodName)) ∈ gw := gw_of 225 (by decide +kernel) (by decide +kernel)
theorem m226 : (Jvm.Cond.instanceMethod ({ cls := "NumberLeases$Orders", name := "readAll", desc := "()Z" } : Jvm.MethodName)) ∈ gw := gw_of 226 (by decide +kernel) (by decide +kernel)
theorem m227 : (Jvm.Cond.selects "NumberLeases$Orders" ({ cls := "NumberLeases$Orders", name := "readAll", desc := "()Z" } : Jvm.MethodName) ({ cls := "NumberLeases$Orders", name := "readAll", desc := "()Z" } : Jvm.MethodName)) ∈ gw := gw_of 227 (by decide +kernel) (by decide +kernel)
theorem m228 : (Jvm.Cond.code ({ cls := "NumberLeases$Orders", name := "readAll", desc := "()Z" } : Jvm.MethodName) prog_3_method_5_code (2 : Nat) (Option.some Jvm.ClassFile.FieldType.boolean)) ∈ gw := gw_of 228 (by decide +kernel) (by decide +kernel)
theorem m229 : (Jvm.Cond.methodLink "NumberLeases$Orders" (26 : Nat) ({ cls := "NumberLeases$Orders", name := "rewind", desc := "()V" } : Jvm.MethodName)) ∈ gw := gw_of 229 (by decide +kernel) (by decide +kernel)
theorem m230 : (Jvm.Cond.instanceMethod ({ cls := "NumberLeases$Orders", name := "rewind", desc := "()V" } : Jvm.MethodName)) ∈ gw := gw_of 230 (by decide +kernel) (by decide +kernel)
theorem m231 : (Jvm.Cond.selects "NumberLeases$Orders" ({ cls := "NumberLeases$Orders", name := "rewind", desc := "()V" } : Jvm.MethodName) ({ cls := "NumberLeases$Orders", name := "rewind", desc := "()V" } : Jvm.MethodName)) ∈ gw := gw_of 231 (by decide +kernel) (by decide +kernel)
theorem m232 : (Jvm.Cond.code ({ cls := "NumberLeases$Orders", name := "rewind", desc := "()V" } : Jvm.MethodName) prog_3_method_4_code (1 : Nat) (Option.none : Option Jvm.ClassFile.FieldType)) ∈ gw := gw_of 232 (by decide +kernel) (by decide +kernel)
theorem m233 : (Jvm.Cond.methodLink "NumberLeases$Orders" (29 : Nat) ({ cls := "NumberLeases$Orders", name := "readNext", desc := "()V" } : Jvm.MethodName)) ∈ gw := gw_of 233 (by decide +kernel) (by decide +kernel)
theorem m234 : (Jvm.Cond.instanceMethod ({ cls := "NumberLeases$Orders", name := "readNext", desc := "()V" } : Jvm.MethodName)) ∈ gw := gw_of 234 (by decide +kernel) (by decide +kernel)
theorem m235 : (Jvm.Cond.selects "NumberLeases$Orders" ({ cls := "NumberLeases$Orders", name := "readNext", desc := "()V" } : Jvm.MethodName) ({ cls := "NumberLeases$Orders", name := "readNext", desc := "()V" } : Jvm.MethodName)) ∈ gw := gw_of 235 (by decide +kernel) (by decide +kernel)
theorem m236 : (Jvm.Cond.code ({ cls := "NumberLeases$Orders", name := "readNext", desc := "()V" } : Jvm.MethodName) prog_3_method_6_code (1 : Nat) (Option.none : Option Jvm.ClassFile.FieldType)) ∈ gw := gw_of 236 (by decide +kernel) (by decide +kernel)
theorem m237 : (Jvm.Cond.methodLink "NumberLeases$Orders" (32 : Nat) ({ cls := "NumberLeases$Orders", name := "readSign", desc := "(I)V" } : Jvm.MethodName)) ∈ gw := gw_of 237 (by decide +kernel) (by decide +kernel)
theorem m239 : (Jvm.Cond.instanceMethod ({ cls := "NumberLeases$Orders", name := "readSign", desc := "(I)V" } : Jvm.MethodName)) ∈ gw := gw_of 239 (by decide +kernel) (by decide +kernel)
theorem m240 : (Jvm.Cond.code ({ cls := "NumberLeases$Orders", name := "readSign", desc := "(I)V" } : Jvm.MethodName) prog_3_method_8_code (2 : Nat) (Option.none : Option Jvm.ClassFile.FieldType)) ∈ gw := gw_of 240 (by decide +kernel) (by decide +kernel)
theorem m241 : (Jvm.Cond.methodLink "NumberLeases$Orders" (39 : Nat) ({ cls := "NumberLeases$Orders", name := "signAt", desc := "(I)I" } : Jvm.MethodName)) ∈ gw := gw_of 241 (by decide +kernel) (by decide +kernel)
theorem m242 : (Jvm.Cond.instanceMethod ({ cls := "NumberLeases$Orders", name := "signAt", desc := "(I)I" } : Jvm.MethodName)) ∈ gw := gw_of 242 (by decide +kernel) (by decide +kernel)
theorem m243 : (Jvm.Cond.selects "NumberLeases$Orders" ({ cls := "NumberLeases$Orders", name := "signAt", desc := "(I)I" } : Jvm.MethodName) ({ cls := "NumberLeases$Orders", name := "signAt", desc := "(I)I" } : Jvm.MethodName)) ∈ gw := gw_of 243 (by decide +kernel) (by decide +kernel)
theorem m244 : (Jvm.Cond.code ({ cls := "NumberLeases$Orders", name := "signAt", desc := "(I)I" } : Jvm.MethodName) prog_3_method_3_code (2 : Nat) (Option.some Jvm.ClassFile.FieldType.int)) ∈ gw := gw_of 244 (by decide +kernel) (by decide +kernel)
theorem m245 : (Jvm.Cond.methodLink "NumberLeases$Orders" (36 : Nat) ({ cls := "NumberLeases$Orders", name := "readOrder", desc := "()V" } : Jvm.MethodName)) ∈ gw := gw_of 245 (by decide +kernel) (by decide +kernel)
theorem m247 : (Jvm.Cond.instanceMethod ({ cls := "NumberLeases$Orders", name := "readOrder", desc := "()V" } : Jvm.MethodName)) ∈ gw := gw_of 247 (by decide +kernel) (by decide +kernel)
theorem m248 : (Jvm.Cond.code ({ cls := "NumberLeases$Orders", name := "readOrder", desc := "()V" } : Jvm.MethodName) prog_3_method_7_code (1 : Nat) (Option.none : Option Jvm.ClassFile.FieldType)) ∈ gw := gw_of 248 (by decide +kernel) (by decide +kernel)
theorem m249 : (Jvm.Cond.methodLink "NumberLeases$Orders" (46 : Nat) ({ cls := "NumberLeases$Orders", name := "readNumber", desc := "(II)I" } : Jvm.MethodName)) ∈ gw := gw_of 249 (by decide +kernel) (by decide +kernel)
theorem m251 : (Jvm.Cond.instanceMethod ({ cls := "NumberLeases$Orders", name := "readNumber", desc := "(II)I" } : Jvm.MethodName)) ∈ gw := gw_of 251 (by decide +kernel) (by decide +kernel)
theorem m252 : (Jvm.Cond.code ({ cls := "NumberLeases$Orders", name := "readNumber", desc := "(II)I" } : Jvm.MethodName) prog_3_method_9_code (5 : Nat) (Option.some Jvm.ClassFile.FieldType.int)) ∈ gw := gw_of 252 (by decide +kernel) (by decide +kernel)
theorem m253 : (Jvm.Cond.methodLink "NumberLeases$Orders" (59 : Nat) ({ cls := "NumberLeases$Orders", name := "digitAt", desc := "(I)I" } : Jvm.MethodName)) ∈ gw := gw_of 253 (by decide +kernel) (by decide +kernel)
theorem m255 : (Jvm.Cond.instanceMethod ({ cls := "NumberLeases$Orders", name := "digitAt", desc := "(I)I" } : Jvm.MethodName)) ∈ gw := gw_of 255 (by decide +kernel) (by decide +kernel)
theorem m256 : (Jvm.Cond.code ({ cls := "NumberLeases$Orders", name := "digitAt", desc := "(I)I" } : Jvm.MethodName) prog_3_method_10_code (3 : Nat) (Option.some Jvm.ClassFile.FieldType.int)) ∈ gw := gw_of 256 (by decide +kernel) (by decide +kernel)
theorem m257 : (Jvm.Cond.methodLink "NumberLeases$Orders" (62 : Nat) ({ cls := "NumberLeases$Orders", name := "begins", desc := "(III)Z" } : Jvm.MethodName)) ∈ gw := gw_of 257 (by decide +kernel) (by decide +kernel)
theorem m258 : (Jvm.Cond.static ({ cls := "NumberLeases$Orders", name := "begins", desc := "(III)Z" } : Jvm.MethodName)) ∈ gw := gw_of 258 (by decide +kernel) (by decide +kernel)
theorem m259 : (Jvm.Cond.code ({ cls := "NumberLeases$Orders", name := "begins", desc := "(III)Z" } : Jvm.MethodName) prog_3_method_11_code (4 : Nat) (Option.some Jvm.ClassFile.FieldType.boolean)) ∈ gw := gw_of 259 (by decide +kernel) (by decide +kernel)
theorem m260 : (Jvm.Cond.methodLink "NumberLeases$Orders" (66 : Nat) ({ cls := "NumberLeases$Orders", name := "isWithin", desc := "(III)Z" } : Jvm.MethodName)) ∈ gw := gw_of 260 (by decide +kernel) (by decide +kernel)
theorem m261 : (Jvm.Cond.static ({ cls := "NumberLeases$Orders", name := "isWithin", desc := "(III)Z" } : Jvm.MethodName)) ∈ gw := gw_of 261 (by decide +kernel) (by decide +kernel)
theorem m262 : (Jvm.Cond.code ({ cls := "NumberLeases$Orders", name := "isWithin", desc := "(III)Z" } : Jvm.MethodName) prog_3_method_12_code (3 : Nat) (Option.some Jvm.ClassFile.FieldType.boolean)) ∈ gw := gw_of 262 (by decide +kernel) (by decide +kernel)
theorem m263 : (Jvm.Cond.methodLink "NumberLeasesLaw" (154 : Nat) ({ cls := "NumberLeases", name := "fullness", desc := "()I" } : Jvm.MethodName)) ∈ gw := gw_of 263 (by decide +kernel) (by decide +kernel)
theorem m264 : (Jvm.Cond.instanceMethod ({ cls := "NumberLeases", name := "fullness", desc := "()I" } : Jvm.MethodName)) ∈ gw := gw_of 264 (by decide +kernel) (by decide +kernel)
theorem m265 : (Jvm.Cond.selects "NumberLeases" ({ cls := "NumberLeases", name := "fullness", desc := "()I" } : Jvm.MethodName) ({ cls := "NumberLeases", name := "fullness", desc := "()I" } : Jvm.MethodName)) ∈ gw := gw_of 265 (by decide +kernel) (by decide +kernel)
theorem m266 : (Jvm.Cond.code ({ cls := "NumberLeases", name := "fullness", desc := "()I" } : Jvm.MethodName) prog_1_method_23_code (1 : Nat) (Option.some Jvm.ClassFile.FieldType.int)) ∈ gw := gw_of 266 (by decide +kernel) (by decide +kernel)
theorem m267 : (Jvm.Cond.methodLink "NumberLeases" (160 : Nat) ({ cls := "NumberLeases", name := "fullnessBits", desc := "()I" } : Jvm.MethodName)) ∈ gw := gw_of 267 (by decide +kernel) (by decide +kernel)
theorem m269 : (Jvm.Cond.instanceMethod ({ cls := "NumberLeases", name := "fullnessBits", desc := "()I" } : Jvm.MethodName)) ∈ gw := gw_of 269 (by decide +kernel) (by decide +kernel)
theorem m270 : (Jvm.Cond.code ({ cls := "NumberLeases", name := "fullnessBits", desc := "()I" } : Jvm.MethodName) prog_1_method_38_code (2 : Nat) (Option.some Jvm.ClassFile.FieldType.int)) ∈ gw := gw_of 270 (by decide +kernel) (by decide +kernel)
theorem m271 : (Jvm.Cond.methodLink "NumberLeases" (236 : Nat) ({ cls := "NumberLeases$Pool", name := "freeNumbers", desc := "()I" } : Jvm.MethodName)) ∈ gw := gw_of 271 (by decide +kernel) (by decide +kernel)
theorem m272 : (Jvm.Cond.instanceMethod ({ cls := "NumberLeases$Pool", name := "freeNumbers", desc := "()I" } : Jvm.MethodName)) ∈ gw := gw_of 272 (by decide +kernel) (by decide +kernel)
theorem m273 : (Jvm.Cond.selects "NumberLeases$Pool" ({ cls := "NumberLeases$Pool", name := "freeNumbers", desc := "()I" } : Jvm.MethodName) ({ cls := "NumberLeases$Pool", name := "freeNumbers", desc := "()I" } : Jvm.MethodName)) ∈ gw := gw_of 273 (by decide +kernel) (by decide +kernel)
theorem m274 : (Jvm.Cond.code ({ cls := "NumberLeases$Pool", name := "freeNumbers", desc := "()I" } : Jvm.MethodName) prog_4_method_28_code (1 : Nat) (Option.some Jvm.ClassFile.FieldType.int)) ∈ gw := gw_of 274 (by decide +kernel) (by decide +kernel)
theorem m275 : (Jvm.Cond.methodLink "NumberLeases$Pool" (134 : Nat) ({ cls := "NumberLeases$Pool", name := "numbersIn", desc := "(I)I" } : Jvm.MethodName)) ∈ gw := gw_of 275 (by decide +kernel) (by decide +kernel)
theorem m277 : (Jvm.Cond.instanceMethod ({ cls := "NumberLeases$Pool", name := "numbersIn", desc := "(I)I" } : Jvm.MethodName)) ∈ gw := gw_of 277 (by decide +kernel) (by decide +kernel)
theorem m278 : (Jvm.Cond.code ({ cls := "NumberLeases$Pool", name := "numbersIn", desc := "(I)I" } : Jvm.MethodName) prog_4_method_29_code (4 : Nat) (Option.some Jvm.ClassFile.FieldType.int)) ∈ gw := gw_of 278 (by decide +kernel) (by decide +kernel)
theorem m279 : (Jvm.Cond.methodLink "NumberLeases$Pool" (95 : Nat) ({ cls := "NumberLeases$Pool", name := "stateOf", desc := "(I)I" } : Jvm.MethodName)) ∈ gw := gw_of 279 (by decide +kernel) (by decide +kernel)
theorem m281 : (Jvm.Cond.instanceMethod ({ cls := "NumberLeases$Pool", name := "stateOf", desc := "(I)I" } : Jvm.MethodName)) ∈ gw := gw_of 281 (by decide +kernel) (by decide +kernel)
theorem m282 : (Jvm.Cond.code ({ cls := "NumberLeases$Pool", name := "stateOf", desc := "(I)I" } : Jvm.MethodName) prog_4_method_23_code (2 : Nat) (Option.some Jvm.ClassFile.FieldType.int)) ∈ gw := gw_of 282 (by decide +kernel) (by decide +kernel)
theorem m283 : (Jvm.Cond.methodLink "NumberLeases" (239 : Nat) ({ cls := "NumberLeases$Bits", name := "ofFloat", desc := "(F)I" } : Jvm.MethodName)) ∈ gw := gw_of 283 (by decide +kernel) (by decide +kernel)
theorem m284 : (Jvm.Cond.static ({ cls := "NumberLeases$Bits", name := "ofFloat", desc := "(F)I" } : Jvm.MethodName)) ∈ gw := gw_of 284 (by decide +kernel) (by decide +kernel)
theorem m285 : (Jvm.Cond.code ({ cls := "NumberLeases$Bits", name := "ofFloat", desc := "(F)I" } : Jvm.MethodName) prog_2_method_2_code (4 : Nat) (Option.some Jvm.ClassFile.FieldType.int)) ∈ gw := gw_of 285 (by decide +kernel) (by decide +kernel)
theorem m286 : (Jvm.Cond.constantFloat "NumberLeases$Bits" (7 : Nat) (1258291200 : UInt32)) ∈ gw := gw_of 286 (by decide +kernel) (by decide +kernel)
theorem m287 : (Jvm.Cond.methodLink "NumberLeasesLaw" (158 : Nat) ({ cls := "NumberLeases", name := "scatter", desc := "()I" } : Jvm.MethodName)) ∈ gw := gw_of 287 (by decide +kernel) (by decide +kernel)
theorem m288 : (Jvm.Cond.instanceMethod ({ cls := "NumberLeases", name := "scatter", desc := "()I" } : Jvm.MethodName)) ∈ gw := gw_of 288 (by decide +kernel) (by decide +kernel)
theorem m289 : (Jvm.Cond.selects "NumberLeases" ({ cls := "NumberLeases", name := "scatter", desc := "()I" } : Jvm.MethodName) ({ cls := "NumberLeases", name := "scatter", desc := "()I" } : Jvm.MethodName)) ∈ gw := gw_of 289 (by decide +kernel) (by decide +kernel)
theorem m290 : (Jvm.Cond.code ({ cls := "NumberLeases", name := "scatter", desc := "()I" } : Jvm.MethodName) prog_1_method_24_code (1 : Nat) (Option.some Jvm.ClassFile.FieldType.int)) ∈ gw := gw_of 290 (by decide +kernel) (by decide +kernel)
theorem m291 : (Jvm.Cond.methodLink "NumberLeases" (164 : Nat) ({ cls := "NumberLeases", name := "scatterBits", desc := "()I" } : Jvm.MethodName)) ∈ gw := gw_of 291 (by decide +kernel) (by decide +kernel)
theorem m293 : (Jvm.Cond.instanceMethod ({ cls := "NumberLeases", name := "scatterBits", desc := "()I" } : Jvm.MethodName)) ∈ gw := gw_of 293 (by decide +kernel) (by decide +kernel)
theorem m294 : (Jvm.Cond.code ({ cls := "NumberLeases", name := "scatterBits", desc := "()I" } : Jvm.MethodName) prog_1_method_39_code (2 : Nat) (Option.some Jvm.ClassFile.FieldType.int)) ∈ gw := gw_of 294 (by decide +kernel) (by decide +kernel)
theorem m295 : (Jvm.Cond.methodLink "NumberLeases" (243 : Nat) ({ cls := "NumberLeases$Pool", name := "longestRow", desc := "()I" } : Jvm.MethodName)) ∈ gw := gw_of 295 (by decide +kernel) (by decide +kernel)
theorem m296 : (Jvm.Cond.instanceMethod ({ cls := "NumberLeases$Pool", name := "longestRow", desc := "()I" } : Jvm.MethodName)) ∈ gw := gw_of 296 (by decide +kernel) (by decide +kernel)
theorem m297 : (Jvm.Cond.selects "NumberLeases$Pool" ({ cls := "NumberLeases$Pool", name := "longestRow", desc := "()I" } : Jvm.MethodName) ({ cls := "NumberLeases$Pool", name := "longestRow", desc := "()I" } : Jvm.MethodName)) ∈ gw := gw_of 297 (by decide +kernel) (by decide +kernel)
theorem m298 : (Jvm.Cond.code ({ cls := "NumberLeases$Pool", name := "longestRow", desc := "()I" } : Jvm.MethodName) prog_4_method_37_code (3 : Nat) (Option.some Jvm.ClassFile.FieldType.int)) ∈ gw := gw_of 298 (by decide +kernel) (by decide +kernel)
theorem m299 : (Jvm.Cond.methodLink "NumberLeases$Pool" (127 : Nat) ({ cls := "NumberLeases$Pool", name := "rowFrom", desc := "(I)I" } : Jvm.MethodName)) ∈ gw := gw_of 299 (by decide +kernel) (by decide +kernel)
theorem m301 : (Jvm.Cond.instanceMethod ({ cls := "NumberLeases$Pool", name := "rowFrom", desc := "(I)I" } : Jvm.MethodName)) ∈ gw := gw_of 301 (by decide +kernel) (by decide +kernel)
theorem m302 : (Jvm.Cond.code ({ cls := "NumberLeases$Pool", name := "rowFrom", desc := "(I)I" } : Jvm.MethodName) prog_4_method_35_code (3 : Nat) (Option.some Jvm.ClassFile.FieldType.int)) ∈ gw := gw_of 302 (by decide +kernel) (by decide +kernel)
theorem m303 : (Jvm.Cond.methodLink "NumberLeases$Pool" (147 : Nat) ({ cls := "java/lang/Math", name := "max", desc := "(II)I" } : Jvm.MethodName)) ∈ gw := gw_of 303 (by decide +kernel) (by decide +kernel)
theorem m304 : (Jvm.Cond.static ({ cls := "java/lang/Math", name := "max", desc := "(II)I" } : Jvm.MethodName)) ∈ gw := gw_of 304 (by decide +kernel) (by decide +kernel)
theorem m305 : (Jvm.Cond.code ({ cls := "java/lang/Math", name := "max", desc := "(II)I" } : Jvm.MethodName) prog_14_method_65_code (2 : Nat) (Option.some Jvm.ClassFile.FieldType.int)) ∈ gw := gw_of 305 (by decide +kernel) (by decide +kernel)
theorem m306 : (Jvm.Cond.methodLink "NumberLeasesLaw" (162 : Nat) ({ cls := "NumberLeases", name := "meanHeld", desc := "()D" } : Jvm.MethodName)) ∈ gw := gw_of 306 (by decide +kernel) (by decide +kernel)
theorem m307 : (Jvm.Cond.instanceMethod ({ cls := "NumberLeases", name := "meanHeld", desc := "()D" } : Jvm.MethodName)) ∈ gw := gw_of 307 (by decide +kernel) (by decide +kernel)
theorem m308 : (Jvm.Cond.selects "NumberLeases" ({ cls := "NumberLeases", name := "meanHeld", desc := "()D" } : Jvm.MethodName) ({ cls := "NumberLeases", name := "meanHeld", desc := "()D" } : Jvm.MethodName)) ∈ gw := gw_of 308 (by decide +kernel) (by decide +kernel)
theorem m309 : (Jvm.Cond.code ({ cls := "NumberLeases", name := "meanHeld", desc := "()D" } : Jvm.MethodName) prog_1_method_25_code (1 : Nat) (Option.some Jvm.ClassFile.FieldType.double)) ∈ gw := gw_of 309 (by decide +kernel) (by decide +kernel)
theorem m310 : (Jvm.Cond.methodLink "NumberLeases" (167 : Nat) ({ cls := "NumberLeases", name := "meanUnits", desc := "()D" } : Jvm.MethodName)) ∈ gw := gw_of 310 (by decide +kernel) (by decide +kernel)
theorem m312 : (Jvm.Cond.instanceMethod ({ cls := "NumberLeases", name := "meanUnits", desc := "()D" } : Jvm.MethodName)) ∈ gw := gw_of 312 (by decide +kernel) (by decide +kernel)
theorem m313 : (Jvm.Cond.code ({ cls := "NumberLeases", name := "meanUnits", desc := "()D" } : Jvm.MethodName) prog_1_method_40_code (2 : Nat) (Option.some Jvm.ClassFile.FieldType.double)) ∈ gw := gw_of 313 (by decide +kernel) (by decide +kernel)
theorem m314 : (Jvm.Cond.methodLink "NumberLeases" (249 : Nat) ({ cls := "NumberLeases", name := "sum", desc := "([I)I" } : Jvm.MethodName)) ∈ gw := gw_of 314 (by decide +kernel) (by decide +kernel)
theorem m315 : (Jvm.Cond.static ({ cls := "NumberLeases", name := "sum", desc := "([I)I" } : Jvm.MethodName)) ∈ gw := gw_of 315 (by decide +kernel) (by decide +kernel)
theorem m316 : (Jvm.Cond.code ({ cls := "NumberLeases", name := "sum", desc := "([I)I" } : Jvm.MethodName) prog_1_method_45_code (6 : Nat) (Option.some Jvm.ClassFile.FieldType.int)) ∈ gw := gw_of 316 (by decide +kernel) (by decide +kernel)
theorem m317 : (Jvm.Cond.methodLink "NumberLeasesLaw" (167 : Nat) ({ cls := "NumberLeases", name := "digest", desc := "()J" } : Jvm.MethodName)) ∈ gw := gw_of 317 (by decide +kernel) (by decide +kernel)
theorem m318 : (Jvm.Cond.instanceMethod ({ cls := "NumberLeases", name := "digest", desc := "()J" } : Jvm.MethodName)) ∈ gw := gw_of 318 (by decide +kernel) (by decide +kernel)
theorem m319 : (Jvm.Cond.selects "NumberLeases" ({ cls := "NumberLeases", name := "digest", desc := "()J" } : Jvm.MethodName) ({ cls := "NumberLeases", name := "digest", desc := "()J" } : Jvm.MethodName)) ∈ gw := gw_of 319 (by decide +kernel) (by decide +kernel)
theorem m320 : (Jvm.Cond.code ({ cls := "NumberLeases", name := "digest", desc := "()J" } : Jvm.MethodName) prog_1_method_26_code (4 : Nat) (Option.some Jvm.ClassFile.FieldType.long)) ∈ gw := gw_of 320 (by decide +kernel) (by decide +kernel)
theorem m321 : (Jvm.Cond.constantLong "NumberLeases" (171 : Nat) (2579 : Int64)) ∈ gw := gw_of 321 (by decide +kernel) (by decide +kernel)
theorem m322 : (Jvm.Cond.constantLong "NumberLeases" (173 : Nat) (31 : Int64)) ∈ gw := gw_of 322 (by decide +kernel) (by decide +kernel)
theorem m323 : (Jvm.Cond.methodLink "NumberLeases" (148 : Nat) ({ cls := "NumberLeases", name := "countOf", desc := "(I)I" } : Jvm.MethodName)) ∈ gw := gw_of 323 (by decide +kernel) (by decide +kernel)
theorem m325 : (Jvm.Cond.instanceMethod ({ cls := "NumberLeases", name := "countOf", desc := "(I)I" } : Jvm.MethodName)) ∈ gw := gw_of 325 (by decide +kernel) (by decide +kernel)
theorem m326 : (Jvm.Cond.code ({ cls := "NumberLeases", name := "countOf", desc := "(I)I" } : Jvm.MethodName) prog_1_method_34_code (2 : Nat) (Option.some Jvm.ClassFile.FieldType.int)) ∈ gw := gw_of 326 (by decide +kernel) (by decide +kernel)
theorem m327 : (Jvm.Cond.methodLink "NumberLeases" (221 : Nat) ({ cls := "NumberLeases$Pool", name := "ofAll", desc := "(I)I" } : Jvm.MethodName)) ∈ gw := gw_of 327 (by decide +kernel) (by decide +kernel)
theorem m328 : (Jvm.Cond.instanceMethod ({ cls := "NumberLeases$Pool", name := "ofAll", desc := "(I)I" } : Jvm.MethodName)) ∈ gw := gw_of 328 (by decide +kernel) (by decide +kernel)
theorem m329 : (Jvm.Cond.selects "NumberLeases$Pool" ({ cls := "NumberLeases$Pool", name := "ofAll", desc := "(I)I" } : Jvm.MethodName) ({ cls := "NumberLeases$Pool", name := "ofAll", desc := "(I)I" } : Jvm.MethodName)) ∈ gw := gw_of 329 (by decide +kernel) (by decide +kernel)
theorem m330 : (Jvm.Cond.code ({ cls := "NumberLeases$Pool", name := "ofAll", desc := "(I)I" } : Jvm.MethodName) prog_4_method_27_code (2 : Nat) (Option.some Jvm.ClassFile.FieldType.int)) ∈ gw := gw_of 330 (by decide +kernel) (by decide +kernel)
theorem m331 : (Jvm.Cond.methodLink "NumberLeases$Pool" (130 : Nat) ({ cls := "NumberLeases$Pool", name := "freeNumbers", desc := "()I" } : Jvm.MethodName)) ∈ gw := gw_of 331 (by decide +kernel) (by decide +kernel)
theorem m333 : (Jvm.Cond.methodLink "NumberLeases$Pool" (141 : Nat) ({ cls := "NumberLeases$Pool", name := "spans", desc := "()I" } : Jvm.MethodName)) ∈ gw := gw_of 333 (by decide +kernel) (by decide +kernel)
theorem m334 : (Jvm.Cond.instanceMethod ({ cls := "NumberLeases$Pool", name := "spans", desc := "()I" } : Jvm.MethodName)) ∈ gw := gw_of 334 (by decide +kernel) (by decide +kernel)
theorem m335 : (Jvm.Cond.selects "NumberLeases$Pool" ({ cls := "NumberLeases$Pool", name := "spans", desc := "()I" } : Jvm.MethodName) ({ cls := "NumberLeases$Pool", name := "spans", desc := "()I" } : Jvm.MethodName)) ∈ gw := gw_of 335 (by decide +kernel) (by decide +kernel)
theorem m336 : (Jvm.Cond.code ({ cls := "NumberLeases$Pool", name := "spans", desc := "()I" } : Jvm.MethodName) prog_4_method_38_code (3 : Nat) (Option.some Jvm.ClassFile.FieldType.int)) ∈ gw := gw_of 336 (by decide +kernel) (by decide +kernel)
theorem m337 : (Jvm.Cond.methodLink "NumberLeases$Pool" (150 : Nat) ({ cls := "NumberLeases$Pool", name := "startsSpan", desc := "(I)Z" } : Jvm.MethodName)) ∈ gw := gw_of 337 (by decide +kernel) (by decide +kernel)
theorem m339 : (Jvm.Cond.instanceMethod ({ cls := "NumberLeases$Pool", name := "startsSpan", desc := "(I)Z" } : Jvm.MethodName)) ∈ gw := gw_of 339 (by decide +kernel) (by decide +kernel)
theorem m340 : (Jvm.Cond.code ({ cls := "NumberLeases$Pool", name := "startsSpan", desc := "(I)Z" } : Jvm.MethodName) prog_4_method_40_code (2 : Nat) (Option.some Jvm.ClassFile.FieldType.boolean)) ∈ gw := gw_of 340 (by decide +kernel) (by decide +kernel)
theorem m341 : (Jvm.Cond.methodLink "NumberLeases$Pool" (144 : Nat) ({ cls := "NumberLeases$Pool", name := "longestRow", desc := "()I" } : Jvm.MethodName)) ∈ gw := gw_of 341 (by decide +kernel) (by decide +kernel)
theorem m342 : (Jvm.Cond.methodLink "NumberLeases" (175 : Nat) ({ cls := "NumberLeases", name := "addNumbers", desc := "(J)J" } : Jvm.MethodName)) ∈ gw := gw_of 342 (by decide +kernel) (by decide +kernel)
theorem m344 : (Jvm.Cond.instanceMethod ({ cls := "NumberLeases", name := "addNumbers", desc := "(J)J" } : Jvm.MethodName)) ∈ gw := gw_of 344 (by decide +kernel) (by decide +kernel)
theorem m345 : (Jvm.Cond.code ({ cls := "NumberLeases", name := "addNumbers", desc := "(J)J" } : Jvm.MethodName) prog_1_method_41_code (7 : Nat) (Option.some Jvm.ClassFile.FieldType.long)) ∈ gw := gw_of 345 (by decide +kernel) (by decide +kernel)
theorem m346 : (Jvm.Cond.methodLink "NumberLeases" (139 : Nat) ({ cls := "NumberLeases$Pool", name := "ofNumber", desc := "(II)I" } : Jvm.MethodName)) ∈ gw := gw_of 346 (by decide +kernel) (by decide +kernel)
theorem m347 : (Jvm.Cond.instanceMethod ({ cls := "NumberLeases$Pool", name := "ofNumber", desc := "(II)I" } : Jvm.MethodName)) ∈ gw := gw_of 347 (by decide +kernel) (by decide +kernel)
theorem m348 : (Jvm.Cond.selects "NumberLeases$Pool" ({ cls := "NumberLeases$Pool", name := "ofNumber", desc := "(II)I" } : Jvm.MethodName) ({ cls := "NumberLeases$Pool", name := "ofNumber", desc := "(II)I" } : Jvm.MethodName)) ∈ gw := gw_of 348 (by decide +kernel) (by decide +kernel)
theorem m349 : (Jvm.Cond.code ({ cls := "NumberLeases$Pool", name := "ofNumber", desc := "(II)I" } : Jvm.MethodName) prog_4_method_24_code (5 : Nat) (Option.some Jvm.ClassFile.FieldType.int)) ∈ gw := gw_of 349 (by decide +kernel) (by decide +kernel)
theorem m350 : (Jvm.Cond.methodLink "NumberLeases" (179 : Nat) ({ cls := "NumberLeases", name := "addHolders", desc := "(J)J" } : Jvm.MethodName)) ∈ gw := gw_of 350 (by decide +kernel) (by decide +kernel)
theorem m352 : (Jvm.Cond.instanceMethod ({ cls := "NumberLeases", name := "addHolders", desc := "(J)J" } : Jvm.MethodName)) ∈ gw := gw_of 352 (by decide +kernel) (by decide +kernel)
theorem m353 : (Jvm.Cond.code ({ cls := "NumberLeases", name := "addHolders", desc := "(J)J" } : Jvm.MethodName) prog_1_method_42_code (7 : Nat) (Option.some Jvm.ClassFile.FieldType.long)) ∈ gw := gw_of 353 (by decide +kernel) (by decide +kernel)
theorem m354 : (Jvm.Cond.methodLink "NumberLeases" (142 : Nat) ({ cls := "NumberLeases$Pool", name := "ofHolder", desc := "(II)I" } : Jvm.MethodName)) ∈ gw := gw_of 354 (by decide +kernel) (by decide +kernel)
theorem m355 : (Jvm.Cond.instanceMethod ({ cls := "NumberLeases$Pool", name := "ofHolder", desc := "(II)I" } : Jvm.MethodName)) ∈ gw := gw_of 355 (by decide +kernel) (by decide +kernel)
theorem m356 : (Jvm.Cond.selects "NumberLeases$Pool" ({ cls := "NumberLeases$Pool", name := "ofHolder", desc := "(II)I" } : Jvm.MethodName) ({ cls := "NumberLeases$Pool", name := "ofHolder", desc := "(II)I" } : Jvm.MethodName)) ∈ gw := gw_of 356 (by decide +kernel) (by decide +kernel)
theorem m357 : (Jvm.Cond.code ({ cls := "NumberLeases$Pool", name := "ofHolder", desc := "(II)I" } : Jvm.MethodName) prog_4_method_25_code (3 : Nat) (Option.some Jvm.ClassFile.FieldType.int)) ∈ gw := gw_of 357 (by decide +kernel) (by decide +kernel)
theorem m358 : (Jvm.Cond.methodLink "NumberLeases$Pool" (112 : Nat) ({ cls := "NumberLeases$Pool", name := "numbersOfIn", desc := "(II)I" } : Jvm.MethodName)) ∈ gw := gw_of 358 (by decide +kernel) (by decide +kernel)
theorem m360 : (Jvm.Cond.instanceMethod ({ cls := "NumberLeases$Pool", name := "numbersOfIn", desc := "(II)I" } : Jvm.MethodName)) ∈ gw := gw_of 360 (by decide +kernel) (by decide +kernel)
theorem m361 : (Jvm.Cond.code ({ cls := "NumberLeases$Pool", name := "numbersOfIn", desc := "(II)I" } : Jvm.MethodName) prog_4_method_31_code (5 : Nat) (Option.some Jvm.ClassFile.FieldType.int)) ∈ gw := gw_of 361 (by decide +kernel) (by decide +kernel)
theorem m362 : (Jvm.Cond.methodLink "NumberLeases$Pool" (115 : Nat) ({ cls := "NumberLeases$Pool", name := "wishesOf", desc := "(I)I" } : Jvm.MethodName)) ∈ gw := gw_of 362 (by decide +kernel) (by decide +kernel)
theorem m364 : (Jvm.Cond.instanceMethod ({ cls := "NumberLeases$Pool", name := "wishesOf", desc := "(I)I" } : Jvm.MethodName)) ∈ gw := gw_of 364 (by decide +kernel) (by decide +kernel)
theorem m365 : (Jvm.Cond.code ({ cls := "NumberLeases$Pool", name := "wishesOf", desc := "(I)I" } : Jvm.MethodName) prog_4_method_32_code (4 : Nat) (Option.some Jvm.ClassFile.FieldType.int)) ∈ gw := gw_of 365 (by decide +kernel) (by decide +kernel)
theorem m366 : (Jvm.Cond.methodLink "NumberLeases$Pool" (85 : Nat) ({ cls := "NumberLeases$Pool", name := "placeOfWish", desc := "(II)I" } : Jvm.MethodName)) ∈ gw := gw_of 366 (by decide +kernel) (by decide +kernel)
theorem m367 : (Jvm.Cond.instanceMethod ({ cls := "NumberLeases$Pool", name := "placeOfWish", desc := "(II)I" } : Jvm.MethodName)) ∈ gw := gw_of 367 (by decide +kernel) (by decide +kernel)
theorem m368 : (Jvm.Cond.selects "NumberLeases$Pool" ({ cls := "NumberLeases$Pool", name := "placeOfWish", desc := "(II)I" } : Jvm.MethodName) ({ cls := "NumberLeases$Pool", name := "placeOfWish", desc := "(II)I" } : Jvm.MethodName)) ∈ gw := gw_of 368 (by decide +kernel) (by decide +kernel)
theorem m369 : (Jvm.Cond.code ({ cls := "NumberLeases$Pool", name := "placeOfWish", desc := "(II)I" } : Jvm.MethodName) prog_4_method_17_code (4 : Nat) (Option.some Jvm.ClassFile.FieldType.int)) ∈ gw := gw_of 369 (by decide +kernel) (by decide +kernel)
theorem m370 : (Jvm.Cond.methodLink "NumberLeases$Pool" (118 : Nat) ({ cls := "NumberLeases$Pool", name := "leastOf", desc := "(I)I" } : Jvm.MethodName)) ∈ gw := gw_of 370 (by decide +kernel) (by decide +kernel)
theorem m372 : (Jvm.Cond.instanceMethod ({ cls := "NumberLeases$Pool", name := "leastOf", desc := "(I)I" } : Jvm.MethodName)) ∈ gw := gw_of 372 (by decide +kernel) (by decide +kernel)
theorem m373 : (Jvm.Cond.code ({ cls := "NumberLeases$Pool", name := "leastOf", desc := "(I)I" } : Jvm.MethodName) prog_4_method_33_code (3 : Nat) (Option.some Jvm.ClassFile.FieldType.int)) ∈ gw := gw_of 373 (by decide +kernel) (by decide +kernel)
theorem m374 : (Jvm.Cond.methodLink "NumberLeases$Pool" (121 : Nat) ({ cls := "NumberLeases$Pool", name := "leastEndOf", desc := "(I)I" } : Jvm.MethodName)) ∈ gw := gw_of 374 (by decide +kernel) (by decide +kernel)
theorem m376 : (Jvm.Cond.instanceMethod ({ cls := "NumberLeases$Pool", name := "leastEndOf", desc := "(I)I" } : Jvm.MethodName)) ∈ gw := gw_of 376 (by decide +kernel) (by decide +kernel)
theorem m377 : (Jvm.Cond.code ({ cls := "NumberLeases$Pool", name := "leastEndOf", desc := "(I)I" } : Jvm.MethodName) prog_4_method_34_code (4 : Nat) (Option.some Jvm.ClassFile.FieldType.int)) ∈ gw := gw_of 377 (by decide +kernel) (by decide +kernel)
theorem m378 : (Jvm.Cond.methodLink "NumberLeases" (157 : Nat) ({ cls := "NumberLeases", name := "timeToWished", desc := "(II)I" } : Jvm.MethodName)) ∈ gw := gw_of 378 (by decide +kernel) (by decide +kernel)
theorem m380 : (Jvm.Cond.instanceMethod ({ cls := "NumberLeases", name := "timeToWished", desc := "(II)I" } : Jvm.MethodName)) ∈ gw := gw_of 380 (by decide +kernel) (by decide +kernel)
theorem m381 : (Jvm.Cond.code ({ cls := "NumberLeases", name := "timeToWished", desc := "(II)I" } : Jvm.MethodName) prog_1_method_37_code (5 : Nat) (Option.some Jvm.ClassFile.FieldType.int)) ∈ gw := gw_of 381 (by decide +kernel) (by decide +kernel)
theorem m382 : (Jvm.Cond.methodLink "NumberLeases" (48 : Nat) ({ cls := "NumberLeases$Pool", name := "mayWish", desc := "(II)Z" } : Jvm.MethodName)) ∈ gw := gw_of 382 (by decide +kernel) (by decide +kernel)
theorem m383 : (Jvm.Cond.instanceMethod ({ cls := "NumberLeases$Pool", name := "mayWish", desc := "(II)Z" } : Jvm.MethodName)) ∈ gw := gw_of 383 (by decide +kernel) (by decide +kernel)
theorem m384 : (Jvm.Cond.selects "NumberLeases$Pool" ({ cls := "NumberLeases$Pool", name := "mayWish", desc := "(II)Z" } : Jvm.MethodName) ({ cls := "NumberLeases$Pool", name := "mayWish", desc := "(II)Z" } : Jvm.MethodName)) ∈ gw := gw_of 384 (by decide +kernel) (by decide +kernel)
theorem m385 : (Jvm.Cond.code ({ cls := "NumberLeases$Pool", name := "mayWish", desc := "(II)Z" } : Jvm.MethodName) prog_4_method_6_code (3 : Nat) (Option.some Jvm.ClassFile.FieldType.boolean)) ∈ gw := gw_of 385 (by decide +kernel) (by decide +kernel)
theorem m386 : (Jvm.Cond.methodLink "NumberLeases$Pool" (77 : Nat) ({ cls := "NumberLeases$Pool", name := "hasRoom", desc := "(II)Z" } : Jvm.MethodName)) ∈ gw := gw_of 386 (by decide +kernel) (by decide +kernel)
theorem m388 : (Jvm.Cond.instanceMethod ({ cls := "NumberLeases$Pool", name := "hasRoom", desc := "(II)Z" } : Jvm.MethodName)) ∈ gw := gw_of 388 (by decide +kernel) (by decide +kernel)
theorem m389 : (Jvm.Cond.code ({ cls := "NumberLeases$Pool", name := "hasRoom", desc := "(II)Z" } : Jvm.MethodName) prog_4_method_10_code (3 : Nat) (Option.some Jvm.ClassFile.FieldType.boolean)) ∈ gw := gw_of 389 (by decide +kernel) (by decide +kernel)
theorem m390 : (Jvm.Cond.methodLink "NumberLeases$Pool" (88 : Nat) ({ cls := "NumberLeases$Pool", name := "numbersOf", desc := "(I)I" } : Jvm.MethodName)) ∈ gw := gw_of 390 (by decide +kernel) (by decide +kernel)
theorem m392 : (Jvm.Cond.instanceMethod ({ cls := "NumberLeases$Pool", name := "numbersOf", desc := "(I)I" } : Jvm.MethodName)) ∈ gw := gw_of 392 (by decide +kernel) (by decide +kernel)
theorem m393 : (Jvm.Cond.code ({ cls := "NumberLeases$Pool", name := "numbersOf", desc := "(I)I" } : Jvm.MethodName) prog_4_method_30_code (4 : Nat) (Option.some Jvm.ClassFile.FieldType.int)) ∈ gw := gw_of 393 (by decide +kernel) (by decide +kernel)
theorem m394 : (Jvm.Cond.methodLink "NumberLeases" (224 : Nat) ({ cls := "NumberLeases$Pool", name := "copyFrom", desc := "(LNumberLeases$Pool;)V" } : Jvm.MethodName)) ∈ gw := gw_of 394 (by decide +kernel) (by decide +kernel)
theorem m395 : (Jvm.Cond.instanceMethod ({ cls := "NumberLeases$Pool", name := "copyFrom", desc := "(LNumberLeases$Pool;)V" } : Jvm.MethodName)) ∈ gw := gw_of 395 (by decide +kernel) (by decide +kernel)
theorem m396 : (Jvm.Cond.selects "NumberLeases$Pool" ({ cls := "NumberLeases$Pool", name := "copyFrom", desc := "(LNumberLeases$Pool;)V" } : Jvm.MethodName) ({ cls := "NumberLeases$Pool", name := "copyFrom", desc := "(LNumberLeases$Pool;)V" } : Jvm.MethodName)) ∈ gw := gw_of 396 (by decide +kernel) (by decide +kernel)
theorem m397 : (Jvm.Cond.code ({ cls := "NumberLeases$Pool", name := "copyFrom", desc := "(LNumberLeases$Pool;)V" } : Jvm.MethodName) prog_4_method_2_code (2 : Nat) (Option.none : Option Jvm.ClassFile.FieldType)) ∈ gw := gw_of 397 (by decide +kernel) (by decide +kernel)
theorem m398 : (Jvm.Cond.methodLink "NumberLeases$Pool" (61 : Nat) ({ cls := "NumberLeases$Pool", name := "copyRow", desc := "([I[I)V" } : Jvm.MethodName)) ∈ gw := gw_of 398 (by decide +kernel) (by decide +kernel)
theorem m399 : (Jvm.Cond.static ({ cls := "NumberLeases$Pool", name := "copyRow", desc := "([I[I)V" } : Jvm.MethodName)) ∈ gw := gw_of 399 (by decide +kernel) (by decide +kernel)
theorem m400 : (Jvm.Cond.code ({ cls := "NumberLeases$Pool", name := "copyRow", desc := "([I[I)V" } : Jvm.MethodName) prog_4_method_3_code (2 : Nat) (Option.none : Option Jvm.ClassFile.FieldType)) ∈ gw := gw_of 400 (by decide +kernel) (by decide +kernel)
theorem m401 : (Jvm.Cond.methodLink "NumberLeases$Pool" (65 : Nat) ({ cls := "java/lang/Math", name := "min", desc := "(II)I" } : Jvm.MethodName)) ∈ gw := gw_of 401 (by decide +kernel) (by decide +kernel)
theorem m402 : (Jvm.Cond.static ({ cls := "java/lang/Math", name := "min", desc := "(II)I" } : Jvm.MethodName)) ∈ gw := gw_of 402 (by decide +kernel) (by decide +kernel)
theorem m403 : (Jvm.Cond.code ({ cls := "java/lang/Math", name := "min", desc := "(II)I" } : Jvm.MethodName) prog_14_method_69_code (2 : Nat) (Option.some Jvm.ClassFile.FieldType.int)) ∈ gw := gw_of 403 (by decide +kernel) (by decide +kernel)
theorem m404 : (Jvm.Cond.methodLink "NumberLeases$Pool" (71 : Nat) ({ cls := "java/lang/System", name := "arraycopy", desc := "(Ljava/lang/Object;ILjava/lang/Object;II)V" } : Jvm.MethodName)) ∈ gw := gw_of 404 (by decide +kernel) (by decide +kernel)
theorem m405 : (Jvm.Cond.static ({ cls := "java/lang/System", name := "arraycopy", desc := "(Ljava/lang/Object;ILjava/lang/Object;II)V" } : Jvm.MethodName)) ∈ gw := gw_of 405 (by decide +kernel) (by decide +kernel)
theorem m406 : (Jvm.Cond.native ({ cls := "java/lang/System", name := "arraycopy", desc := "(Ljava/lang/Object;ILjava/lang/Object;II)V" } : Jvm.MethodName)) ∈ gw := gw_of 406 (by decide +kernel) (by decide +kernel)
theorem m407 : (Jvm.Cond.methodLink "NumberLeases" (60 : Nat) ({ cls := "NumberLeases$Pool", name := "addWish", desc := "(III)I" } : Jvm.MethodName)) ∈ gw := gw_of 407 (by decide +kernel) (by decide +kernel)
theorem m408 : (Jvm.Cond.instanceMethod ({ cls := "NumberLeases$Pool", name := "addWish", desc := "(III)I" } : Jvm.MethodName)) ∈ gw := gw_of 408 (by decide +kernel) (by decide +kernel)
theorem m409 : (Jvm.Cond.selects "NumberLeases$Pool" ({ cls := "NumberLeases$Pool", name := "addWish", desc := "(III)I" } : Jvm.MethodName) ({ cls := "NumberLeases$Pool", name := "addWish", desc := "(III)I" } : Jvm.MethodName)) ∈ gw := gw_of 409 (by decide +kernel) (by decide +kernel)
theorem m410 : (Jvm.Cond.code ({ cls := "NumberLeases$Pool", name := "addWish", desc := "(III)I" } : Jvm.MethodName) prog_4_method_16_code (5 : Nat) (Option.some Jvm.ClassFile.FieldType.int)) ∈ gw := gw_of 410 (by decide +kernel) (by decide +kernel)
theorem m411 : (Jvm.Cond.methodLink "NumberLeases$Pool" (91 : Nat) ({ cls := "NumberLeases$Pool", name := "lease", desc := "(III)V" } : Jvm.MethodName)) ∈ gw := gw_of 411 (by decide +kernel) (by decide +kernel)
theorem m413 : (Jvm.Cond.instanceMethod ({ cls := "NumberLeases$Pool", name := "lease", desc := "(III)V" } : Jvm.MethodName)) ∈ gw := gw_of 413 (by decide +kernel) (by decide +kernel)
theorem m414 : (Jvm.Cond.code ({ cls := "NumberLeases$Pool", name := "lease", desc := "(III)V" } : Jvm.MethodName) prog_4_method_12_code (4 : Nat) (Option.none : Option Jvm.ClassFile.FieldType)) ∈ gw := gw_of 414 (by decide +kernel) (by decide +kernel)
theorem m415 : (Jvm.Cond.methodLink "NumberLeases" (230 : Nat) ({ cls := "NumberLeases$Pool", name := "leap", desc := "(I)Z" } : Jvm.MethodName)) ∈ gw := gw_of 415 (by decide +kernel) (by decide +kernel)
theorem m416 : (Jvm.Cond.instanceMethod ({ cls := "NumberLeases$Pool", name := "leap", desc := "(I)Z" } : Jvm.MethodName)) ∈ gw := gw_of 416 (by decide +kernel) (by decide +kernel)
theorem m417 : (Jvm.Cond.selects "NumberLeases$Pool" ({ cls := "NumberLeases$Pool", name := "leap", desc := "(I)Z" } : Jvm.MethodName) ({ cls := "NumberLeases$Pool", name := "leap", desc := "(I)Z" } : Jvm.MethodName)) ∈ gw := gw_of 417 (by decide +kernel) (by decide +kernel)
theorem m418 : (Jvm.Cond.code ({ cls := "NumberLeases$Pool", name := "leap", desc := "(I)Z" } : Jvm.MethodName) prog_4_method_20_code (4 : Nat) (Option.some Jvm.ClassFile.FieldType.boolean)) ∈ gw := gw_of 418 (by decide +kernel) (by decide +kernel)
theorem m419 : (Jvm.Cond.methodLink "NumberLeases$Pool" (109 : Nat) ({ cls := "NumberLeases$Pool", name := "freeDue", desc := "()V" } : Jvm.MethodName)) ∈ gw := gw_of 419 (by decide +kernel) (by decide +kernel)
theorem m421 : (Jvm.Cond.instanceMethod ({ cls := "NumberLeases$Pool", name := "freeDue", desc := "()V" } : Jvm.MethodName)) ∈ gw := gw_of 421 (by decide +kernel) (by decide +kernel)
theorem m422 : (Jvm.Cond.code ({ cls := "NumberLeases$Pool", name := "freeDue", desc := "()V" } : Jvm.MethodName) prog_4_method_22_code (2 : Nat) (Option.none : Option Jvm.ClassFile.FieldType)) ∈ gw := gw_of 422 (by decide +kernel) (by decide +kernel)
theorem m423 : (Jvm.Cond.methodLink "NumberLeases$Pool" (98 : Nat) ({ cls := "NumberLeases$Pool", name := "free", desc := "(I)V" } : Jvm.MethodName)) ∈ gw := gw_of 423 (by decide +kernel) (by decide +kernel)
theorem m425 : (Jvm.Cond.instanceMethod ({ cls := "NumberLeases$Pool", name := "free", desc := "(I)V" } : Jvm.MethodName)) ∈ gw := gw_of 425 (by decide +kernel) (by decide +kernel)
theorem m426 : (Jvm.Cond.code ({ cls := "NumberLeases$Pool", name := "free", desc := "(I)V" } : Jvm.MethodName) prog_4_method_15_code (5 : Nat) (Option.none : Option Jvm.ClassFile.FieldType)) ∈ gw := gw_of 426 (by decide +kernel) (by decide +kernel)
theorem m427 : (Jvm.Cond.methodLink "NumberLeases$Pool" (102 : Nat) ({ cls := "NumberLeases$Pool", name := "dropWish", desc := "(II)V" } : Jvm.MethodName)) ∈ gw := gw_of 427 (by decide +kernel) (by decide +kernel)
theorem m428 : (Jvm.Cond.instanceMethod ({ cls := "NumberLeases$Pool", name := "dropWish", desc := "(II)V" } : Jvm.MethodName)) ∈ gw := gw_of 428 (by decide +kernel) (by decide +kernel)
theorem m429 : (Jvm.Cond.selects "NumberLeases$Pool" ({ cls := "NumberLeases$Pool", name := "dropWish", desc := "(II)V" } : Jvm.MethodName) ({ cls := "NumberLeases$Pool", name := "dropWish", desc := "(II)V" } : Jvm.MethodName)) ∈ gw := gw_of 429 (by decide +kernel) (by decide +kernel)
theorem m430 : (Jvm.Cond.code ({ cls := "NumberLeases$Pool", name := "dropWish", desc := "(II)V" } : Jvm.MethodName) prog_4_method_18_code (5 : Nat) (Option.none : Option Jvm.ClassFile.FieldType)) ∈ gw := gw_of 430 (by decide +kernel) (by decide +kernel)
theorem m431 : (Jvm.Cond.methodLink "NumberLeases" (182 : Nat) ({ cls := "NumberLeases", name := "addSpans", desc := "(J)J" } : Jvm.MethodName)) ∈ gw := gw_of 431 (by decide +kernel) (by decide +kernel)
theorem m433 : (Jvm.Cond.instanceMethod ({ cls := "NumberLeases", name := "addSpans", desc := "(J)J" } : Jvm.MethodName)) ∈ gw := gw_of 433 (by decide +kernel) (by decide +kernel)
theorem m434 : (Jvm.Cond.code ({ cls := "NumberLeases", name := "addSpans", desc := "(J)J" } : Jvm.MethodName) prog_1_method_43_code (7 : Nat) (Option.some Jvm.ClassFile.FieldType.long)) ∈ gw := gw_of 434 (by decide +kernel) (by decide +kernel)
theorem m435 : (Jvm.Cond.methodLink "NumberLeases" (256 : Nat) ({ cls := "NumberLeases$Pool", name := "spans", desc := "()I" } : Jvm.MethodName)) ∈ gw := gw_of 435 (by decide +kernel) (by decide +kernel)
theorem m436 : (Jvm.Cond.methodLink "NumberLeases" (145 : Nat) ({ cls := "NumberLeases$Pool", name := "ofSpan", desc := "(II)I" } : Jvm.MethodName)) ∈ gw := gw_of 436 (by decide +kernel) (by decide +kernel)
theorem m437 : (Jvm.Cond.instanceMethod ({ cls := "NumberLeases$Pool", name := "ofSpan", desc := "(II)I" } : Jvm.MethodName)) ∈ gw := gw_of 437 (by decide +kernel) (by decide +kernel)
theorem m438 : (Jvm.Cond.selects "NumberLeases$Pool" ({ cls := "NumberLeases$Pool", name := "ofSpan", desc := "(II)I" } : Jvm.MethodName) ({ cls := "NumberLeases$Pool", name := "ofSpan", desc := "(II)I" } : Jvm.MethodName)) ∈ gw := gw_of 438 (by decide +kernel) (by decide +kernel)
theorem m439 : (Jvm.Cond.code ({ cls := "NumberLeases$Pool", name := "ofSpan", desc := "(II)I" } : Jvm.MethodName) prog_4_method_26_code (4 : Nat) (Option.some Jvm.ClassFile.FieldType.int)) ∈ gw := gw_of 439 (by decide +kernel) (by decide +kernel)
theorem m440 : (Jvm.Cond.methodLink "NumberLeases$Pool" (124 : Nat) ({ cls := "NumberLeases$Pool", name := "startOfSpan", desc := "(I)I" } : Jvm.MethodName)) ∈ gw := gw_of 440 (by decide +kernel) (by decide +kernel)
theorem m442 : (Jvm.Cond.instanceMethod ({ cls := "NumberLeases$Pool", name := "startOfSpan", desc := "(I)I" } : Jvm.MethodName)) ∈ gw := gw_of 442 (by decide +kernel) (by decide +kernel)
theorem m443 : (Jvm.Cond.code ({ cls := "NumberLeases$Pool", name := "startOfSpan", desc := "(I)I" } : Jvm.MethodName) prog_4_method_39_code (4 : Nat) (Option.some Jvm.ClassFile.FieldType.int)) ∈ gw := gw_of 443 (by decide +kernel) (by decide +kernel)
theorem m444 : (Jvm.Cond.methodLink "NumberLeases" (151 : Nat) ({ cls := "NumberLeases", name := "holderAfter", desc := "(II)I" } : Jvm.MethodName)) ∈ gw := gw_of 444 (by decide +kernel) (by decide +kernel)
theorem m446 : (Jvm.Cond.instanceMethod ({ cls := "NumberLeases", name := "holderAfter", desc := "(II)I" } : Jvm.MethodName)) ∈ gw := gw_of 446 (by decide +kernel) (by decide +kernel)
theorem m447 : (Jvm.Cond.code ({ cls := "NumberLeases", name := "holderAfter", desc := "(II)I" } : Jvm.MethodName) prog_1_method_35_code (6 : Nat) (Option.some Jvm.ClassFile.FieldType.int)) ∈ gw := gw_of 447 (by decide +kernel) (by decide +kernel)
theorem m448 : (Jvm.Cond.methodLink "NumberLeases" (154 : Nat) ({ cls := "NumberLeases", name := "timeToFree", desc := "(I)I" } : Jvm.MethodName)) ∈ gw := gw_of 448 (by decide +kernel) (by decide +kernel)
theorem m450 : (Jvm.Cond.instanceMethod ({ cls := "NumberLeases", name := "timeToFree", desc := "(I)I" } : Jvm.MethodName)) ∈ gw := gw_of 450 (by decide +kernel) (by decide +kernel)
theorem m451 : (Jvm.Cond.code ({ cls := "NumberLeases", name := "timeToFree", desc := "(I)I" } : Jvm.MethodName) prog_1_method_36_code (4 : Nat) (Option.some Jvm.ClassFile.FieldType.int)) ∈ gw := gw_of 451 (by decide +kernel) (by decide +kernel)
theorem m452 : (Jvm.Cond.methodLink "NumberLeases" (185 : Nat) ({ cls := "NumberLeases$Bits", name := "ofDouble", desc := "(D)J" } : Jvm.MethodName)) ∈ gw := gw_of 452 (by decide +kernel) (by decide +kernel)
theorem m453 : (Jvm.Cond.static ({ cls := "NumberLeases$Bits", name := "ofDouble", desc := "(D)J" } : Jvm.MethodName)) ∈ gw := gw_of 453 (by decide +kernel) (by decide +kernel)
theorem m454 : (Jvm.Cond.code ({ cls := "NumberLeases$Bits", name := "ofDouble", desc := "(D)J" } : Jvm.MethodName) prog_2_method_3_code (7 : Nat) (Option.some Jvm.ClassFile.FieldType.long)) ∈ gw := gw_of 454 (by decide +kernel) (by decide +kernel)
theorem m455 : (Jvm.Cond.constantLong "NumberLeases$Bits" (8 : Nat) (1023 : Int64)) ∈ gw := gw_of 455 (by decide +kernel) (by decide +kernel)
theorem m456 : (Jvm.Cond.constantDouble "NumberLeases$Bits" (10 : Nat) (4611686018427387904 : UInt64)) ∈ gw := gw_of 456 (by decide +kernel) (by decide +kernel)
theorem m457 : (Jvm.Cond.constantDouble "NumberLeases$Bits" (12 : Nat) (4841369599423283200 : UInt64)) ∈ gw := gw_of 457 (by decide +kernel) (by decide +kernel)
theorem m458 : (Jvm.Cond.methodLink "NumberLeases" (191 : Nat) ({ cls := "NumberLeases", name := "addBuffer", desc := "(J)J" } : Jvm.MethodName)) ∈ gw := gw_of 458 (by decide +kernel) (by decide +kernel)
theorem m460 : (Jvm.Cond.instanceMethod ({ cls := "NumberLeases", name := "addBuffer", desc := "(J)J" } : Jvm.MethodName)) ∈ gw := gw_of 460 (by decide +kernel) (by decide +kernel)
theorem m461 : (Jvm.Cond.code ({ cls := "NumberLeases", name := "addBuffer", desc := "(J)J" } : Jvm.MethodName) prog_1_method_44_code (6 : Nat) (Option.some Jvm.ClassFile.FieldType.long)) ∈ gw := gw_of 461 (by decide +kernel) (by decide +kernel)
theorem m462 : (Jvm.Cond.methodLink "NumberLeases" (259 : Nat) ({ cls := "NumberLeases$Orders", name := "signAt", desc := "(I)I" } : Jvm.MethodName)) ∈ gw := gw_of 462 (by decide +kernel) (by decide +kernel)
theorem m463 : (Jvm.Cond.methodLink "NumberLeasesLaw" (80 : Nat) ({ cls := "NumberLeasesLaw", name := "take", desc := "(LNumberLeases;II[J)I" } : Jvm.MethodName)) ∈ gw := gw_of 463 (by decide +kernel) (by decide +kernel)
theorem m464 : (Jvm.Cond.static ({ cls := "NumberLeasesLaw", name := "take", desc := "(LNumberLeases;II[J)I" } : Jvm.MethodName)) ∈ gw := gw_of 464 (by decide +kernel) (by decide +kernel)
theorem m465 : (Jvm.Cond.codeWith ({ cls := "NumberLeasesLaw", name := "take", desc := "(LNumberLeases;II[J)I" } : Jvm.MethodName) method_3_code (5 : Nat) (Option.some Jvm.ClassFile.FieldType.int) [((0 : Nat), (10 : Nat), (13 : Nat), (13 : Nat)), ((0 : Nat), (10 : Nat), (17 : Nat), (15 : Nat)), ((0 : Nat), (10 : Nat), (21 : Nat), (17 : Nat))]) ∈ gw := gw_of 465 (by decide +kernel) (by decide +kernel)
theorem m466 : (Jvm.Cond.classLink "NumberLeasesLaw" (13 : Nat) "java/lang/IndexOutOfBoundsException") ∈ gw := gw_of 466 (by decide +kernel) (by decide +kernel)
theorem m467 : (Jvm.Cond.classLink "NumberLeasesLaw" (15 : Nat) "java/lang/IllegalArgumentException") ∈ gw := gw_of 467 (by decide +kernel) (by decide +kernel)
theorem m468 : (Jvm.Cond.classLink "NumberLeasesLaw" (17 : Nat) "java/lang/IllegalStateException") ∈ gw := gw_of 468 (by decide +kernel) (by decide +kernel)
theorem m469 : (Jvm.Cond.methodLink "NumberLeasesLaw" (7 : Nat) ({ cls := "NumberLeases", name := "take", desc := "(II)I" } : Jvm.MethodName)) ∈ gw := gw_of 469 (by decide +kernel) (by decide +kernel)
theorem m470 : (Jvm.Cond.instanceMethod ({ cls := "NumberLeases", name := "take", desc := "(II)I" } : Jvm.MethodName)) ∈ gw := gw_of 470 (by decide +kernel) (by decide +kernel)
theorem m471 : (Jvm.Cond.selects "NumberLeases" ({ cls := "NumberLeases", name := "take", desc := "(II)I" } : Jvm.MethodName) ({ cls := "NumberLeases", name := "take", desc := "(II)I" } : Jvm.MethodName)) ∈ gw := gw_of 471 (by decide +kernel) (by decide +kernel)
theorem m472 : (Jvm.Cond.code ({ cls := "NumberLeases", name := "take", desc := "(II)I" } : Jvm.MethodName) prog_1_method_2_code (3 : Nat) (Option.some Jvm.ClassFile.FieldType.int)) ∈ gw := gw_of 472 (by decide +kernel) (by decide +kernel)
theorem m473 : (Jvm.Cond.methodLink "NumberLeases" (33 : Nat) ({ cls := "NumberLeases", name := "leaseLowest", desc := "(III)I" } : Jvm.MethodName)) ∈ gw := gw_of 473 (by decide +kernel) (by decide +kernel)
theorem m475 : (Jvm.Cond.instanceMethod ({ cls := "NumberLeases", name := "leaseLowest", desc := "(III)I" } : Jvm.MethodName)) ∈ gw := gw_of 475 (by decide +kernel) (by decide +kernel)
theorem m476 : (Jvm.Cond.code ({ cls := "NumberLeases", name := "leaseLowest", desc := "(III)I" } : Jvm.MethodName) prog_1_method_32_code (4 : Nat) (Option.some Jvm.ClassFile.FieldType.int)) ∈ gw := gw_of 476 (by decide +kernel) (by decide +kernel)
theorem m477 : (Jvm.Cond.methodLink "NumberLeases" (37 : Nat) ({ cls := "NumberLeases", name := "needHolder", desc := "(I)V" } : Jvm.MethodName)) ∈ gw := gw_of 477 (by decide +kernel) (by decide +kernel)
theorem m478 : (Jvm.Cond.static ({ cls := "NumberLeases", name := "needHolder", desc := "(I)V" } : Jvm.MethodName)) ∈ gw := gw_of 478 (by decide +kernel) (by decide +kernel)
theorem m479 : (Jvm.Cond.code ({ cls := "NumberLeases", name := "needHolder", desc := "(I)V" } : Jvm.MethodName) prog_1_method_27_code (1 : Nat) (Option.none : Option Jvm.ClassFile.FieldType)) ∈ gw := gw_of 479 (by decide +kernel) (by decide +kernel)
theorem m480 : (Jvm.Cond.classLink "NumberLeases" (194 : Nat) "java/lang/IndexOutOfBoundsException") ∈ gw := gw_of 480 (by decide +kernel) (by decide +kernel)
theorem m481 : (Jvm.Cond.instantiable "java/lang/IndexOutOfBoundsException" (6 : Nat)) ∈ gw := gw_of 481 (by decide +kernel) (by decide +kernel)
theorem m489 : (Jvm.Cond.selects "java/lang/IndexOutOfBoundsException" ({ cls := "java/lang/Throwable", name := "fillInStackTrace", desc := "(I)Ljava/lang/Throwable;" } : Jvm.MethodName) ({ cls := "java/lang/Throwable", name := "fillInStackTrace", desc := "(I)Ljava/lang/Throwable;" } : Jvm.MethodName)) ∈ gw := gw_of 489 (by decide +kernel) (by decide +kernel)
theorem m490 : (Jvm.Cond.selects "java/lang/IndexOutOfBoundsException" ({ cls := "java/lang/Throwable", name := "fillInStackTrace", desc := "()Ljava/lang/Throwable;" } : Jvm.MethodName) ({ cls := "java/lang/Throwable", name := "fillInStackTrace", desc := "()Ljava/lang/Throwable;" } : Jvm.MethodName)) ∈ gw := gw_of 490 (by decide +kernel) (by decide +kernel)
theorem m501 : (Jvm.Cond.fieldLink "java/lang/Throwable" (198 : Nat) "java/lang/Throwable" "backtrace" "Ljava/lang/Object;") ∈ gw := gw_of 501 (by decide +kernel) (by decide +kernel)
theorem m503 : (Jvm.Cond.instanceMethod ({ cls := "java/lang/Throwable", name := "<init>", desc := "()V" } : Jvm.MethodName)) ∈ gw := gw_of 503 (by decide +kernel) (by decide +kernel)
theorem m504 : (Jvm.Cond.code ({ cls := "java/lang/Throwable", name := "<init>", desc := "()V" } : Jvm.MethodName) prog_17_method_1_code (1 : Nat) (Option.none : Option Jvm.ClassFile.FieldType)) ∈ gw := gw_of 504 (by decide +kernel) (by decide +kernel)
theorem m505 : (Jvm.Cond.methodLink "java/lang/Throwable" (1 : Nat) ({ cls := "java/lang/Object", name := "<init>", desc := "()V" } : Jvm.MethodName)) ∈ gw := gw_of 505 (by decide +kernel) (by decide +kernel)
theorem m506 : (Jvm.Cond.fieldLink "java/lang/Throwable" (13 : Nat) "java/lang/Throwable" "UNASSIGNED_STACK" "[Ljava/lang/StackTraceElement;") ∈ gw := gw_of 506 (by decide +kernel) (by decide +kernel)
theorem m508 : (Jvm.Cond.fieldLink "java/lang/Throwable" (20 : Nat) "java/lang/Throwable" "SUPPRESSED_SENTINEL" "Ljava/util/List;") ∈ gw := gw_of 508 (by decide +kernel) (by decide +kernel)
theorem m510 : (Jvm.Cond.methodLink "java/lang/Throwable" (27 : Nat) ({ cls := "java/lang/Throwable", name := "fillInStackTrace", desc := "()Ljava/lang/Throwable;" } : Jvm.MethodName)) ∈ gw := gw_of 510 (by decide +kernel) (by decide +kernel)
theorem m511 : (Jvm.Cond.instanceMethod ({ cls := "java/lang/Throwable", name := "fillInStackTrace", desc := "()Ljava/lang/Throwable;" } : Jvm.MethodName)) ∈ gw := gw_of 511 (by decide +kernel) (by decide +kernel)
theorem m513 : (Jvm.Cond.selects "java/lang/IllegalArgumentException" ({ cls := "java/lang/Throwable", name := "fillInStackTrace", desc := "()Ljava/lang/Throwable;" } : Jvm.MethodName) ({ cls := "java/lang/Throwable", name := "fillInStackTrace", desc := "()Ljava/lang/Throwable;" } : Jvm.MethodName)) ∈ gw := gw_of 513 (by decide +kernel) (by decide +kernel)
theorem m514 : (Jvm.Cond.selects "java/lang/IllegalStateException" ({ cls := "java/lang/Throwable", name := "fillInStackTrace", desc := "()Ljava/lang/Throwable;" } : Jvm.MethodName) ({ cls := "java/lang/Throwable", name := "fillInStackTrace", desc := "()Ljava/lang/Throwable;" } : Jvm.MethodName)) ∈ gw := gw_of 514 (by decide +kernel) (by decide +kernel)
theorem m516 : (Jvm.Cond.methodLink "java/lang/Throwable" (202 : Nat) ({ cls := "java/lang/Throwable", name := "fillInStackTrace", desc := "(I)Ljava/lang/Throwable;" } : Jvm.MethodName)) ∈ gw := gw_of 516 (by decide +kernel) (by decide +kernel)
theorem m518 : (Jvm.Cond.instanceMethod ({ cls := "java/lang/Throwable", name := "fillInStackTrace", desc := "(I)Ljava/lang/Throwable;" } : Jvm.MethodName)) ∈ gw := gw_of 518 (by decide +kernel) (by decide +kernel)
theorem m519 : (Jvm.Cond.instantiable "java/lang/Throwable" (6 : Nat)) ∈ gw := gw_of 519 (by decide +kernel) (by decide +kernel)
theorem m520 : (Jvm.Cond.native ({ cls := "java/lang/Throwable", name := "fillInStackTrace", desc := "(I)Ljava/lang/Throwable;" } : Jvm.MethodName)) ∈ gw := gw_of 520 (by decide +kernel) (by decide +kernel)
theorem m521 : (Jvm.Cond.methodLink "NumberLeases" (196 : Nat) ({ cls := "java/lang/IndexOutOfBoundsException", name := "<init>", desc := "()V" } : Jvm.MethodName)) ∈ gw := gw_of 521 (by decide +kernel) (by decide +kernel)
theorem m522 : (Jvm.Cond.instanceMethod ({ cls := "java/lang/IndexOutOfBoundsException", name := "<init>", desc := "()V" } : Jvm.MethodName)) ∈ gw := gw_of 522 (by decide +kernel) (by decide +kernel)
theorem m523 : (Jvm.Cond.code ({ cls := "java/lang/IndexOutOfBoundsException", name := "<init>", desc := "()V" } : Jvm.MethodName) prog_13_method_1_code (1 : Nat) (Option.none : Option Jvm.ClassFile.FieldType)) ∈ gw := gw_of 523 (by decide +kernel) (by decide +kernel)
theorem m524 : (Jvm.Cond.methodLink "java/lang/IndexOutOfBoundsException" (1 : Nat) ({ cls := "java/lang/RuntimeException", name := "<init>", desc := "()V" } : Jvm.MethodName)) ∈ gw := gw_of 524 (by decide +kernel) (by decide +kernel)
theorem m525 : (Jvm.Cond.instanceMethod ({ cls := "java/lang/RuntimeException", name := "<init>", desc := "()V" } : Jvm.MethodName)) ∈ gw := gw_of 525 (by decide +kernel) (by decide +kernel)
theorem m526 : (Jvm.Cond.code ({ cls := "java/lang/RuntimeException", name := "<init>", desc := "()V" } : Jvm.MethodName) prog_15_method_1_code (1 : Nat) (Option.none : Option Jvm.ClassFile.FieldType)) ∈ gw := gw_of 526 (by decide +kernel) (by decide +kernel)
theorem m527 : (Jvm.Cond.methodLink "java/lang/RuntimeException" (1 : Nat) ({ cls := "java/lang/Exception", name := "<init>", desc := "()V" } : Jvm.MethodName)) ∈ gw := gw_of 527 (by decide +kernel) (by decide +kernel)
theorem m528 : (Jvm.Cond.instanceMethod ({ cls := "java/lang/Exception", name := "<init>", desc := "()V" } : Jvm.MethodName)) ∈ gw := gw_of 528 (by decide +kernel) (by decide +kernel)
theorem m529 : (Jvm.Cond.code ({ cls := "java/lang/Exception", name := "<init>", desc := "()V" } : Jvm.MethodName) prog_9_method_1_code (1 : Nat) (Option.none : Option Jvm.ClassFile.FieldType)) ∈ gw := gw_of 529 (by decide +kernel) (by decide +kernel)
theorem m530 : (Jvm.Cond.methodLink "java/lang/Exception" (1 : Nat) ({ cls := "java/lang/Throwable", name := "<init>", desc := "()V" } : Jvm.MethodName)) ∈ gw := gw_of 530 (by decide +kernel) (by decide +kernel)
theorem m532 : (Jvm.Cond.fieldLink "java/lang/Throwable" (7 : Nat) "java/lang/Throwable" "cause" "Ljava/lang/Throwable;") ∈ gw := gw_of 532 (by decide +kernel) (by decide +kernel)
theorem m533 : (Jvm.Cond.fieldLink "java/lang/Throwable" (17 : Nat) "java/lang/Throwable" "stackTrace" "[Ljava/lang/StackTraceElement;") ∈ gw := gw_of 533 (by decide +kernel) (by decide +kernel)
theorem m534 : (Jvm.Cond.fieldLink "java/lang/Throwable" (24 : Nat) "java/lang/Throwable" "suppressedExceptions" "Ljava/util/List;") ∈ gw := gw_of 534 (by decide +kernel) (by decide +kernel)
theorem m543 : (Jvm.Cond.methodLink "NumberLeases" (44 : Nat) ({ cls := "NumberLeases", name := "needRange", desc := "(III)V" } : Jvm.MethodName)) ∈ gw := gw_of 543 (by decide +kernel) (by decide +kernel)
theorem m544 : (Jvm.Cond.static ({ cls := "NumberLeases", name := "needRange", desc := "(III)V" } : Jvm.MethodName)) ∈ gw := gw_of 544 (by decide +kernel) (by decide +kernel)
theorem m545 : (Jvm.Cond.code ({ cls := "NumberLeases", name := "needRange", desc := "(III)V" } : Jvm.MethodName) prog_1_method_30_code (3 : Nat) (Option.none : Option Jvm.ClassFile.FieldType)) ∈ gw := gw_of 545 (by decide +kernel) (by decide +kernel)
theorem m546 : (Jvm.Cond.classLink "NumberLeases" (121 : Nat) "java/lang/IllegalArgumentException") ∈ gw := gw_of 546 (by decide +kernel) (by decide +kernel)
theorem m547 : (Jvm.Cond.instantiable "java/lang/IllegalArgumentException" (6 : Nat)) ∈ gw := gw_of 547 (by decide +kernel) (by decide +kernel)
theorem m549 : (Jvm.Cond.selects "java/lang/IllegalArgumentException" ({ cls := "java/lang/Throwable", name := "fillInStackTrace", desc := "(I)Ljava/lang/Throwable;" } : Jvm.MethodName) ({ cls := "java/lang/Throwable", name := "fillInStackTrace", desc := "(I)Ljava/lang/Throwable;" } : Jvm.MethodName)) ∈ gw := gw_of 549 (by decide +kernel) (by decide +kernel)
theorem m555 : (Jvm.Cond.methodLink "NumberLeases" (123 : Nat) ({ cls := "java/lang/IllegalArgumentException", name := "<init>", desc := "()V" } : Jvm.MethodName)) ∈ gw := gw_of 555 (by decide +kernel) (by decide +kernel)
theorem m556 : (Jvm.Cond.instanceMethod ({ cls := "java/lang/IllegalArgumentException", name := "<init>", desc := "()V" } : Jvm.MethodName)) ∈ gw := gw_of 556 (by decide +kernel) (by decide +kernel)
theorem m557 : (Jvm.Cond.code ({ cls := "java/lang/IllegalArgumentException", name := "<init>", desc := "()V" } : Jvm.MethodName) prog_11_method_1_code (1 : Nat) (Option.none : Option Jvm.ClassFile.FieldType)) ∈ gw := gw_of 557 (by decide +kernel) (by decide +kernel)
theorem m558 : (Jvm.Cond.methodLink "java/lang/IllegalArgumentException" (1 : Nat) ({ cls := "java/lang/RuntimeException", name := "<init>", desc := "()V" } : Jvm.MethodName)) ∈ gw := gw_of 558 (by decide +kernel) (by decide +kernel)
theorem m561 : (Jvm.Cond.methodLink "NumberLeases" (203 : Nat) ({ cls := "NumberLeases$Pool", name := "mayLease", desc := "(II)Z" } : Jvm.MethodName)) ∈ gw := gw_of 561 (by decide +kernel) (by decide +kernel)
theorem m562 : (Jvm.Cond.instanceMethod ({ cls := "NumberLeases$Pool", name := "mayLease", desc := "(II)Z" } : Jvm.MethodName)) ∈ gw := gw_of 562 (by decide +kernel) (by decide +kernel)
theorem m563 : (Jvm.Cond.selects "NumberLeases$Pool" ({ cls := "NumberLeases$Pool", name := "mayLease", desc := "(II)Z" } : Jvm.MethodName) ({ cls := "NumberLeases$Pool", name := "mayLease", desc := "(II)Z" } : Jvm.MethodName)) ∈ gw := gw_of 563 (by decide +kernel) (by decide +kernel)
theorem m564 : (Jvm.Cond.code ({ cls := "NumberLeases$Pool", name := "mayLease", desc := "(II)Z" } : Jvm.MethodName) prog_4_method_5_code (3 : Nat) (Option.some Jvm.ClassFile.FieldType.boolean)) ∈ gw := gw_of 564 (by decide +kernel) (by decide +kernel)
theorem m565 : (Jvm.Cond.methodLink "NumberLeases$Pool" (81 : Nat) ({ cls := "NumberLeases$Pool", name := "lowestRow", desc := "(I)I" } : Jvm.MethodName)) ∈ gw := gw_of 565 (by decide +kernel) (by decide +kernel)
theorem m567 : (Jvm.Cond.instanceMethod ({ cls := "NumberLeases$Pool", name := "lowestRow", desc := "(I)I" } : Jvm.MethodName)) ∈ gw := gw_of 567 (by decide +kernel) (by decide +kernel)
theorem m568 : (Jvm.Cond.code ({ cls := "NumberLeases$Pool", name := "lowestRow", desc := "(I)I" } : Jvm.MethodName) prog_4_method_36_code (3 : Nat) (Option.some Jvm.ClassFile.FieldType.int)) ∈ gw := gw_of 568 (by decide +kernel) (by decide +kernel)
theorem m569 : (Jvm.Cond.methodLink "NumberLeases" (52 : Nat) ({ cls := "NumberLeases", name := "needState", desc := "(Z)V" } : Jvm.MethodName)) ∈ gw := gw_of 569 (by decide +kernel) (by decide +kernel)
theorem m570 : (Jvm.Cond.static ({ cls := "NumberLeases", name := "needState", desc := "(Z)V" } : Jvm.MethodName)) ∈ gw := gw_of 570 (by decide +kernel) (by decide +kernel)
theorem m571 : (Jvm.Cond.code ({ cls := "NumberLeases", name := "needState", desc := "(Z)V" } : Jvm.MethodName) prog_1_method_31_code (1 : Nat) (Option.none : Option Jvm.ClassFile.FieldType)) ∈ gw := gw_of 571 (by decide +kernel) (by decide +kernel)
theorem m572 : (Jvm.Cond.classLink "NumberLeases" (200 : Nat) "java/lang/IllegalStateException") ∈ gw := gw_of 572 (by decide +kernel) (by decide +kernel)
theorem m573 : (Jvm.Cond.instantiable "java/lang/IllegalStateException" (6 : Nat)) ∈ gw := gw_of 573 (by decide +kernel) (by decide +kernel)
theorem m575 : (Jvm.Cond.selects "java/lang/IllegalStateException" ({ cls := "java/lang/Throwable", name := "fillInStackTrace", desc := "(I)Ljava/lang/Throwable;" } : Jvm.MethodName) ({ cls := "java/lang/Throwable", name := "fillInStackTrace", desc := "(I)Ljava/lang/Throwable;" } : Jvm.MethodName)) ∈ gw := gw_of 575 (by decide +kernel) (by decide +kernel)
theorem m581 : (Jvm.Cond.methodLink "NumberLeases" (202 : Nat) ({ cls := "java/lang/IllegalStateException", name := "<init>", desc := "()V" } : Jvm.MethodName)) ∈ gw := gw_of 581 (by decide +kernel) (by decide +kernel)
theorem m582 : (Jvm.Cond.instanceMethod ({ cls := "java/lang/IllegalStateException", name := "<init>", desc := "()V" } : Jvm.MethodName)) ∈ gw := gw_of 582 (by decide +kernel) (by decide +kernel)
theorem m583 : (Jvm.Cond.code ({ cls := "java/lang/IllegalStateException", name := "<init>", desc := "()V" } : Jvm.MethodName) prog_12_method_1_code (1 : Nat) (Option.none : Option Jvm.ClassFile.FieldType)) ∈ gw := gw_of 583 (by decide +kernel) (by decide +kernel)
theorem m584 : (Jvm.Cond.methodLink "java/lang/IllegalStateException" (1 : Nat) ({ cls := "java/lang/RuntimeException", name := "<init>", desc := "()V" } : Jvm.MethodName)) ∈ gw := gw_of 584 (by decide +kernel) (by decide +kernel)
theorem m587 : (Jvm.Cond.methodLink "NumberLeases" (56 : Nat) ({ cls := "NumberLeases$Saves", name := "keep", desc := "(LNumberLeases$Pool;)V" } : Jvm.MethodName)) ∈ gw := gw_of 587 (by decide +kernel) (by decide +kernel)
theorem m588 : (Jvm.Cond.instanceMethod ({ cls := "NumberLeases$Saves", name := "keep", desc := "(LNumberLeases$Pool;)V" } : Jvm.MethodName)) ∈ gw := gw_of 588 (by decide +kernel) (by decide +kernel)
theorem m589 : (Jvm.Cond.selects "NumberLeases$Saves" ({ cls := "NumberLeases$Saves", name := "keep", desc := "(LNumberLeases$Pool;)V" } : Jvm.MethodName) ({ cls := "NumberLeases$Saves", name := "keep", desc := "(LNumberLeases$Pool;)V" } : Jvm.MethodName)) ∈ gw := gw_of 589 (by decide +kernel) (by decide +kernel)
theorem m590 : (Jvm.Cond.code ({ cls := "NumberLeases$Saves", name := "keep", desc := "(LNumberLeases$Pool;)V" } : Jvm.MethodName) prog_5_method_2_code (3 : Nat) (Option.none : Option Jvm.ClassFile.FieldType)) ∈ gw := gw_of 590 (by decide +kernel) (by decide +kernel)
theorem m591 : (Jvm.Cond.methodLink "NumberLeases$Saves" (22 : Nat) ({ cls := "NumberLeases$Saves", name := "dropOldest", desc := "()V" } : Jvm.MethodName)) ∈ gw := gw_of 591 (by decide +kernel) (by decide +kernel)
theorem m593 : (Jvm.Cond.instanceMethod ({ cls := "NumberLeases$Saves", name := "dropOldest", desc := "()V" } : Jvm.MethodName)) ∈ gw := gw_of 593 (by decide +kernel) (by decide +kernel)
theorem m594 : (Jvm.Cond.code ({ cls := "NumberLeases$Saves", name := "dropOldest", desc := "()V" } : Jvm.MethodName) prog_5_method_4_code (3 : Nat) (Option.none : Option Jvm.ClassFile.FieldType)) ∈ gw := gw_of 594 (by decide +kernel) (by decide +kernel)
theorem m595 : (Jvm.Cond.methodLink "NumberLeases$Saves" (25 : Nat) ({ cls := "NumberLeases$Pool", name := "copyFrom", desc := "(LNumberLeases$Pool;)V" } : Jvm.MethodName)) ∈ gw := gw_of 595 (by decide +kernel) (by decide +kernel)
theorem m596 : (Jvm.Cond.methodLink "NumberLeases" (206 : Nat) ({ cls := "NumberLeases$Pool", name := "leaseRow", desc := "(III)I" } : Jvm.MethodName)) ∈ gw := gw_of 596 (by decide +kernel) (by decide +kernel)
theorem m597 : (Jvm.Cond.instanceMethod ({ cls := "NumberLeases$Pool", name := "leaseRow", desc := "(III)I" } : Jvm.MethodName)) ∈ gw := gw_of 597 (by decide +kernel) (by decide +kernel)
theorem m598 : (Jvm.Cond.selects "NumberLeases$Pool" ({ cls := "NumberLeases$Pool", name := "leaseRow", desc := "(III)I" } : Jvm.MethodName) ({ cls := "NumberLeases$Pool", name := "leaseRow", desc := "(III)I" } : Jvm.MethodName)) ∈ gw := gw_of 598 (by decide +kernel) (by decide +kernel)
theorem m599 : (Jvm.Cond.code ({ cls := "NumberLeases$Pool", name := "leaseRow", desc := "(III)I" } : Jvm.MethodName) prog_4_method_11_code (6 : Nat) (Option.some Jvm.ClassFile.FieldType.int)) ∈ gw := gw_of 599 (by decide +kernel) (by decide +kernel)
theorem m600 : (Jvm.Cond.methodLink "NumberLeasesLaw" (89 : Nat) ({ cls := "NumberLeasesLaw", name := "takeSpan", desc := "(LNumberLeases;III[J)I" } : Jvm.MethodName)) ∈ gw := gw_of 600 (by decide +kernel) (by decide +kernel)
theorem m601 : (Jvm.Cond.static ({ cls := "NumberLeasesLaw", name := "takeSpan", desc := "(LNumberLeases;III[J)I" } : Jvm.MethodName)) ∈ gw := gw_of 601 (by decide +kernel) (by decide +kernel)
theorem m602 : (Jvm.Cond.codeWith ({ cls := "NumberLeasesLaw", name := "takeSpan", desc := "(LNumberLeases;III[J)I" } : Jvm.MethodName) method_4_code (6 : Nat) (Option.some Jvm.ClassFile.FieldType.int) [((0 : Nat), (12 : Nat), (15 : Nat), (13 : Nat)), ((0 : Nat), (12 : Nat), (19 : Nat), (15 : Nat)), ((0 : Nat), (12 : Nat), (23 : Nat), (17 : Nat))]) ∈ gw := gw_of 602 (by decide +kernel) (by decide +kernel)
theorem m603 : (Jvm.Cond.methodLink "NumberLeasesLaw" (19 : Nat) ({ cls := "NumberLeases", name := "takeSpan", desc := "(III)I" } : Jvm.MethodName)) ∈ gw := gw_of 603 (by decide +kernel) (by decide +kernel)
theorem m604 : (Jvm.Cond.instanceMethod ({ cls := "NumberLeases", name := "takeSpan", desc := "(III)I" } : Jvm.MethodName)) ∈ gw := gw_of 604 (by decide +kernel) (by decide +kernel)
theorem m605 : (Jvm.Cond.selects "NumberLeases" ({ cls := "NumberLeases", name := "takeSpan", desc := "(III)I" } : Jvm.MethodName) ({ cls := "NumberLeases", name := "takeSpan", desc := "(III)I" } : Jvm.MethodName)) ∈ gw := gw_of 605 (by decide +kernel) (by decide +kernel)
theorem m606 : (Jvm.Cond.code ({ cls := "NumberLeases", name := "takeSpan", desc := "(III)I" } : Jvm.MethodName) prog_1_method_3_code (4 : Nat) (Option.some Jvm.ClassFile.FieldType.int)) ∈ gw := gw_of 606 (by decide +kernel) (by decide +kernel)
theorem m607 : (Jvm.Cond.methodLink "NumberLeasesLaw" (93 : Nat) ({ cls := "NumberLeasesLaw", name := "wish", desc := "(LNumberLeases;III[J)I" } : Jvm.MethodName)) ∈ gw := gw_of 607 (by decide +kernel) (by decide +kernel)
theorem m608 : (Jvm.Cond.static ({ cls := "NumberLeasesLaw", name := "wish", desc := "(LNumberLeases;III[J)I" } : Jvm.MethodName)) ∈ gw := gw_of 608 (by decide +kernel) (by decide +kernel)
theorem m609 : (Jvm.Cond.codeWith ({ cls := "NumberLeasesLaw", name := "wish", desc := "(LNumberLeases;III[J)I" } : Jvm.MethodName) method_5_code (6 : Nat) (Option.some Jvm.ClassFile.FieldType.int) [((0 : Nat), (12 : Nat), (15 : Nat), (13 : Nat)), ((0 : Nat), (12 : Nat), (19 : Nat), (15 : Nat)), ((0 : Nat), (12 : Nat), (23 : Nat), (17 : Nat))]) ∈ gw := gw_of 609 (by decide +kernel) (by decide +kernel)
theorem m610 : (Jvm.Cond.methodLink "NumberLeasesLaw" (23 : Nat) ({ cls := "NumberLeases", name := "wish", desc := "(III)I" } : Jvm.MethodName)) ∈ gw := gw_of 610 (by decide +kernel) (by decide +kernel)
theorem m611 : (Jvm.Cond.instanceMethod ({ cls := "NumberLeases", name := "wish", desc := "(III)I" } : Jvm.MethodName)) ∈ gw := gw_of 611 (by decide +kernel) (by decide +kernel)
theorem m612 : (Jvm.Cond.selects "NumberLeases" ({ cls := "NumberLeases", name := "wish", desc := "(III)I" } : Jvm.MethodName) ({ cls := "NumberLeases", name := "wish", desc := "(III)I" } : Jvm.MethodName)) ∈ gw := gw_of 612 (by decide +kernel) (by decide +kernel)
theorem m613 : (Jvm.Cond.code ({ cls := "NumberLeases", name := "wish", desc := "(III)I" } : Jvm.MethodName) prog_1_method_4_code (4 : Nat) (Option.some Jvm.ClassFile.FieldType.int)) ∈ gw := gw_of 613 (by decide +kernel) (by decide +kernel)
theorem m614 : (Jvm.Cond.methodLink "NumberLeases" (41 : Nat) ({ cls := "NumberLeases", name := "needNumber", desc := "(I)V" } : Jvm.MethodName)) ∈ gw := gw_of 614 (by decide +kernel) (by decide +kernel)
theorem m616 : (Jvm.Cond.instanceMethod ({ cls := "NumberLeases", name := "needNumber", desc := "(I)V" } : Jvm.MethodName)) ∈ gw := gw_of 616 (by decide +kernel) (by decide +kernel)
theorem m617 : (Jvm.Cond.code ({ cls := "NumberLeases", name := "needNumber", desc := "(I)V" } : Jvm.MethodName) prog_1_method_28_code (2 : Nat) (Option.none : Option Jvm.ClassFile.FieldType)) ∈ gw := gw_of 617 (by decide +kernel) (by decide +kernel)
theorem m618 : (Jvm.Cond.methodLink "NumberLeases" (197 : Nat) ({ cls := "NumberLeases$Pool", name := "hasNumber", desc := "(I)Z" } : Jvm.MethodName)) ∈ gw := gw_of 618 (by decide +kernel) (by decide +kernel)
theorem m619 : (Jvm.Cond.instanceMethod ({ cls := "NumberLeases$Pool", name := "hasNumber", desc := "(I)Z" } : Jvm.MethodName)) ∈ gw := gw_of 619 (by decide +kernel) (by decide +kernel)
theorem m620 : (Jvm.Cond.selects "NumberLeases$Pool" ({ cls := "NumberLeases$Pool", name := "hasNumber", desc := "(I)Z" } : Jvm.MethodName) ({ cls := "NumberLeases$Pool", name := "hasNumber", desc := "(I)Z" } : Jvm.MethodName)) ∈ gw := gw_of 620 (by decide +kernel) (by decide +kernel)
theorem m621 : (Jvm.Cond.code ({ cls := "NumberLeases$Pool", name := "hasNumber", desc := "(I)Z" } : Jvm.MethodName) prog_4_method_4_code (2 : Nat) (Option.some Jvm.ClassFile.FieldType.boolean)) ∈ gw := gw_of 621 (by decide +kernel) (by decide +kernel)
theorem m622 : (Jvm.Cond.methodLink "NumberLeasesLaw" (96 : Nat) ({ cls := "NumberLeasesLaw", name := "unwish", desc := "(LNumberLeases;II[J)I" } : Jvm.MethodName)) ∈ gw := gw_of 622 (by decide +kernel) (by decide +kernel)
theorem m623 : (Jvm.Cond.static ({ cls := "NumberLeasesLaw", name := "unwish", desc := "(LNumberLeases;II[J)I" } : Jvm.MethodName)) ∈ gw := gw_of 623 (by decide +kernel) (by decide +kernel)
theorem m624 : (Jvm.Cond.codeWith ({ cls := "NumberLeasesLaw", name := "unwish", desc := "(LNumberLeases;II[J)I" } : Jvm.MethodName) method_6_code (5 : Nat) (Option.some Jvm.ClassFile.FieldType.int) [((0 : Nat), (10 : Nat), (13 : Nat), (13 : Nat)), ((0 : Nat), (10 : Nat), (17 : Nat), (17 : Nat))]) ∈ gw := gw_of 624 (by decide +kernel) (by decide +kernel)
theorem m625 : (Jvm.Cond.methodLink "NumberLeasesLaw" (26 : Nat) ({ cls := "NumberLeases", name := "unwish", desc := "(II)I" } : Jvm.MethodName)) ∈ gw := gw_of 625 (by decide +kernel) (by decide +kernel)
theorem m626 : (Jvm.Cond.instanceMethod ({ cls := "NumberLeases", name := "unwish", desc := "(II)I" } : Jvm.MethodName)) ∈ gw := gw_of 626 (by decide +kernel) (by decide +kernel)
theorem m627 : (Jvm.Cond.selects "NumberLeases" ({ cls := "NumberLeases", name := "unwish", desc := "(II)I" } : Jvm.MethodName) ({ cls := "NumberLeases", name := "unwish", desc := "(II)I" } : Jvm.MethodName)) ∈ gw := gw_of 627 (by decide +kernel) (by decide +kernel)
theorem m628 : (Jvm.Cond.code ({ cls := "NumberLeases", name := "unwish", desc := "(II)I" } : Jvm.MethodName) prog_1_method_5_code (4 : Nat) (Option.some Jvm.ClassFile.FieldType.int)) ∈ gw := gw_of 628 (by decide +kernel) (by decide +kernel)
theorem m629 : (Jvm.Cond.methodLink "NumberLeases" (63 : Nat) ({ cls := "NumberLeases$Pool", name := "placeOfWish", desc := "(II)I" } : Jvm.MethodName)) ∈ gw := gw_of 629 (by decide +kernel) (by decide +kernel)
theorem m630 : (Jvm.Cond.methodLink "NumberLeases" (67 : Nat) ({ cls := "NumberLeases$Pool", name := "dropWish", desc := "(II)V" } : Jvm.MethodName)) ∈ gw := gw_of 630 (by decide +kernel) (by decide +kernel)
theorem m631 : (Jvm.Cond.methodLink "NumberLeasesLaw" (99 : Nat) ({ cls := "NumberLeasesLaw", name := "renew", desc := "(LNumberLeases;III[J)I" } : Jvm.MethodName)) ∈ gw := gw_of 631 (by decide +kernel) (by decide +kernel)
theorem m632 : (Jvm.Cond.static ({ cls := "NumberLeasesLaw", name := "renew", desc := "(LNumberLeases;III[J)I" } : Jvm.MethodName)) ∈ gw := gw_of 632 (by decide +kernel) (by decide +kernel)
theorem m633 : (Jvm.Cond.codeWith ({ cls := "NumberLeasesLaw", name := "renew", desc := "(LNumberLeases;III[J)I" } : Jvm.MethodName) method_7_code (6 : Nat) (Option.some Jvm.ClassFile.FieldType.int) [((0 : Nat), (12 : Nat), (15 : Nat), (13 : Nat)), ((0 : Nat), (12 : Nat), (19 : Nat), (15 : Nat)), ((0 : Nat), (12 : Nat), (23 : Nat), (17 : Nat))]) ∈ gw := gw_of 633 (by decide +kernel) (by decide +kernel)
theorem m634 : (Jvm.Cond.methodLink "NumberLeasesLaw" (29 : Nat) ({ cls := "NumberLeases", name := "renew", desc := "(III)I" } : Jvm.MethodName)) ∈ gw := gw_of 634 (by decide +kernel) (by decide +kernel)
theorem m635 : (Jvm.Cond.instanceMethod ({ cls := "NumberLeases", name := "renew", desc := "(III)I" } : Jvm.MethodName)) ∈ gw := gw_of 635 (by decide +kernel) (by decide +kernel)
theorem m636 : (Jvm.Cond.selects "NumberLeases" ({ cls := "NumberLeases", name := "renew", desc := "(III)I" } : Jvm.MethodName) ({ cls := "NumberLeases", name := "renew", desc := "(III)I" } : Jvm.MethodName)) ∈ gw := gw_of 636 (by decide +kernel) (by decide +kernel)
theorem m637 : (Jvm.Cond.code ({ cls := "NumberLeases", name := "renew", desc := "(III)I" } : Jvm.MethodName) prog_1_method_6_code (4 : Nat) (Option.some Jvm.ClassFile.FieldType.int)) ∈ gw := gw_of 637 (by decide +kernel) (by decide +kernel)
theorem m638 : (Jvm.Cond.methodLink "NumberLeases" (75 : Nat) ({ cls := "NumberLeases$Pool", name := "mayRenew", desc := "(II)Z" } : Jvm.MethodName)) ∈ gw := gw_of 638 (by decide +kernel) (by decide +kernel)
theorem m639 : (Jvm.Cond.instanceMethod ({ cls := "NumberLeases$Pool", name := "mayRenew", desc := "(II)Z" } : Jvm.MethodName)) ∈ gw := gw_of 639 (by decide +kernel) (by decide +kernel)
theorem m640 : (Jvm.Cond.selects "NumberLeases$Pool" ({ cls := "NumberLeases$Pool", name := "mayRenew", desc := "(II)Z" } : Jvm.MethodName) ({ cls := "NumberLeases$Pool", name := "mayRenew", desc := "(II)Z" } : Jvm.MethodName)) ∈ gw := gw_of 640 (by decide +kernel) (by decide +kernel)
theorem m641 : (Jvm.Cond.code ({ cls := "NumberLeases$Pool", name := "mayRenew", desc := "(II)Z" } : Jvm.MethodName) prog_4_method_7_code (3 : Nat) (Option.some Jvm.ClassFile.FieldType.boolean)) ∈ gw := gw_of 641 (by decide +kernel) (by decide +kernel)
theorem m642 : (Jvm.Cond.methodLink "NumberLeases" (78 : Nat) ({ cls := "NumberLeases$Pool", name := "prolong", desc := "(II)I" } : Jvm.MethodName)) ∈ gw := gw_of 642 (by decide +kernel) (by decide +kernel)
theorem m643 : (Jvm.Cond.instanceMethod ({ cls := "NumberLeases$Pool", name := "prolong", desc := "(II)I" } : Jvm.MethodName)) ∈ gw := gw_of 643 (by decide +kernel) (by decide +kernel)
theorem m644 : (Jvm.Cond.selects "NumberLeases$Pool" ({ cls := "NumberLeases$Pool", name := "prolong", desc := "(II)I" } : Jvm.MethodName) ({ cls := "NumberLeases$Pool", name := "prolong", desc := "(II)I" } : Jvm.MethodName)) ∈ gw := gw_of 644 (by decide +kernel) (by decide +kernel)
theorem m645 : (Jvm.Cond.code ({ cls := "NumberLeases$Pool", name := "prolong", desc := "(II)I" } : Jvm.MethodName) prog_4_method_13_code (4 : Nat) (Option.some Jvm.ClassFile.FieldType.int)) ∈ gw := gw_of 645 (by decide +kernel) (by decide +kernel)
theorem m646 : (Jvm.Cond.methodLink "NumberLeasesLaw" (102 : Nat) ({ cls := "NumberLeasesLaw", name := "giveBack", desc := "(LNumberLeases;III[J)I" } : Jvm.MethodName)) ∈ gw := gw_of 646 (by decide +kernel) (by decide +kernel)
theorem m647 : (Jvm.Cond.static ({ cls := "NumberLeasesLaw", name := "giveBack", desc := "(LNumberLeases;III[J)I" } : Jvm.MethodName)) ∈ gw := gw_of 647 (by decide +kernel) (by decide +kernel)
theorem m648 : (Jvm.Cond.codeWith ({ cls := "NumberLeasesLaw", name := "giveBack", desc := "(LNumberLeases;III[J)I" } : Jvm.MethodName) method_8_code (6 : Nat) (Option.some Jvm.ClassFile.FieldType.int) [((0 : Nat), (12 : Nat), (15 : Nat), (13 : Nat)), ((0 : Nat), (12 : Nat), (19 : Nat), (15 : Nat))]) ∈ gw := gw_of 648 (by decide +kernel) (by decide +kernel)
theorem m649 : (Jvm.Cond.methodLink "NumberLeasesLaw" (32 : Nat) ({ cls := "NumberLeases", name := "giveBack", desc := "(III)I" } : Jvm.MethodName)) ∈ gw := gw_of 649 (by decide +kernel) (by decide +kernel)
theorem m650 : (Jvm.Cond.instanceMethod ({ cls := "NumberLeases", name := "giveBack", desc := "(III)I" } : Jvm.MethodName)) ∈ gw := gw_of 650 (by decide +kernel) (by decide +kernel)
theorem m651 : (Jvm.Cond.selects "NumberLeases" ({ cls := "NumberLeases", name := "giveBack", desc := "(III)I" } : Jvm.MethodName) ({ cls := "NumberLeases", name := "giveBack", desc := "(III)I" } : Jvm.MethodName)) ∈ gw := gw_of 651 (by decide +kernel) (by decide +kernel)
theorem m652 : (Jvm.Cond.code ({ cls := "NumberLeases", name := "giveBack", desc := "(III)I" } : Jvm.MethodName) prog_1_method_7_code (4 : Nat) (Option.some Jvm.ClassFile.FieldType.int)) ∈ gw := gw_of 652 (by decide +kernel) (by decide +kernel)
theorem m653 : (Jvm.Cond.methodLink "NumberLeases" (81 : Nat) ({ cls := "NumberLeases$Pool", name := "freeSpan", desc := "(III)I" } : Jvm.MethodName)) ∈ gw := gw_of 653 (by decide +kernel) (by decide +kernel)
theorem m654 : (Jvm.Cond.instanceMethod ({ cls := "NumberLeases$Pool", name := "freeSpan", desc := "(III)I" } : Jvm.MethodName)) ∈ gw := gw_of 654 (by decide +kernel) (by decide +kernel)
theorem m655 : (Jvm.Cond.selects "NumberLeases$Pool" ({ cls := "NumberLeases$Pool", name := "freeSpan", desc := "(III)I" } : Jvm.MethodName) ({ cls := "NumberLeases$Pool", name := "freeSpan", desc := "(III)I" } : Jvm.MethodName)) ∈ gw := gw_of 655 (by decide +kernel) (by decide +kernel)
theorem m656 : (Jvm.Cond.code ({ cls := "NumberLeases$Pool", name := "freeSpan", desc := "(III)I" } : Jvm.MethodName) prog_4_method_14_code (6 : Nat) (Option.some Jvm.ClassFile.FieldType.int)) ∈ gw := gw_of 656 (by decide +kernel) (by decide +kernel)
theorem m657 : (Jvm.Cond.methodLink "NumberLeasesLaw" (105 : Nat) ({ cls := "NumberLeasesLaw", name := "pass", desc := "(LNumberLeases;I[J)I" } : Jvm.MethodName)) ∈ gw := gw_of 657 (by decide +kernel) (by decide +kernel)
theorem m658 : (Jvm.Cond.static ({ cls := "NumberLeasesLaw", name := "pass", desc := "(LNumberLeases;I[J)I" } : Jvm.MethodName)) ∈ gw := gw_of 658 (by decide +kernel) (by decide +kernel)
theorem m659 : (Jvm.Cond.codeWith ({ cls := "NumberLeasesLaw", name := "pass", desc := "(LNumberLeases;I[J)I" } : Jvm.MethodName) method_9_code (4 : Nat) (Option.some Jvm.ClassFile.FieldType.int) [((0 : Nat), (9 : Nat), (12 : Nat), (15 : Nat)), ((0 : Nat), (9 : Nat), (15 : Nat), (17 : Nat))]) ∈ gw := gw_of 659 (by decide +kernel) (by decide +kernel)
theorem m660 : (Jvm.Cond.methodLink "NumberLeasesLaw" (35 : Nat) ({ cls := "NumberLeases", name := "pass", desc := "(I)I" } : Jvm.MethodName)) ∈ gw := gw_of 660 (by decide +kernel) (by decide +kernel)
theorem m661 : (Jvm.Cond.instanceMethod ({ cls := "NumberLeases", name := "pass", desc := "(I)I" } : Jvm.MethodName)) ∈ gw := gw_of 661 (by decide +kernel) (by decide +kernel)
theorem m662 : (Jvm.Cond.selects "NumberLeases" ({ cls := "NumberLeases", name := "pass", desc := "(I)I" } : Jvm.MethodName) ({ cls := "NumberLeases", name := "pass", desc := "(I)I" } : Jvm.MethodName)) ∈ gw := gw_of 662 (by decide +kernel) (by decide +kernel)
theorem m663 : (Jvm.Cond.code ({ cls := "NumberLeases", name := "pass", desc := "(I)I" } : Jvm.MethodName) prog_1_method_8_code (2 : Nat) (Option.some Jvm.ClassFile.FieldType.int)) ∈ gw := gw_of 663 (by decide +kernel) (by decide +kernel)
theorem m664 : (Jvm.Cond.methodLink "NumberLeases" (84 : Nat) ({ cls := "NumberLeases$Pool", name := "hasTimeFor", desc := "(I)Z" } : Jvm.MethodName)) ∈ gw := gw_of 664 (by decide +kernel) (by decide +kernel)
theorem m665 : (Jvm.Cond.instanceMethod ({ cls := "NumberLeases$Pool", name := "hasTimeFor", desc := "(I)Z" } : Jvm.MethodName)) ∈ gw := gw_of 665 (by decide +kernel) (by decide +kernel)
theorem m666 : (Jvm.Cond.selects "NumberLeases$Pool" ({ cls := "NumberLeases$Pool", name := "hasTimeFor", desc := "(I)Z" } : Jvm.MethodName) ({ cls := "NumberLeases$Pool", name := "hasTimeFor", desc := "(I)Z" } : Jvm.MethodName)) ∈ gw := gw_of 666 (by decide +kernel) (by decide +kernel)
theorem m667 : (Jvm.Cond.code ({ cls := "NumberLeases$Pool", name := "hasTimeFor", desc := "(I)Z" } : Jvm.MethodName) prog_4_method_8_code (2 : Nat) (Option.some Jvm.ClassFile.FieldType.boolean)) ∈ gw := gw_of 667 (by decide +kernel) (by decide +kernel)
theorem m668 : (Jvm.Cond.methodLink "NumberLeases" (88 : Nat) ({ cls := "NumberLeases$Pool", name := "passUnits", desc := "(I)I" } : Jvm.MethodName)) ∈ gw := gw_of 668 (by decide +kernel) (by decide +kernel)
theorem m669 : (Jvm.Cond.instanceMethod ({ cls := "NumberLeases$Pool", name := "passUnits", desc := "(I)I" } : Jvm.MethodName)) ∈ gw := gw_of 669 (by decide +kernel) (by decide +kernel)
theorem m670 : (Jvm.Cond.selects "NumberLeases$Pool" ({ cls := "NumberLeases$Pool", name := "passUnits", desc := "(I)I" } : Jvm.MethodName) ({ cls := "NumberLeases$Pool", name := "passUnits", desc := "(I)I" } : Jvm.MethodName)) ∈ gw := gw_of 670 (by decide +kernel) (by decide +kernel)
theorem m671 : (Jvm.Cond.code ({ cls := "NumberLeases$Pool", name := "passUnits", desc := "(I)I" } : Jvm.MethodName) prog_4_method_19_code (4 : Nat) (Option.some Jvm.ClassFile.FieldType.int)) ∈ gw := gw_of 671 (by decide +kernel) (by decide +kernel)
theorem m672 : (Jvm.Cond.methodLink "NumberLeases$Pool" (106 : Nat) ({ cls := "NumberLeases$Pool", name := "countUnits", desc := "()V" } : Jvm.MethodName)) ∈ gw := gw_of 672 (by decide +kernel) (by decide +kernel)
theorem m674 : (Jvm.Cond.instanceMethod ({ cls := "NumberLeases$Pool", name := "countUnits", desc := "()V" } : Jvm.MethodName)) ∈ gw := gw_of 674 (by decide +kernel) (by decide +kernel)
theorem m675 : (Jvm.Cond.code ({ cls := "NumberLeases$Pool", name := "countUnits", desc := "()V" } : Jvm.MethodName) prog_4_method_21_code (2 : Nat) (Option.none : Option Jvm.ClassFile.FieldType)) ∈ gw := gw_of 675 (by decide +kernel) (by decide +kernel)
theorem m676 : (Jvm.Cond.methodLink "NumberLeasesLaw" (109 : Nat) ({ cls := "NumberLeasesLaw", name := "set", desc := "(LNumberLeases;II[J)I" } : Jvm.MethodName)) ∈ gw := gw_of 676 (by decide +kernel) (by decide +kernel)
theorem m677 : (Jvm.Cond.static ({ cls := "NumberLeasesLaw", name := "set", desc := "(LNumberLeases;II[J)I" } : Jvm.MethodName)) ∈ gw := gw_of 677 (by decide +kernel) (by decide +kernel)
theorem m678 : (Jvm.Cond.codeWith ({ cls := "NumberLeasesLaw", name := "set", desc := "(LNumberLeases;II[J)I" } : Jvm.MethodName) method_10_code (5 : Nat) (Option.some Jvm.ClassFile.FieldType.int) [((0 : Nat), (10 : Nat), (13 : Nat), (13 : Nat)), ((0 : Nat), (10 : Nat), (17 : Nat), (15 : Nat)), ((0 : Nat), (10 : Nat), (21 : Nat), (17 : Nat))]) ∈ gw := gw_of 678 (by decide +kernel) (by decide +kernel)
theorem m679 : (Jvm.Cond.methodLink "NumberLeasesLaw" (39 : Nat) ({ cls := "NumberLeases", name := "set", desc := "(II)I" } : Jvm.MethodName)) ∈ gw := gw_of 679 (by decide +kernel) (by decide +kernel)
theorem m680 : (Jvm.Cond.instanceMethod ({ cls := "NumberLeases", name := "set", desc := "(II)I" } : Jvm.MethodName)) ∈ gw := gw_of 680 (by decide +kernel) (by decide +kernel)
theorem m681 : (Jvm.Cond.selects "NumberLeases" ({ cls := "NumberLeases", name := "set", desc := "(II)I" } : Jvm.MethodName) ({ cls := "NumberLeases", name := "set", desc := "(II)I" } : Jvm.MethodName)) ∈ gw := gw_of 681 (by decide +kernel) (by decide +kernel)
theorem m682 : (Jvm.Cond.code ({ cls := "NumberLeases", name := "set", desc := "(II)I" } : Jvm.MethodName) prog_1_method_9_code (4 : Nat) (Option.some Jvm.ClassFile.FieldType.int)) ∈ gw := gw_of 682 (by decide +kernel) (by decide +kernel)
theorem m683 : (Jvm.Cond.methodLink "NumberLeases" (92 : Nat) ({ cls := "NumberLeases", name := "needSetting", desc := "(I)V" } : Jvm.MethodName)) ∈ gw := gw_of 683 (by decide +kernel) (by decide +kernel)
theorem m684 : (Jvm.Cond.static ({ cls := "NumberLeases", name := "needSetting", desc := "(I)V" } : Jvm.MethodName)) ∈ gw := gw_of 684 (by decide +kernel) (by decide +kernel)
theorem m685 : (Jvm.Cond.code ({ cls := "NumberLeases", name := "needSetting", desc := "(I)V" } : Jvm.MethodName) prog_1_method_29_code (1 : Nat) (Option.none : Option Jvm.ClassFile.FieldType)) ∈ gw := gw_of 685 (by decide +kernel) (by decide +kernel)
theorem m686 : (Jvm.Cond.fieldLink "NumberLeases" (95 : Nat) "NumberLeases" "LEAST_SETTING" "[I") ∈ gw := gw_of 686 (by decide +kernel) (by decide +kernel)
theorem m688 : (Jvm.Cond.fieldLink "NumberLeases" (98 : Nat) "NumberLeases" "MOST_SETTING" "[I") ∈ gw := gw_of 688 (by decide +kernel) (by decide +kernel)
theorem m690 : (Jvm.Cond.methodLink "NumberLeases" (101 : Nat) ({ cls := "NumberLeases$Pool", name := "fitsIn", desc := "(I)Z" } : Jvm.MethodName)) ∈ gw := gw_of 690 (by decide +kernel) (by decide +kernel)
theorem m691 : (Jvm.Cond.instanceMethod ({ cls := "NumberLeases$Pool", name := "fitsIn", desc := "(I)Z" } : Jvm.MethodName)) ∈ gw := gw_of 691 (by decide +kernel) (by decide +kernel)
theorem m692 : (Jvm.Cond.selects "NumberLeases$Pool" ({ cls := "NumberLeases$Pool", name := "fitsIn", desc := "(I)Z" } : Jvm.MethodName) ({ cls := "NumberLeases$Pool", name := "fitsIn", desc := "(I)Z" } : Jvm.MethodName)) ∈ gw := gw_of 692 (by decide +kernel) (by decide +kernel)
theorem m693 : (Jvm.Cond.code ({ cls := "NumberLeases$Pool", name := "fitsIn", desc := "(I)Z" } : Jvm.MethodName) prog_4_method_9_code (3 : Nat) (Option.some Jvm.ClassFile.FieldType.boolean)) ∈ gw := gw_of 693 (by decide +kernel) (by decide +kernel)
theorem m694 : (Jvm.Cond.methodLink "NumberLeasesLaw" (112 : Nat) ({ cls := "NumberLeasesLaw", name := "append", desc := "(LNumberLeases;I[J)I" } : Jvm.MethodName)) ∈ gw := gw_of 694 (by decide +kernel) (by decide +kernel)
theorem m695 : (Jvm.Cond.static ({ cls := "NumberLeasesLaw", name := "append", desc := "(LNumberLeases;I[J)I" } : Jvm.MethodName)) ∈ gw := gw_of 695 (by decide +kernel) (by decide +kernel)
theorem m696 : (Jvm.Cond.codeWith ({ cls := "NumberLeasesLaw", name := "append", desc := "(LNumberLeases;I[J)I" } : Jvm.MethodName) method_11_code (4 : Nat) (Option.some Jvm.ClassFile.FieldType.int) [((0 : Nat), (9 : Nat), (12 : Nat), (15 : Nat)), ((0 : Nat), (9 : Nat), (15 : Nat), (17 : Nat))]) ∈ gw := gw_of 696 (by decide +kernel) (by decide +kernel)
theorem m697 : (Jvm.Cond.methodLink "NumberLeasesLaw" (42 : Nat) ({ cls := "NumberLeases", name := "append", desc := "(I)I" } : Jvm.MethodName)) ∈ gw := gw_of 697 (by decide +kernel) (by decide +kernel)
theorem m698 : (Jvm.Cond.instanceMethod ({ cls := "NumberLeases", name := "append", desc := "(I)I" } : Jvm.MethodName)) ∈ gw := gw_of 698 (by decide +kernel) (by decide +kernel)
theorem m699 : (Jvm.Cond.selects "NumberLeases" ({ cls := "NumberLeases", name := "append", desc := "(I)I" } : Jvm.MethodName) ({ cls := "NumberLeases", name := "append", desc := "(I)I" } : Jvm.MethodName)) ∈ gw := gw_of 699 (by decide +kernel) (by decide +kernel)
theorem m700 : (Jvm.Cond.code ({ cls := "NumberLeases", name := "append", desc := "(I)I" } : Jvm.MethodName) prog_1_method_10_code (2 : Nat) (Option.some Jvm.ClassFile.FieldType.int)) ∈ gw := gw_of 700 (by decide +kernel) (by decide +kernel)
theorem m701 : (Jvm.Cond.methodLink "NumberLeases" (111 : Nat) ({ cls := "NumberLeases$Orders", name := "addSign", desc := "(I)V" } : Jvm.MethodName)) ∈ gw := gw_of 701 (by decide +kernel) (by decide +kernel)
theorem m702 : (Jvm.Cond.instanceMethod ({ cls := "NumberLeases$Orders", name := "addSign", desc := "(I)V" } : Jvm.MethodName)) ∈ gw := gw_of 702 (by decide +kernel) (by decide +kernel)
theorem m703 : (Jvm.Cond.selects "NumberLeases$Orders" ({ cls := "NumberLeases$Orders", name := "addSign", desc := "(I)V" } : Jvm.MethodName) ({ cls := "NumberLeases$Orders", name := "addSign", desc := "(I)V" } : Jvm.MethodName)) ∈ gw := gw_of 703 (by decide +kernel) (by decide +kernel)
theorem m704 : (Jvm.Cond.code ({ cls := "NumberLeases$Orders", name := "addSign", desc := "(I)V" } : Jvm.MethodName) prog_3_method_2_code (2 : Nat) (Option.none : Option Jvm.ClassFile.FieldType)) ∈ gw := gw_of 704 (by decide +kernel) (by decide +kernel)
theorem m705 : (Jvm.Cond.methodLink "NumberLeasesLaw" (123 : Nat) ({ cls := "NumberLeasesLaw", name := "run", desc := "(LNumberLeases;[J)I" } : Jvm.MethodName)) ∈ gw := gw_of 705 (by decide +kernel) (by decide +kernel)
theorem m706 : (Jvm.Cond.static ({ cls := "NumberLeasesLaw", name := "run", desc := "(LNumberLeases;[J)I" } : Jvm.MethodName)) ∈ gw := gw_of 706 (by decide +kernel) (by decide +kernel)
theorem m707 : (Jvm.Cond.codeWith ({ cls := "NumberLeasesLaw", name := "run", desc := "(LNumberLeases;[J)I" } : Jvm.MethodName) method_12_code (3 : Nat) (Option.some Jvm.ClassFile.FieldType.int) [((0 : Nat), (8 : Nat), (11 : Nat), (15 : Nat))]) ∈ gw := gw_of 707 (by decide +kernel) (by decide +kernel)
theorem m708 : (Jvm.Cond.methodLink "NumberLeasesLaw" (45 : Nat) ({ cls := "NumberLeases", name := "run", desc := "()I" } : Jvm.MethodName)) ∈ gw := gw_of 708 (by decide +kernel) (by decide +kernel)
theorem m709 : (Jvm.Cond.instanceMethod ({ cls := "NumberLeases", name := "run", desc := "()I" } : Jvm.MethodName)) ∈ gw := gw_of 709 (by decide +kernel) (by decide +kernel)
theorem m710 : (Jvm.Cond.selects "NumberLeases" ({ cls := "NumberLeases", name := "run", desc := "()I" } : Jvm.MethodName) ({ cls := "NumberLeases", name := "run", desc := "()I" } : Jvm.MethodName)) ∈ gw := gw_of 710 (by decide +kernel) (by decide +kernel)
theorem m711 : (Jvm.Cond.code ({ cls := "NumberLeases", name := "run", desc := "()I" } : Jvm.MethodName) prog_1_method_13_code (4 : Nat) (Option.some Jvm.ClassFile.FieldType.int)) ∈ gw := gw_of 711 (by decide +kernel) (by decide +kernel)
theorem m712 : (Jvm.Cond.methodLink "NumberLeases" (124 : Nat) ({ cls := "NumberLeases$Orders", name := "rewind", desc := "()V" } : Jvm.MethodName)) ∈ gw := gw_of 712 (by decide +kernel) (by decide +kernel)
theorem m713 : (Jvm.Cond.methodLink "NumberLeases" (127 : Nat) ({ cls := "NumberLeases$Orders", name := "readNext", desc := "()V" } : Jvm.MethodName)) ∈ gw := gw_of 713 (by decide +kernel) (by decide +kernel)
theorem m714 : (Jvm.Cond.methodLink "NumberLeases" (130 : Nat) ({ cls := "NumberLeases", name := "carryOut", desc := "()Z" } : Jvm.MethodName)) ∈ gw := gw_of 714 (by decide +kernel) (by decide +kernel)
theorem m716 : (Jvm.Cond.instanceMethod ({ cls := "NumberLeases", name := "carryOut", desc := "()Z" } : Jvm.MethodName)) ∈ gw := gw_of 716 (by decide +kernel) (by decide +kernel)
theorem m717 : (Jvm.Cond.code ({ cls := "NumberLeases", name := "carryOut", desc := "()Z" } : Jvm.MethodName) prog_1_method_33_code (4 : Nat) (Option.some Jvm.ClassFile.FieldType.boolean)) ∈ gw := gw_of 717 (by decide +kernel) (by decide +kernel)
theorem m718 : (Jvm.Cond.methodLink "NumberLeasesLaw" (127 : Nat) ({ cls := "NumberLeasesLaw", name := "undo", desc := "(LNumberLeases;[J)I" } : Jvm.MethodName)) ∈ gw := gw_of 718 (by decide +kernel) (by decide +kernel)
theorem m719 : (Jvm.Cond.static ({ cls := "NumberLeasesLaw", name := "undo", desc := "(LNumberLeases;[J)I" } : Jvm.MethodName)) ∈ gw := gw_of 719 (by decide +kernel) (by decide +kernel)
theorem m720 : (Jvm.Cond.codeWith ({ cls := "NumberLeasesLaw", name := "undo", desc := "(LNumberLeases;[J)I" } : Jvm.MethodName) method_13_code (3 : Nat) (Option.some Jvm.ClassFile.FieldType.int) [((0 : Nat), (8 : Nat), (11 : Nat), (17 : Nat))]) ∈ gw := gw_of 720 (by decide +kernel) (by decide +kernel)
theorem m721 : (Jvm.Cond.methodLink "NumberLeasesLaw" (49 : Nat) ({ cls := "NumberLeases", name := "undo", desc := "()I" } : Jvm.MethodName)) ∈ gw := gw_of 721 (by decide +kernel) (by decide +kernel)
theorem m722 : (Jvm.Cond.instanceMethod ({ cls := "NumberLeases", name := "undo", desc := "()I" } : Jvm.MethodName)) ∈ gw := gw_of 722 (by decide +kernel) (by decide +kernel)
theorem m723 : (Jvm.Cond.selects "NumberLeases" ({ cls := "NumberLeases", name := "undo", desc := "()I" } : Jvm.MethodName) ({ cls := "NumberLeases", name := "undo", desc := "()I" } : Jvm.MethodName)) ∈ gw := gw_of 723 (by decide +kernel) (by decide +kernel)
theorem m724 : (Jvm.Cond.code ({ cls := "NumberLeases", name := "undo", desc := "()I" } : Jvm.MethodName) prog_1_method_14_code (1 : Nat) (Option.some Jvm.ClassFile.FieldType.int)) ∈ gw := gw_of 724 (by decide +kernel) (by decide +kernel)
theorem m725 : (Jvm.Cond.methodLink "NumberLeases" (136 : Nat) ({ cls := "NumberLeases$Saves", name := "restore", desc := "(LNumberLeases$Pool;)V" } : Jvm.MethodName)) ∈ gw := gw_of 725 (by decide +kernel) (by decide +kernel)
theorem m726 : (Jvm.Cond.instanceMethod ({ cls := "NumberLeases$Saves", name := "restore", desc := "(LNumberLeases$Pool;)V" } : Jvm.MethodName)) ∈ gw := gw_of 726 (by decide +kernel) (by decide +kernel)
theorem m727 : (Jvm.Cond.selects "NumberLeases$Saves" ({ cls := "NumberLeases$Saves", name := "restore", desc := "(LNumberLeases$Pool;)V" } : Jvm.MethodName) ({ cls := "NumberLeases$Saves", name := "restore", desc := "(LNumberLeases$Pool;)V" } : Jvm.MethodName)) ∈ gw := gw_of 727 (by decide +kernel) (by decide +kernel)
theorem m728 : (Jvm.Cond.code ({ cls := "NumberLeases$Saves", name := "restore", desc := "(LNumberLeases$Pool;)V" } : Jvm.MethodName) prog_5_method_3_code (3 : Nat) (Option.none : Option Jvm.ClassFile.FieldType)) ∈ gw := gw_of 728 (by decide +kernel) (by decide +kernel)
theorem m729 : (Jvm.Cond.methodLink "NumberLeasesLaw" (130 : Nat) ({ cls := "NumberLeasesLaw", name := "number", desc := "(LNumberLeases;II[J)I" } : Jvm.MethodName)) ∈ gw := gw_of 729 (by decide +kernel) (by decide +kernel)
theorem m730 : (Jvm.Cond.static ({ cls := "NumberLeasesLaw", name := "number", desc := "(LNumberLeases;II[J)I" } : Jvm.MethodName)) ∈ gw := gw_of 730 (by decide +kernel) (by decide +kernel)
theorem m731 : (Jvm.Cond.codeWith ({ cls := "NumberLeasesLaw", name := "number", desc := "(LNumberLeases;II[J)I" } : Jvm.MethodName) method_14_code (5 : Nat) (Option.some Jvm.ClassFile.FieldType.int) [((0 : Nat), (10 : Nat), (13 : Nat), (13 : Nat)), ((0 : Nat), (10 : Nat), (17 : Nat), (15 : Nat))]) ∈ gw := gw_of 731 (by decide +kernel) (by decide +kernel)
theorem m732 : (Jvm.Cond.methodLink "NumberLeasesLaw" (52 : Nat) ({ cls := "NumberLeases", name := "number", desc := "(II)I" } : Jvm.MethodName)) ∈ gw := gw_of 732 (by decide +kernel) (by decide +kernel)
theorem m733 : (Jvm.Cond.instanceMethod ({ cls := "NumberLeases", name := "number", desc := "(II)I" } : Jvm.MethodName)) ∈ gw := gw_of 733 (by decide +kernel) (by decide +kernel)
theorem m734 : (Jvm.Cond.selects "NumberLeases" ({ cls := "NumberLeases", name := "number", desc := "(II)I" } : Jvm.MethodName) ({ cls := "NumberLeases", name := "number", desc := "(II)I" } : Jvm.MethodName)) ∈ gw := gw_of 734 (by decide +kernel) (by decide +kernel)
theorem m735 : (Jvm.Cond.code ({ cls := "NumberLeases", name := "number", desc := "(II)I" } : Jvm.MethodName) prog_1_method_15_code (3 : Nat) (Option.some Jvm.ClassFile.FieldType.int)) ∈ gw := gw_of 735 (by decide +kernel) (by decide +kernel)
theorem m736 : (Jvm.Cond.methodLink "NumberLeasesLaw" (133 : Nat) ({ cls := "NumberLeasesLaw", name := "holder", desc := "(LNumberLeases;II[J)I" } : Jvm.MethodName)) ∈ gw := gw_of 736 (by decide +kernel) (by decide +kernel)
theorem m737 : (Jvm.Cond.static ({ cls := "NumberLeasesLaw", name := "holder", desc := "(LNumberLeases;II[J)I" } : Jvm.MethodName)) ∈ gw := gw_of 737 (by decide +kernel) (by decide +kernel)
theorem m738 : (Jvm.Cond.codeWith ({ cls := "NumberLeasesLaw", name := "holder", desc := "(LNumberLeases;II[J)I" } : Jvm.MethodName) method_15_code (5 : Nat) (Option.some Jvm.ClassFile.FieldType.int) [((0 : Nat), (10 : Nat), (13 : Nat), (13 : Nat)), ((0 : Nat), (10 : Nat), (17 : Nat), (15 : Nat))]) ∈ gw := gw_of 738 (by decide +kernel) (by decide +kernel)
theorem m739 : (Jvm.Cond.methodLink "NumberLeasesLaw" (55 : Nat) ({ cls := "NumberLeases", name := "holder", desc := "(II)I" } : Jvm.MethodName)) ∈ gw := gw_of 739 (by decide +kernel) (by decide +kernel)
theorem m740 : (Jvm.Cond.instanceMethod ({ cls := "NumberLeases", name := "holder", desc := "(II)I" } : Jvm.MethodName)) ∈ gw := gw_of 740 (by decide +kernel) (by decide +kernel)
theorem m741 : (Jvm.Cond.selects "NumberLeases" ({ cls := "NumberLeases", name := "holder", desc := "(II)I" } : Jvm.MethodName) ({ cls := "NumberLeases", name := "holder", desc := "(II)I" } : Jvm.MethodName)) ∈ gw := gw_of 741 (by decide +kernel) (by decide +kernel)
theorem m742 : (Jvm.Cond.code ({ cls := "NumberLeases", name := "holder", desc := "(II)I" } : Jvm.MethodName) prog_1_method_16_code (3 : Nat) (Option.some Jvm.ClassFile.FieldType.int)) ∈ gw := gw_of 742 (by decide +kernel) (by decide +kernel)
theorem m743 : (Jvm.Cond.methodLink "NumberLeasesLaw" (136 : Nat) ({ cls := "NumberLeasesLaw", name := "span", desc := "(LNumberLeases;II[J)I" } : Jvm.MethodName)) ∈ gw := gw_of 743 (by decide +kernel) (by decide +kernel)
theorem m744 : (Jvm.Cond.static ({ cls := "NumberLeasesLaw", name := "span", desc := "(LNumberLeases;II[J)I" } : Jvm.MethodName)) ∈ gw := gw_of 744 (by decide +kernel) (by decide +kernel)
theorem m745 : (Jvm.Cond.codeWith ({ cls := "NumberLeasesLaw", name := "span", desc := "(LNumberLeases;II[J)I" } : Jvm.MethodName) method_16_code (5 : Nat) (Option.some Jvm.ClassFile.FieldType.int) [((0 : Nat), (10 : Nat), (13 : Nat), (15 : Nat))]) ∈ gw := gw_of 745 (by decide +kernel) (by decide +kernel)
theorem m746 : (Jvm.Cond.methodLink "NumberLeasesLaw" (58 : Nat) ({ cls := "NumberLeases", name := "span", desc := "(II)I" } : Jvm.MethodName)) ∈ gw := gw_of 746 (by decide +kernel) (by decide +kernel)
theorem m747 : (Jvm.Cond.instanceMethod ({ cls := "NumberLeases", name := "span", desc := "(II)I" } : Jvm.MethodName)) ∈ gw := gw_of 747 (by decide +kernel) (by decide +kernel)
theorem m748 : (Jvm.Cond.selects "NumberLeases" ({ cls := "NumberLeases", name := "span", desc := "(II)I" } : Jvm.MethodName) ({ cls := "NumberLeases", name := "span", desc := "(II)I" } : Jvm.MethodName)) ∈ gw := gw_of 748 (by decide +kernel) (by decide +kernel)
theorem m749 : (Jvm.Cond.code ({ cls := "NumberLeases", name := "span", desc := "(II)I" } : Jvm.MethodName) prog_1_method_17_code (3 : Nat) (Option.some Jvm.ClassFile.FieldType.int)) ∈ gw := gw_of 749 (by decide +kernel) (by decide +kernel)
theorem m750 : (Jvm.Cond.methodLink "NumberLeasesLaw" (139 : Nat) ({ cls := "NumberLeasesLaw", name := "count", desc := "(LNumberLeases;I[J)I" } : Jvm.MethodName)) ∈ gw := gw_of 750 (by decide +kernel) (by decide +kernel)
theorem m751 : (Jvm.Cond.static ({ cls := "NumberLeasesLaw", name := "count", desc := "(LNumberLeases;I[J)I" } : Jvm.MethodName)) ∈ gw := gw_of 751 (by decide +kernel) (by decide +kernel)
theorem m752 : (Jvm.Cond.codeWith ({ cls := "NumberLeasesLaw", name := "count", desc := "(LNumberLeases;I[J)I" } : Jvm.MethodName) method_17_code (4 : Nat) (Option.some Jvm.ClassFile.FieldType.int) [((0 : Nat), (9 : Nat), (12 : Nat), (15 : Nat))]) ∈ gw := gw_of 752 (by decide +kernel) (by decide +kernel)
theorem m753 : (Jvm.Cond.methodLink "NumberLeasesLaw" (61 : Nat) ({ cls := "NumberLeases", name := "count", desc := "(I)I" } : Jvm.MethodName)) ∈ gw := gw_of 753 (by decide +kernel) (by decide +kernel)
theorem m754 : (Jvm.Cond.instanceMethod ({ cls := "NumberLeases", name := "count", desc := "(I)I" } : Jvm.MethodName)) ∈ gw := gw_of 754 (by decide +kernel) (by decide +kernel)
theorem m755 : (Jvm.Cond.selects "NumberLeases" ({ cls := "NumberLeases", name := "count", desc := "(I)I" } : Jvm.MethodName) ({ cls := "NumberLeases", name := "count", desc := "(I)I" } : Jvm.MethodName)) ∈ gw := gw_of 755 (by decide +kernel) (by decide +kernel)
theorem m756 : (Jvm.Cond.code ({ cls := "NumberLeases", name := "count", desc := "(I)I" } : Jvm.MethodName) prog_1_method_18_code (2 : Nat) (Option.some Jvm.ClassFile.FieldType.int)) ∈ gw := gw_of 756 (by decide +kernel) (by decide +kernel)
theorem m757 : (Jvm.Cond.methodLink "NumberLeasesLaw" (142 : Nat) ({ cls := "NumberLeasesLaw", name := "setting", desc := "(LNumberLeases;I[J)I" } : Jvm.MethodName)) ∈ gw := gw_of 757 (by decide +kernel) (by decide +kernel)
theorem m758 : (Jvm.Cond.static ({ cls := "NumberLeasesLaw", name := "setting", desc := "(LNumberLeases;I[J)I" } : Jvm.MethodName)) ∈ gw := gw_of 758 (by decide +kernel) (by decide +kernel)
theorem m759 : (Jvm.Cond.codeWith ({ cls := "NumberLeasesLaw", name := "setting", desc := "(LNumberLeases;I[J)I" } : Jvm.MethodName) method_18_code (4 : Nat) (Option.some Jvm.ClassFile.FieldType.int) [((0 : Nat), (9 : Nat), (12 : Nat), (13 : Nat))]) ∈ gw := gw_of 759 (by decide +kernel) (by decide +kernel)
theorem m760 : (Jvm.Cond.methodLink "NumberLeasesLaw" (64 : Nat) ({ cls := "NumberLeases", name := "setting", desc := "(I)I" } : Jvm.MethodName)) ∈ gw := gw_of 760 (by decide +kernel) (by decide +kernel)
theorem m761 : (Jvm.Cond.instanceMethod ({ cls := "NumberLeases", name := "setting", desc := "(I)I" } : Jvm.MethodName)) ∈ gw := gw_of 761 (by decide +kernel) (by decide +kernel)
theorem m762 : (Jvm.Cond.selects "NumberLeases" ({ cls := "NumberLeases", name := "setting", desc := "(I)I" } : Jvm.MethodName) ({ cls := "NumberLeases", name := "setting", desc := "(I)I" } : Jvm.MethodName)) ∈ gw := gw_of 762 (by decide +kernel) (by decide +kernel)
theorem m763 : (Jvm.Cond.code ({ cls := "NumberLeases", name := "setting", desc := "(I)I" } : Jvm.MethodName) prog_1_method_19_code (2 : Nat) (Option.some Jvm.ClassFile.FieldType.int)) ∈ gw := gw_of 763 (by decide +kernel) (by decide +kernel)
theorem m764 : (Jvm.Cond.methodLink "NumberLeasesLaw" (145 : Nat) ({ cls := "NumberLeasesLaw", name := "whoAfter", desc := "(LNumberLeases;II[J)I" } : Jvm.MethodName)) ∈ gw := gw_of 764 (by decide +kernel) (by decide +kernel)
theorem m765 : (Jvm.Cond.static ({ cls := "NumberLeasesLaw", name := "whoAfter", desc := "(LNumberLeases;II[J)I" } : Jvm.MethodName)) ∈ gw := gw_of 765 (by decide +kernel) (by decide +kernel)
theorem m766 : (Jvm.Cond.codeWith ({ cls := "NumberLeasesLaw", name := "whoAfter", desc := "(LNumberLeases;II[J)I" } : Jvm.MethodName) method_19_code (5 : Nat) (Option.some Jvm.ClassFile.FieldType.int) [((0 : Nat), (10 : Nat), (13 : Nat), (13 : Nat)), ((0 : Nat), (10 : Nat), (17 : Nat), (15 : Nat))]) ∈ gw := gw_of 766 (by decide +kernel) (by decide +kernel)
theorem m767 : (Jvm.Cond.methodLink "NumberLeasesLaw" (67 : Nat) ({ cls := "NumberLeases", name := "whoAfter", desc := "(II)I" } : Jvm.MethodName)) ∈ gw := gw_of 767 (by decide +kernel) (by decide +kernel)
theorem m768 : (Jvm.Cond.instanceMethod ({ cls := "NumberLeases", name := "whoAfter", desc := "(II)I" } : Jvm.MethodName)) ∈ gw := gw_of 768 (by decide +kernel) (by decide +kernel)
theorem m769 : (Jvm.Cond.selects "NumberLeases" ({ cls := "NumberLeases", name := "whoAfter", desc := "(II)I" } : Jvm.MethodName) ({ cls := "NumberLeases", name := "whoAfter", desc := "(II)I" } : Jvm.MethodName)) ∈ gw := gw_of 769 (by decide +kernel) (by decide +kernel)
theorem m770 : (Jvm.Cond.code ({ cls := "NumberLeases", name := "whoAfter", desc := "(II)I" } : Jvm.MethodName) prog_1_method_20_code (3 : Nat) (Option.some Jvm.ClassFile.FieldType.int)) ∈ gw := gw_of 770 (by decide +kernel) (by decide +kernel)
theorem m771 : (Jvm.Cond.methodLink "NumberLeasesLaw" (148 : Nat) ({ cls := "NumberLeasesLaw", name := "freeIn", desc := "(LNumberLeases;I[J)I" } : Jvm.MethodName)) ∈ gw := gw_of 771 (by decide +kernel) (by decide +kernel)
theorem m772 : (Jvm.Cond.static ({ cls := "NumberLeasesLaw", name := "freeIn", desc := "(LNumberLeases;I[J)I" } : Jvm.MethodName)) ∈ gw := gw_of 772 (by decide +kernel) (by decide +kernel)
theorem m773 : (Jvm.Cond.codeWith ({ cls := "NumberLeasesLaw", name := "freeIn", desc := "(LNumberLeases;I[J)I" } : Jvm.MethodName) method_20_code (4 : Nat) (Option.some Jvm.ClassFile.FieldType.int) [((0 : Nat), (9 : Nat), (12 : Nat), (15 : Nat))]) ∈ gw := gw_of 773 (by decide +kernel) (by decide +kernel)
theorem m774 : (Jvm.Cond.methodLink "NumberLeasesLaw" (70 : Nat) ({ cls := "NumberLeases", name := "freeIn", desc := "(I)I" } : Jvm.MethodName)) ∈ gw := gw_of 774 (by decide +kernel) (by decide +kernel)
theorem m775 : (Jvm.Cond.instanceMethod ({ cls := "NumberLeases", name := "freeIn", desc := "(I)I" } : Jvm.MethodName)) ∈ gw := gw_of 775 (by decide +kernel) (by decide +kernel)
theorem m776 : (Jvm.Cond.selects "NumberLeases" ({ cls := "NumberLeases", name := "freeIn", desc := "(I)I" } : Jvm.MethodName) ({ cls := "NumberLeases", name := "freeIn", desc := "(I)I" } : Jvm.MethodName)) ∈ gw := gw_of 776 (by decide +kernel) (by decide +kernel)
theorem m777 : (Jvm.Cond.code ({ cls := "NumberLeases", name := "freeIn", desc := "(I)I" } : Jvm.MethodName) prog_1_method_21_code (2 : Nat) (Option.some Jvm.ClassFile.FieldType.int)) ∈ gw := gw_of 777 (by decide +kernel) (by decide +kernel)
theorem m778 : (Jvm.Cond.methodLink "NumberLeasesLaw" (151 : Nat) ({ cls := "NumberLeasesLaw", name := "wishedIn", desc := "(LNumberLeases;II[J)I" } : Jvm.MethodName)) ∈ gw := gw_of 778 (by decide +kernel) (by decide +kernel)
theorem m779 : (Jvm.Cond.static ({ cls := "NumberLeasesLaw", name := "wishedIn", desc := "(LNumberLeases;II[J)I" } : Jvm.MethodName)) ∈ gw := gw_of 779 (by decide +kernel) (by decide +kernel)
theorem m780 : (Jvm.Cond.codeWith ({ cls := "NumberLeasesLaw", name := "wishedIn", desc := "(LNumberLeases;II[J)I" } : Jvm.MethodName) method_21_code (5 : Nat) (Option.some Jvm.ClassFile.FieldType.int) [((0 : Nat), (10 : Nat), (13 : Nat), (13 : Nat))]) ∈ gw := gw_of 780 (by decide +kernel) (by decide +kernel)
theorem m781 : (Jvm.Cond.methodLink "NumberLeasesLaw" (73 : Nat) ({ cls := "NumberLeases", name := "wishedIn", desc := "(II)I" } : Jvm.MethodName)) ∈ gw := gw_of 781 (by decide +kernel) (by decide +kernel)
theorem m782 : (Jvm.Cond.instanceMethod ({ cls := "NumberLeases", name := "wishedIn", desc := "(II)I" } : Jvm.MethodName)) ∈ gw := gw_of 782 (by decide +kernel) (by decide +kernel)
theorem m783 : (Jvm.Cond.selects "NumberLeases" ({ cls := "NumberLeases", name := "wishedIn", desc := "(II)I" } : Jvm.MethodName) ({ cls := "NumberLeases", name := "wishedIn", desc := "(II)I" } : Jvm.MethodName)) ∈ gw := gw_of 783 (by decide +kernel) (by decide +kernel)
theorem m784 : (Jvm.Cond.code ({ cls := "NumberLeases", name := "wishedIn", desc := "(II)I" } : Jvm.MethodName) prog_1_method_22_code (3 : Nat) (Option.some Jvm.ClassFile.FieldType.int)) ∈ gw := gw_of 784 (by decide +kernel) (by decide +kernel)
theorem m785 : (Jvm.Cond.classLink "NumberLeasesLaw" (77 : Nat) "NumberLeasesModel") ∈ gw := gw_of 785 (by decide +kernel) (by decide +kernel)
theorem m786 : (Jvm.Cond.instantiable "NumberLeasesModel" (12 : Nat)) ∈ gw := gw_of 786 (by decide +kernel) (by decide +kernel)
theorem m787 : (Jvm.Cond.methodLink "NumberLeasesLaw" (79 : Nat) ({ cls := "NumberLeasesModel", name := "<init>", desc := "()V" } : Jvm.MethodName)) ∈ gw := gw_of 787 (by decide +kernel) (by decide +kernel)
theorem m788 : (Jvm.Cond.instanceMethod ({ cls := "NumberLeasesModel", name := "<init>", desc := "()V" } : Jvm.MethodName)) ∈ gw := gw_of 788 (by decide +kernel) (by decide +kernel)
theorem m789 : (Jvm.Cond.code ({ cls := "NumberLeasesModel", name := "<init>", desc := "()V" } : Jvm.MethodName) prog_7_method_1_code (2 : Nat) (Option.none : Option Jvm.ClassFile.FieldType)) ∈ gw := gw_of 789 (by decide +kernel) (by decide +kernel)
theorem m790 : (Jvm.Cond.methodLink "NumberLeasesModel" (1 : Nat) ({ cls := "java/lang/Object", name := "<init>", desc := "()V" } : Jvm.MethodName)) ∈ gw := gw_of 790 (by decide +kernel) (by decide +kernel)
theorem m791 : (Jvm.Cond.fieldLink "NumberLeasesModel" (7 : Nat) "NumberLeasesModel" "now" "[I") ∈ gw := gw_of 791 (by decide +kernel) (by decide +kernel)
theorem m792 : (Jvm.Cond.fieldLink "NumberLeasesModel" (13 : Nat) "NumberLeasesModel" "then" "[I") ∈ gw := gw_of 792 (by decide +kernel) (by decide +kernel)
theorem m793 : (Jvm.Cond.fieldLink "NumberLeasesModel" (16 : Nat) "NumberLeasesModel" "past" "[I") ∈ gw := gw_of 793 (by decide +kernel) (by decide +kernel)
theorem m794 : (Jvm.Cond.fieldLink "NumberLeasesModel" (33 : Nat) "NumberLeasesModel" "kept" "I") ∈ gw := gw_of 794 (by decide +kernel) (by decide +kernel)
theorem m795 : (Jvm.Cond.fieldLink "NumberLeasesModel" (19 : Nat) "NumberLeasesModel" "text" "[I") ∈ gw := gw_of 795 (by decide +kernel) (by decide +kernel)
theorem m796 : (Jvm.Cond.fieldLink "NumberLeasesModel" (121 : Nat) "NumberLeasesModel" "typed" "I") ∈ gw := gw_of 796 (by decide +kernel) (by decide +kernel)
theorem m797 : (Jvm.Cond.fieldLink "NumberLeasesModel" (25 : Nat) "NumberLeasesModel" "thrown" "I") ∈ gw := gw_of 797 (by decide +kernel) (by decide +kernel)
theorem m798 : (Jvm.Cond.fieldLink "NumberLeasesModel" (124 : Nat) "NumberLeasesModel" "at" "I") ∈ gw := gw_of 798 (by decide +kernel) (by decide +kernel)
theorem m799 : (Jvm.Cond.fieldLink "NumberLeasesModel" (127 : Nat) "NumberLeasesModel" "isFault" "Z") ∈ gw := gw_of 799 (by decide +kernel) (by decide +kernel)
theorem m800 : (Jvm.Cond.fieldLink "NumberLeasesModel" (141 : Nat) "NumberLeasesModel" "value" "I") ∈ gw := gw_of 800 (by decide +kernel) (by decide +kernel)
theorem m801 : (Jvm.Cond.fieldLink "NumberLeasesModel" (22 : Nat) "NumberLeasesModel" "orders" "[I") ∈ gw := gw_of 801 (by decide +kernel) (by decide +kernel)
theorem m802 : (Jvm.Cond.fieldLink "NumberLeasesModel" (147 : Nat) "NumberLeasesModel" "ordered" "I") ∈ gw := gw_of 802 (by decide +kernel) (by decide +kernel)
theorem m828 : (Jvm.Cond.methodLink "NumberLeasesLaw" (86 : Nat) ({ cls := "NumberLeasesModel", name := "thrown", desc := "()I" } : Jvm.MethodName)) ∈ gw := gw_of 828 (by decide +kernel) (by decide +kernel)
theorem m829 : (Jvm.Cond.instanceMethod ({ cls := "NumberLeasesModel", name := "thrown", desc := "()I" } : Jvm.MethodName)) ∈ gw := gw_of 829 (by decide +kernel) (by decide +kernel)
theorem m830 : (Jvm.Cond.selects "NumberLeasesModel" ({ cls := "NumberLeasesModel", name := "thrown", desc := "()I" } : Jvm.MethodName) ({ cls := "NumberLeasesModel", name := "thrown", desc := "()I" } : Jvm.MethodName)) ∈ gw := gw_of 830 (by decide +kernel) (by decide +kernel)
theorem m831 : (Jvm.Cond.code ({ cls := "NumberLeasesModel", name := "thrown", desc := "()I" } : Jvm.MethodName) prog_7_method_2_code (1 : Nat) (Option.some Jvm.ClassFile.FieldType.int)) ∈ gw := gw_of 831 (by decide +kernel) (by decide +kernel)
theorem m832 : (Jvm.Cond.methodLink "NumberLeasesLaw" (129 : Nat) ({ cls := "NumberLeasesModel", name := "undo", desc := "()I" } : Jvm.MethodName)) ∈ gw := gw_of 832 (by decide +kernel) (by decide +kernel)
theorem m833 : (Jvm.Cond.instanceMethod ({ cls := "NumberLeasesModel", name := "undo", desc := "()I" } : Jvm.MethodName)) ∈ gw := gw_of 833 (by decide +kernel) (by decide +kernel)
theorem m834 : (Jvm.Cond.selects "NumberLeasesModel" ({ cls := "NumberLeasesModel", name := "undo", desc := "()I" } : Jvm.MethodName) ({ cls := "NumberLeasesModel", name := "undo", desc := "()I" } : Jvm.MethodName)) ∈ gw := gw_of 834 (by decide +kernel) (by decide +kernel)
theorem m835 : (Jvm.Cond.code ({ cls := "NumberLeasesModel", name := "undo", desc := "()I" } : Jvm.MethodName) prog_7_method_9_code (2 : Nat) (Option.some Jvm.ClassFile.FieldType.int)) ∈ gw := gw_of 835 (by decide +kernel) (by decide +kernel)
theorem m836 : (Jvm.Cond.methodLink "NumberLeasesModel" (36 : Nat) ({ cls := "NumberLeasesModel", name := "fails", desc := "(I)I" } : Jvm.MethodName)) ∈ gw := gw_of 836 (by decide +kernel) (by decide +kernel)
theorem m838 : (Jvm.Cond.instanceMethod ({ cls := "NumberLeasesModel", name := "fails", desc := "(I)I" } : Jvm.MethodName)) ∈ gw := gw_of 838 (by decide +kernel) (by decide +kernel)
theorem m839 : (Jvm.Cond.code ({ cls := "NumberLeasesModel", name := "fails", desc := "(I)I" } : Jvm.MethodName) prog_7_method_3_code (2 : Nat) (Option.some Jvm.ClassFile.FieldType.int)) ∈ gw := gw_of 839 (by decide +kernel) (by decide +kernel)
theorem m840 : (Jvm.Cond.methodLink "NumberLeasesLaw" (85 : Nat) ({ cls := "NumberLeasesModel", name := "take", desc := "(II)I" } : Jvm.MethodName)) ∈ gw := gw_of 840 (by decide +kernel) (by decide +kernel)
theorem m841 : (Jvm.Cond.instanceMethod ({ cls := "NumberLeasesModel", name := "take", desc := "(II)I" } : Jvm.MethodName)) ∈ gw := gw_of 841 (by decide +kernel) (by decide +kernel)
theorem m842 : (Jvm.Cond.selects "NumberLeasesModel" ({ cls := "NumberLeasesModel", name := "take", desc := "(II)I" } : Jvm.MethodName) ({ cls := "NumberLeasesModel", name := "take", desc := "(II)I" } : Jvm.MethodName)) ∈ gw := gw_of 842 (by decide +kernel) (by decide +kernel)
theorem m843 : (Jvm.Cond.code ({ cls := "NumberLeasesModel", name := "take", desc := "(II)I" } : Jvm.MethodName) prog_7_method_26_code (3 : Nat) (Option.some Jvm.ClassFile.FieldType.int)) ∈ gw := gw_of 843 (by decide +kernel) (by decide +kernel)
theorem m844 : (Jvm.Cond.methodLink "NumberLeasesModel" (73 : Nat) ({ cls := "NumberLeasesModel", name := "isHolder", desc := "(I)Z" } : Jvm.MethodName)) ∈ gw := gw_of 844 (by decide +kernel) (by decide +kernel)
theorem m845 : (Jvm.Cond.static ({ cls := "NumberLeasesModel", name := "isHolder", desc := "(I)Z" } : Jvm.MethodName)) ∈ gw := gw_of 845 (by decide +kernel) (by decide +kernel)
theorem m846 : (Jvm.Cond.code ({ cls := "NumberLeasesModel", name := "isHolder", desc := "(I)Z" } : Jvm.MethodName) prog_7_method_5_code (1 : Nat) (Option.some Jvm.ClassFile.FieldType.boolean)) ∈ gw := gw_of 846 (by decide +kernel) (by decide +kernel)
theorem m847 : (Jvm.Cond.methodLink "NumberLeasesModel" (29 : Nat) ({ cls := "NumberLeasesModel", name := "in", desc := "(III)Z" } : Jvm.MethodName)) ∈ gw := gw_of 847 (by decide +kernel) (by decide +kernel)
theorem m848 : (Jvm.Cond.static ({ cls := "NumberLeasesModel", name := "in", desc := "(III)Z" } : Jvm.MethodName)) ∈ gw := gw_of 848 (by decide +kernel) (by decide +kernel)
theorem m849 : (Jvm.Cond.code ({ cls := "NumberLeasesModel", name := "in", desc := "(III)Z" } : Jvm.MethodName) prog_7_method_4_code (3 : Nat) (Option.some Jvm.ClassFile.FieldType.boolean)) ∈ gw := gw_of 849 (by decide +kernel) (by decide +kernel)
theorem m850 : (Jvm.Cond.methodLink "NumberLeasesModel" (77 : Nat) ({ cls := "NumberLeasesModel", name := "isTerm", desc := "(I)Z" } : Jvm.MethodName)) ∈ gw := gw_of 850 (by decide +kernel) (by decide +kernel)
theorem m851 : (Jvm.Cond.static ({ cls := "NumberLeasesModel", name := "isTerm", desc := "(I)Z" } : Jvm.MethodName)) ∈ gw := gw_of 851 (by decide +kernel) (by decide +kernel)
theorem m852 : (Jvm.Cond.code ({ cls := "NumberLeasesModel", name := "isTerm", desc := "(I)Z" } : Jvm.MethodName) prog_7_method_7_code (1 : Nat) (Option.some Jvm.ClassFile.FieldType.boolean)) ∈ gw := gw_of 852 (by decide +kernel) (by decide +kernel)
theorem m853 : (Jvm.Cond.methodLink "NumberLeasesModel" (80 : Nat) ({ cls := "NumberLeasesModel", name := "mayTake", desc := "(I)Z" } : Jvm.MethodName)) ∈ gw := gw_of 853 (by decide +kernel) (by decide +kernel)
theorem m855 : (Jvm.Cond.instanceMethod ({ cls := "NumberLeasesModel", name := "mayTake", desc := "(I)Z" } : Jvm.MethodName)) ∈ gw := gw_of 855 (by decide +kernel) (by decide +kernel)
theorem m856 : (Jvm.Cond.code ({ cls := "NumberLeasesModel", name := "mayTake", desc := "(I)Z" } : Jvm.MethodName) prog_7_method_24_code (2 : Nat) (Option.some Jvm.ClassFile.FieldType.boolean)) ∈ gw := gw_of 856 (by decide +kernel) (by decide +kernel)
theorem m857 : (Jvm.Cond.methodLink "NumberLeasesModel" (70 : Nat) ({ cls := "NumberLeasesModel", name := "firstFree", desc := "([II)I" } : Jvm.MethodName)) ∈ gw := gw_of 857 (by decide +kernel) (by decide +kernel)
theorem m858 : (Jvm.Cond.static ({ cls := "NumberLeasesModel", name := "firstFree", desc := "([II)I" } : Jvm.MethodName)) ∈ gw := gw_of 858 (by decide +kernel) (by decide +kernel)
theorem m859 : (Jvm.Cond.code ({ cls := "NumberLeasesModel", name := "firstFree", desc := "([II)I" } : Jvm.MethodName) prog_7_method_21_code (4 : Nat) (Option.some Jvm.ClassFile.FieldType.int)) ∈ gw := gw_of 859 (by decide +kernel) (by decide +kernel)
theorem m860 : (Jvm.Cond.methodLink "NumberLeasesModel" (43 : Nat) ({ cls := "NumberLeasesModel", name := "isFree", desc := "([II)Z" } : Jvm.MethodName)) ∈ gw := gw_of 860 (by decide +kernel) (by decide +kernel)
theorem m861 : (Jvm.Cond.static ({ cls := "NumberLeasesModel", name := "isFree", desc := "([II)Z" } : Jvm.MethodName)) ∈ gw := gw_of 861 (by decide +kernel) (by decide +kernel)
theorem m862 : (Jvm.Cond.code ({ cls := "NumberLeasesModel", name := "isFree", desc := "([II)Z" } : Jvm.MethodName) prog_7_method_12_code (2 : Nat) (Option.some Jvm.ClassFile.FieldType.boolean)) ∈ gw := gw_of 862 (by decide +kernel) (by decide +kernel)
theorem m863 : (Jvm.Cond.methodLink "NumberLeasesModel" (40 : Nat) ({ cls := "NumberLeasesModel", name := "row", desc := "(I)I" } : Jvm.MethodName)) ∈ gw := gw_of 863 (by decide +kernel) (by decide +kernel)
theorem m864 : (Jvm.Cond.static ({ cls := "NumberLeasesModel", name := "row", desc := "(I)I" } : Jvm.MethodName)) ∈ gw := gw_of 864 (by decide +kernel) (by decide +kernel)
theorem m865 : (Jvm.Cond.code ({ cls := "NumberLeasesModel", name := "row", desc := "(I)I" } : Jvm.MethodName) prog_7_method_11_code (1 : Nat) (Option.some Jvm.ClassFile.FieldType.int)) ∈ gw := gw_of 865 (by decide +kernel) (by decide +kernel)
theorem m866 : (Jvm.Cond.methodLink "NumberLeasesModel" (58 : Nat) ({ cls := "NumberLeasesModel", name := "hasRoom", desc := "([III)Z" } : Jvm.MethodName)) ∈ gw := gw_of 866 (by decide +kernel) (by decide +kernel)
theorem m867 : (Jvm.Cond.static ({ cls := "NumberLeasesModel", name := "hasRoom", desc := "([III)Z" } : Jvm.MethodName)) ∈ gw := gw_of 867 (by decide +kernel) (by decide +kernel)
theorem m868 : (Jvm.Cond.code ({ cls := "NumberLeasesModel", name := "hasRoom", desc := "([III)Z" } : Jvm.MethodName) prog_7_method_15_code (3 : Nat) (Option.some Jvm.ClassFile.FieldType.boolean)) ∈ gw := gw_of 868 (by decide +kernel) (by decide +kernel)
theorem m869 : (Jvm.Cond.methodLink "NumberLeasesModel" (47 : Nat) ({ cls := "NumberLeasesModel", name := "has", desc := "([II)I" } : Jvm.MethodName)) ∈ gw := gw_of 869 (by decide +kernel) (by decide +kernel)
theorem m870 : (Jvm.Cond.static ({ cls := "NumberLeasesModel", name := "has", desc := "([II)I" } : Jvm.MethodName)) ∈ gw := gw_of 870 (by decide +kernel) (by decide +kernel)
theorem m871 : (Jvm.Cond.code ({ cls := "NumberLeasesModel", name := "has", desc := "([II)I" } : Jvm.MethodName) prog_7_method_14_code (4 : Nat) (Option.some Jvm.ClassFile.FieldType.int)) ∈ gw := gw_of 871 (by decide +kernel) (by decide +kernel)
theorem m872 : (Jvm.Cond.methodLink "NumberLeasesModel" (83 : Nat) ({ cls := "NumberLeasesModel", name := "saves", desc := "()V" } : Jvm.MethodName)) ∈ gw := gw_of 872 (by decide +kernel) (by decide +kernel)
theorem m874 : (Jvm.Cond.instanceMethod ({ cls := "NumberLeasesModel", name := "saves", desc := "()V" } : Jvm.MethodName)) ∈ gw := gw_of 874 (by decide +kernel) (by decide +kernel)
theorem m875 : (Jvm.Cond.code ({ cls := "NumberLeasesModel", name := "saves", desc := "()V" } : Jvm.MethodName) prog_7_method_8_code (2 : Nat) (Option.none : Option Jvm.ClassFile.FieldType)) ∈ gw := gw_of 875 (by decide +kernel) (by decide +kernel)
theorem m876 : (Jvm.Cond.methodLink "NumberLeasesModel" (86 : Nat) ({ cls := "NumberLeasesModel", name := "takes", desc := "(II)I" } : Jvm.MethodName)) ∈ gw := gw_of 876 (by decide +kernel) (by decide +kernel)
theorem m878 : (Jvm.Cond.instanceMethod ({ cls := "NumberLeasesModel", name := "takes", desc := "(II)I" } : Jvm.MethodName)) ∈ gw := gw_of 878 (by decide +kernel) (by decide +kernel)
theorem m879 : (Jvm.Cond.code ({ cls := "NumberLeasesModel", name := "takes", desc := "(II)I" } : Jvm.MethodName) prog_7_method_25_code (4 : Nat) (Option.some Jvm.ClassFile.FieldType.int)) ∈ gw := gw_of 879 (by decide +kernel) (by decide +kernel)
theorem m880 : (Jvm.Cond.methodLink "NumberLeasesModel" (62 : Nat) ({ cls := "NumberLeasesModel", name := "gives", desc := "([IIII)V" } : Jvm.MethodName)) ∈ gw := gw_of 880 (by decide +kernel) (by decide +kernel)
theorem m881 : (Jvm.Cond.static ({ cls := "NumberLeasesModel", name := "gives", desc := "([IIII)V" } : Jvm.MethodName)) ∈ gw := gw_of 881 (by decide +kernel) (by decide +kernel)
theorem m882 : (Jvm.Cond.code ({ cls := "NumberLeasesModel", name := "gives", desc := "([IIII)V" } : Jvm.MethodName) prog_7_method_17_code (5 : Nat) (Option.none : Option Jvm.ClassFile.FieldType)) ∈ gw := gw_of 882 (by decide +kernel) (by decide +kernel)
theorem m883 : (Jvm.Cond.methodLink "NumberLeasesLaw" (92 : Nat) ({ cls := "NumberLeasesModel", name := "takeSpan", desc := "(III)I" } : Jvm.MethodName)) ∈ gw := gw_of 883 (by decide +kernel) (by decide +kernel)
theorem m884 : (Jvm.Cond.instanceMethod ({ cls := "NumberLeasesModel", name := "takeSpan", desc := "(III)I" } : Jvm.MethodName)) ∈ gw := gw_of 884 (by decide +kernel) (by decide +kernel)
theorem m885 : (Jvm.Cond.selects "NumberLeasesModel" ({ cls := "NumberLeasesModel", name := "takeSpan", desc := "(III)I" } : Jvm.MethodName) ({ cls := "NumberLeasesModel", name := "takeSpan", desc := "(III)I" } : Jvm.MethodName)) ∈ gw := gw_of 885 (by decide +kernel) (by decide +kernel)
theorem m886 : (Jvm.Cond.code ({ cls := "NumberLeasesModel", name := "takeSpan", desc := "(III)I" } : Jvm.MethodName) prog_7_method_27_code (6 : Nat) (Option.some Jvm.ClassFile.FieldType.int)) ∈ gw := gw_of 886 (by decide +kernel) (by decide +kernel)
theorem m887 : (Jvm.Cond.methodLink "NumberLeasesLaw" (95 : Nat) ({ cls := "NumberLeasesModel", name := "wish", desc := "(III)I" } : Jvm.MethodName)) ∈ gw := gw_of 887 (by decide +kernel) (by decide +kernel)
theorem m888 : (Jvm.Cond.instanceMethod ({ cls := "NumberLeasesModel", name := "wish", desc := "(III)I" } : Jvm.MethodName)) ∈ gw := gw_of 888 (by decide +kernel) (by decide +kernel)
theorem m889 : (Jvm.Cond.selects "NumberLeasesModel" ({ cls := "NumberLeasesModel", name := "wish", desc := "(III)I" } : Jvm.MethodName) ({ cls := "NumberLeasesModel", name := "wish", desc := "(III)I" } : Jvm.MethodName)) ∈ gw := gw_of 889 (by decide +kernel) (by decide +kernel)
theorem m890 : (Jvm.Cond.code ({ cls := "NumberLeasesModel", name := "wish", desc := "(III)I" } : Jvm.MethodName) prog_7_method_30_code (4 : Nat) (Option.some Jvm.ClassFile.FieldType.int)) ∈ gw := gw_of 890 (by decide +kernel) (by decide +kernel)
theorem m891 : (Jvm.Cond.methodLink "NumberLeasesModel" (97 : Nat) ({ cls := "NumberLeasesModel", name := "isNumber", desc := "(I)Z" } : Jvm.MethodName)) ∈ gw := gw_of 891 (by decide +kernel) (by decide +kernel)
theorem m893 : (Jvm.Cond.instanceMethod ({ cls := "NumberLeasesModel", name := "isNumber", desc := "(I)Z" } : Jvm.MethodName)) ∈ gw := gw_of 893 (by decide +kernel) (by decide +kernel)
theorem m894 : (Jvm.Cond.code ({ cls := "NumberLeasesModel", name := "isNumber", desc := "(I)Z" } : Jvm.MethodName) prog_7_method_6_code (2 : Nat) (Option.some Jvm.ClassFile.FieldType.boolean)) ∈ gw := gw_of 894 (by decide +kernel) (by decide +kernel)
theorem m895 : (Jvm.Cond.methodLink "NumberLeasesModel" (100 : Nat) ({ cls := "NumberLeasesModel", name := "mayWish", desc := "(II)Z" } : Jvm.MethodName)) ∈ gw := gw_of 895 (by decide +kernel) (by decide +kernel)
theorem m897 : (Jvm.Cond.instanceMethod ({ cls := "NumberLeasesModel", name := "mayWish", desc := "(II)Z" } : Jvm.MethodName)) ∈ gw := gw_of 897 (by decide +kernel) (by decide +kernel)
theorem m898 : (Jvm.Cond.code ({ cls := "NumberLeasesModel", name := "mayWish", desc := "(II)Z" } : Jvm.MethodName) prog_7_method_28_code (3 : Nat) (Option.some Jvm.ClassFile.FieldType.boolean)) ∈ gw := gw_of 898 (by decide +kernel) (by decide +kernel)
theorem m899 : (Jvm.Cond.methodLink "NumberLeasesModel" (90 : Nat) ({ cls := "NumberLeasesModel", name := "wishOf", desc := "([III)I" } : Jvm.MethodName)) ∈ gw := gw_of 899 (by decide +kernel) (by decide +kernel)
theorem m900 : (Jvm.Cond.static ({ cls := "NumberLeasesModel", name := "wishOf", desc := "([III)I" } : Jvm.MethodName)) ∈ gw := gw_of 900 (by decide +kernel) (by decide +kernel)
theorem m901 : (Jvm.Cond.code ({ cls := "NumberLeasesModel", name := "wishOf", desc := "([III)I" } : Jvm.MethodName) prog_7_method_22_code (4 : Nat) (Option.some Jvm.ClassFile.FieldType.int)) ∈ gw := gw_of 901 (by decide +kernel) (by decide +kernel)
theorem m902 : (Jvm.Cond.methodLink "NumberLeasesModel" (104 : Nat) ({ cls := "NumberLeasesModel", name := "wishes", desc := "(III)I" } : Jvm.MethodName)) ∈ gw := gw_of 902 (by decide +kernel) (by decide +kernel)
theorem m904 : (Jvm.Cond.instanceMethod ({ cls := "NumberLeasesModel", name := "wishes", desc := "(III)I" } : Jvm.MethodName)) ∈ gw := gw_of 904 (by decide +kernel) (by decide +kernel)
theorem m905 : (Jvm.Cond.code ({ cls := "NumberLeasesModel", name := "wishes", desc := "(III)I" } : Jvm.MethodName) prog_7_method_29_code (4 : Nat) (Option.some Jvm.ClassFile.FieldType.int)) ∈ gw := gw_of 905 (by decide +kernel) (by decide +kernel)
theorem m906 : (Jvm.Cond.methodLink "NumberLeasesModel" (94 : Nat) ({ cls := "NumberLeasesModel", name := "waits", desc := "([IIII)V" } : Jvm.MethodName)) ∈ gw := gw_of 906 (by decide +kernel) (by decide +kernel)
theorem m907 : (Jvm.Cond.static ({ cls := "NumberLeasesModel", name := "waits", desc := "([IIII)V" } : Jvm.MethodName)) ∈ gw := gw_of 907 (by decide +kernel) (by decide +kernel)
theorem m908 : (Jvm.Cond.code ({ cls := "NumberLeasesModel", name := "waits", desc := "([IIII)V" } : Jvm.MethodName) prog_7_method_23_code (5 : Nat) (Option.none : Option Jvm.ClassFile.FieldType)) ∈ gw := gw_of 908 (by decide +kernel) (by decide +kernel)
theorem m909 : (Jvm.Cond.methodLink "NumberLeasesLaw" (98 : Nat) ({ cls := "NumberLeasesModel", name := "unwish", desc := "(II)I" } : Jvm.MethodName)) ∈ gw := gw_of 909 (by decide +kernel) (by decide +kernel)
theorem m910 : (Jvm.Cond.instanceMethod ({ cls := "NumberLeasesModel", name := "unwish", desc := "(II)I" } : Jvm.MethodName)) ∈ gw := gw_of 910 (by decide +kernel) (by decide +kernel)
theorem m911 : (Jvm.Cond.selects "NumberLeasesModel" ({ cls := "NumberLeasesModel", name := "unwish", desc := "(II)I" } : Jvm.MethodName) ({ cls := "NumberLeasesModel", name := "unwish", desc := "(II)I" } : Jvm.MethodName)) ∈ gw := gw_of 911 (by decide +kernel) (by decide +kernel)
theorem m912 : (Jvm.Cond.code ({ cls := "NumberLeasesModel", name := "unwish", desc := "(II)I" } : Jvm.MethodName) prog_7_method_31_code (4 : Nat) (Option.some Jvm.ClassFile.FieldType.int)) ∈ gw := gw_of 912 (by decide +kernel) (by decide +kernel)
theorem m913 : (Jvm.Cond.methodLink "NumberLeasesModel" (54 : Nat) ({ cls := "NumberLeasesModel", name := "drops", desc := "([III)V" } : Jvm.MethodName)) ∈ gw := gw_of 913 (by decide +kernel) (by decide +kernel)
theorem m914 : (Jvm.Cond.static ({ cls := "NumberLeasesModel", name := "drops", desc := "([III)V" } : Jvm.MethodName)) ∈ gw := gw_of 914 (by decide +kernel) (by decide +kernel)
theorem m915 : (Jvm.Cond.code ({ cls := "NumberLeasesModel", name := "drops", desc := "([III)V" } : Jvm.MethodName) prog_7_method_18_code (5 : Nat) (Option.none : Option Jvm.ClassFile.FieldType)) ∈ gw := gw_of 915 (by decide +kernel) (by decide +kernel)
theorem m916 : (Jvm.Cond.methodLink "NumberLeasesLaw" (101 : Nat) ({ cls := "NumberLeasesModel", name := "renew", desc := "(III)I" } : Jvm.MethodName)) ∈ gw := gw_of 916 (by decide +kernel) (by decide +kernel)
theorem m917 : (Jvm.Cond.instanceMethod ({ cls := "NumberLeasesModel", name := "renew", desc := "(III)I" } : Jvm.MethodName)) ∈ gw := gw_of 917 (by decide +kernel) (by decide +kernel)
theorem m918 : (Jvm.Cond.selects "NumberLeasesModel" ({ cls := "NumberLeasesModel", name := "renew", desc := "(III)I" } : Jvm.MethodName) ({ cls := "NumberLeasesModel", name := "renew", desc := "(III)I" } : Jvm.MethodName)) ∈ gw := gw_of 918 (by decide +kernel) (by decide +kernel)
theorem m919 : (Jvm.Cond.code ({ cls := "NumberLeasesModel", name := "renew", desc := "(III)I" } : Jvm.MethodName) prog_7_method_32_code (6 : Nat) (Option.some Jvm.ClassFile.FieldType.int)) ∈ gw := gw_of 919 (by decide +kernel) (by decide +kernel)
theorem m920 : (Jvm.Cond.methodLink "NumberLeasesModel" (51 : Nat) ({ cls := "NumberLeasesModel", name := "stageOf", desc := "([II)I" } : Jvm.MethodName)) ∈ gw := gw_of 920 (by decide +kernel) (by decide +kernel)
theorem m921 : (Jvm.Cond.static ({ cls := "NumberLeasesModel", name := "stageOf", desc := "([II)I" } : Jvm.MethodName)) ∈ gw := gw_of 921 (by decide +kernel) (by decide +kernel)
theorem m922 : (Jvm.Cond.code ({ cls := "NumberLeasesModel", name := "stageOf", desc := "([II)I" } : Jvm.MethodName) prog_7_method_13_code (2 : Nat) (Option.some Jvm.ClassFile.FieldType.int)) ∈ gw := gw_of 922 (by decide +kernel) (by decide +kernel)
theorem m923 : (Jvm.Cond.methodLink "NumberLeasesLaw" (104 : Nat) ({ cls := "NumberLeasesModel", name := "giveBack", desc := "(III)I" } : Jvm.MethodName)) ∈ gw := gw_of 923 (by decide +kernel) (by decide +kernel)
theorem m924 : (Jvm.Cond.instanceMethod ({ cls := "NumberLeasesModel", name := "giveBack", desc := "(III)I" } : Jvm.MethodName)) ∈ gw := gw_of 924 (by decide +kernel) (by decide +kernel)
theorem m925 : (Jvm.Cond.selects "NumberLeasesModel" ({ cls := "NumberLeasesModel", name := "giveBack", desc := "(III)I" } : Jvm.MethodName) ({ cls := "NumberLeasesModel", name := "giveBack", desc := "(III)I" } : Jvm.MethodName)) ∈ gw := gw_of 925 (by decide +kernel) (by decide +kernel)
theorem m926 : (Jvm.Cond.code ({ cls := "NumberLeasesModel", name := "giveBack", desc := "(III)I" } : Jvm.MethodName) prog_7_method_34_code (4 : Nat) (Option.some Jvm.ClassFile.FieldType.int)) ∈ gw := gw_of 926 (by decide +kernel) (by decide +kernel)
theorem m927 : (Jvm.Cond.methodLink "NumberLeasesModel" (108 : Nat) ({ cls := "NumberLeasesModel", name := "givesBack", desc := "(III)I" } : Jvm.MethodName)) ∈ gw := gw_of 927 (by decide +kernel) (by decide +kernel)
theorem m929 : (Jvm.Cond.instanceMethod ({ cls := "NumberLeasesModel", name := "givesBack", desc := "(III)I" } : Jvm.MethodName)) ∈ gw := gw_of 929 (by decide +kernel) (by decide +kernel)
theorem m930 : (Jvm.Cond.code ({ cls := "NumberLeasesModel", name := "givesBack", desc := "(III)I" } : Jvm.MethodName) prog_7_method_33_code (6 : Nat) (Option.some Jvm.ClassFile.FieldType.int)) ∈ gw := gw_of 930 (by decide +kernel) (by decide +kernel)
theorem m931 : (Jvm.Cond.methodLink "NumberLeasesModel" (66 : Nat) ({ cls := "NumberLeasesModel", name := "frees", desc := "([II)V" } : Jvm.MethodName)) ∈ gw := gw_of 931 (by decide +kernel) (by decide +kernel)
theorem m932 : (Jvm.Cond.static ({ cls := "NumberLeasesModel", name := "frees", desc := "([II)V" } : Jvm.MethodName)) ∈ gw := gw_of 932 (by decide +kernel) (by decide +kernel)
theorem m933 : (Jvm.Cond.code ({ cls := "NumberLeasesModel", name := "frees", desc := "([II)V" } : Jvm.MethodName) prog_7_method_19_code (5 : Nat) (Option.none : Option Jvm.ClassFile.FieldType)) ∈ gw := gw_of 933 (by decide +kernel) (by decide +kernel)
theorem m934 : (Jvm.Cond.methodLink "NumberLeasesLaw" (108 : Nat) ({ cls := "NumberLeasesModel", name := "pass", desc := "(I)I" } : Jvm.MethodName)) ∈ gw := gw_of 934 (by decide +kernel) (by decide +kernel)
theorem m935 : (Jvm.Cond.instanceMethod ({ cls := "NumberLeasesModel", name := "pass", desc := "(I)I" } : Jvm.MethodName)) ∈ gw := gw_of 935 (by decide +kernel) (by decide +kernel)
theorem m936 : (Jvm.Cond.selects "NumberLeasesModel" ({ cls := "NumberLeasesModel", name := "pass", desc := "(I)I" } : Jvm.MethodName) ({ cls := "NumberLeasesModel", name := "pass", desc := "(I)I" } : Jvm.MethodName)) ∈ gw := gw_of 936 (by decide +kernel) (by decide +kernel)
theorem m937 : (Jvm.Cond.code ({ cls := "NumberLeasesModel", name := "pass", desc := "(I)I" } : Jvm.MethodName) prog_7_method_36_code (2 : Nat) (Option.some Jvm.ClassFile.FieldType.int)) ∈ gw := gw_of 937 (by decide +kernel) (by decide +kernel)
theorem m938 : (Jvm.Cond.methodLink "NumberLeasesModel" (115 : Nat) ({ cls := "NumberLeasesModel", name := "passesBy", desc := "(I)I" } : Jvm.MethodName)) ∈ gw := gw_of 938 (by decide +kernel) (by decide +kernel)
theorem m940 : (Jvm.Cond.instanceMethod ({ cls := "NumberLeasesModel", name := "passesBy", desc := "(I)I" } : Jvm.MethodName)) ∈ gw := gw_of 940 (by decide +kernel) (by decide +kernel)
theorem m941 : (Jvm.Cond.code ({ cls := "NumberLeasesModel", name := "passesBy", desc := "(I)I" } : Jvm.MethodName) prog_7_method_35_code (4 : Nat) (Option.some Jvm.ClassFile.FieldType.int)) ∈ gw := gw_of 941 (by decide +kernel) (by decide +kernel)
theorem m942 : (Jvm.Cond.methodLink "NumberLeasesModel" (111 : Nat) ({ cls := "NumberLeasesModel", name := "passes", desc := "([I)I" } : Jvm.MethodName)) ∈ gw := gw_of 942 (by decide +kernel) (by decide +kernel)
theorem m943 : (Jvm.Cond.static ({ cls := "NumberLeasesModel", name := "passes", desc := "([I)I" } : Jvm.MethodName)) ∈ gw := gw_of 943 (by decide +kernel) (by decide +kernel)
theorem m944 : (Jvm.Cond.code ({ cls := "NumberLeasesModel", name := "passes", desc := "([I)I" } : Jvm.MethodName) prog_7_method_20_code (3 : Nat) (Option.some Jvm.ClassFile.FieldType.int)) ∈ gw := gw_of 944 (by decide +kernel) (by decide +kernel)
theorem m945 : (Jvm.Cond.methodLink "NumberLeasesLaw" (111 : Nat) ({ cls := "NumberLeasesModel", name := "set", desc := "(II)I" } : Jvm.MethodName)) ∈ gw := gw_of 945 (by decide +kernel) (by decide +kernel)
theorem m946 : (Jvm.Cond.instanceMethod ({ cls := "NumberLeasesModel", name := "set", desc := "(II)I" } : Jvm.MethodName)) ∈ gw := gw_of 946 (by decide +kernel) (by decide +kernel)
theorem m947 : (Jvm.Cond.selects "NumberLeasesModel" ({ cls := "NumberLeasesModel", name := "set", desc := "(II)I" } : Jvm.MethodName) ({ cls := "NumberLeasesModel", name := "set", desc := "(II)I" } : Jvm.MethodName)) ∈ gw := gw_of 947 (by decide +kernel) (by decide +kernel)
theorem m948 : (Jvm.Cond.code ({ cls := "NumberLeasesModel", name := "set", desc := "(II)I" } : Jvm.MethodName) prog_7_method_38_code (4 : Nat) (Option.some Jvm.ClassFile.FieldType.int)) ∈ gw := gw_of 948 (by decide +kernel) (by decide +kernel)
theorem m949 : (Jvm.Cond.methodLink "NumberLeasesModel" (118 : Nat) ({ cls := "NumberLeasesModel", name := "isFor", desc := "(II)Z" } : Jvm.MethodName)) ∈ gw := gw_of 949 (by decide +kernel) (by decide +kernel)
theorem m951 : (Jvm.Cond.instanceMethod ({ cls := "NumberLeasesModel", name := "isFor", desc := "(II)Z" } : Jvm.MethodName)) ∈ gw := gw_of 951 (by decide +kernel) (by decide +kernel)
theorem m952 : (Jvm.Cond.code ({ cls := "NumberLeasesModel", name := "isFor", desc := "(II)Z" } : Jvm.MethodName) prog_7_method_37_code (3 : Nat) (Option.some Jvm.ClassFile.FieldType.boolean)) ∈ gw := gw_of 952 (by decide +kernel) (by decide +kernel)
theorem m953 : (Jvm.Cond.methodLink "NumberLeasesLaw" (114 : Nat) ({ cls := "NumberLeasesModel", name := "append", desc := "(I)I" } : Jvm.MethodName)) ∈ gw := gw_of 953 (by decide +kernel) (by decide +kernel)
theorem m954 : (Jvm.Cond.instanceMethod ({ cls := "NumberLeasesModel", name := "append", desc := "(I)I" } : Jvm.MethodName)) ∈ gw := gw_of 954 (by decide +kernel) (by decide +kernel)
theorem m955 : (Jvm.Cond.selects "NumberLeasesModel" ({ cls := "NumberLeasesModel", name := "append", desc := "(I)I" } : Jvm.MethodName) ({ cls := "NumberLeasesModel", name := "append", desc := "(I)I" } : Jvm.MethodName)) ∈ gw := gw_of 955 (by decide +kernel) (by decide +kernel)
theorem m956 : (Jvm.Cond.code ({ cls := "NumberLeasesModel", name := "append", desc := "(I)I" } : Jvm.MethodName) prog_7_method_39_code (2 : Nat) (Option.some Jvm.ClassFile.FieldType.int)) ∈ gw := gw_of 956 (by decide +kernel) (by decide +kernel)
theorem m957 : (Jvm.Cond.methodLink "NumberLeasesLaw" (118 : Nat) ({ cls := "NumberLeasesModel", name := "clearBuffer", desc := "()I" } : Jvm.MethodName)) ∈ gw := gw_of 957 (by decide +kernel) (by decide +kernel)
theorem m958 : (Jvm.Cond.instanceMethod ({ cls := "NumberLeasesModel", name := "clearBuffer", desc := "()I" } : Jvm.MethodName)) ∈ gw := gw_of 958 (by decide +kernel) (by decide +kernel)
theorem m959 : (Jvm.Cond.selects "NumberLeasesModel" ({ cls := "NumberLeasesModel", name := "clearBuffer", desc := "()I" } : Jvm.MethodName) ({ cls := "NumberLeasesModel", name := "clearBuffer", desc := "()I" } : Jvm.MethodName)) ∈ gw := gw_of 959 (by decide +kernel) (by decide +kernel)
theorem m960 : (Jvm.Cond.code ({ cls := "NumberLeasesModel", name := "clearBuffer", desc := "()I" } : Jvm.MethodName) prog_7_method_40_code (2 : Nat) (Option.some Jvm.ClassFile.FieldType.int)) ∈ gw := gw_of 960 (by decide +kernel) (by decide +kernel)
theorem m961 : (Jvm.Cond.methodLink "NumberLeasesLaw" (122 : Nat) ({ cls := "NumberLeasesModel", name := "firstError", desc := "()I" } : Jvm.MethodName)) ∈ gw := gw_of 961 (by decide +kernel) (by decide +kernel)
theorem m962 : (Jvm.Cond.instanceMethod ({ cls := "NumberLeasesModel", name := "firstError", desc := "()I" } : Jvm.MethodName)) ∈ gw := gw_of 962 (by decide +kernel) (by decide +kernel)
theorem m963 : (Jvm.Cond.selects "NumberLeasesModel" ({ cls := "NumberLeasesModel", name := "firstError", desc := "()I" } : Jvm.MethodName) ({ cls := "NumberLeasesModel", name := "firstError", desc := "()I" } : Jvm.MethodName)) ∈ gw := gw_of 963 (by decide +kernel) (by decide +kernel)
theorem m964 : (Jvm.Cond.code ({ cls := "NumberLeasesModel", name := "firstError", desc := "()I" } : Jvm.MethodName) prog_7_method_49_code (2 : Nat) (Option.some Jvm.ClassFile.FieldType.int)) ∈ gw := gw_of 964 (by decide +kernel) (by decide +kernel)
theorem m965 : (Jvm.Cond.methodLink "NumberLeasesModel" (159 : Nat) ({ cls := "NumberLeasesModel", name := "isText", desc := "()Z" } : Jvm.MethodName)) ∈ gw := gw_of 965 (by decide +kernel) (by decide +kernel)
theorem m967 : (Jvm.Cond.instanceMethod ({ cls := "NumberLeasesModel", name := "isText", desc := "()Z" } : Jvm.MethodName)) ∈ gw := gw_of 967 (by decide +kernel) (by decide +kernel)
theorem m968 : (Jvm.Cond.code ({ cls := "NumberLeasesModel", name := "isText", desc := "()Z" } : Jvm.MethodName) prog_7_method_48_code (2 : Nat) (Option.some Jvm.ClassFile.FieldType.boolean)) ∈ gw := gw_of 968 (by decide +kernel) (by decide +kernel)
theorem m969 : (Jvm.Cond.methodLink "NumberLeasesModel" (156 : Nat) ({ cls := "NumberLeasesModel", name := "isOrder", desc := "()Z" } : Jvm.MethodName)) ∈ gw := gw_of 969 (by decide +kernel) (by decide +kernel)
theorem m971 : (Jvm.Cond.instanceMethod ({ cls := "NumberLeasesModel", name := "isOrder", desc := "()Z" } : Jvm.MethodName)) ∈ gw := gw_of 971 (by decide +kernel) (by decide +kernel)
theorem m972 : (Jvm.Cond.code ({ cls := "NumberLeasesModel", name := "isOrder", desc := "()Z" } : Jvm.MethodName) prog_7_method_47_code (2 : Nat) (Option.some Jvm.ClassFile.FieldType.boolean)) ∈ gw := gw_of 972 (by decide +kernel) (by decide +kernel)
theorem m973 : (Jvm.Cond.methodLink "NumberLeasesModel" (131 : Nat) ({ cls := "NumberLeasesModel", name := "isAt", desc := "(II)Z" } : Jvm.MethodName)) ∈ gw := gw_of 973 (by decide +kernel) (by decide +kernel)
theorem m975 : (Jvm.Cond.instanceMethod ({ cls := "NumberLeasesModel", name := "isAt", desc := "(II)Z" } : Jvm.MethodName)) ∈ gw := gw_of 975 (by decide +kernel) (by decide +kernel)
theorem m976 : (Jvm.Cond.code ({ cls := "NumberLeasesModel", name := "isAt", desc := "(II)Z" } : Jvm.MethodName) prog_7_method_41_code (3 : Nat) (Option.some Jvm.ClassFile.FieldType.boolean)) ∈ gw := gw_of 976 (by decide +kernel) (by decide +kernel)
theorem m977 : (Jvm.Cond.methodLink "NumberLeasesModel" (134 : Nat) ({ cls := "NumberLeasesModel", name := "stops", desc := "()Z" } : Jvm.MethodName)) ∈ gw := gw_of 977 (by decide +kernel) (by decide +kernel)
theorem m979 : (Jvm.Cond.instanceMethod ({ cls := "NumberLeasesModel", name := "stops", desc := "()Z" } : Jvm.MethodName)) ∈ gw := gw_of 979 (by decide +kernel) (by decide +kernel)
theorem m980 : (Jvm.Cond.code ({ cls := "NumberLeasesModel", name := "stops", desc := "()Z" } : Jvm.MethodName) prog_7_method_42_code (1 : Nat) (Option.some Jvm.ClassFile.FieldType.boolean)) ∈ gw := gw_of 980 (by decide +kernel) (by decide +kernel)
theorem m981 : (Jvm.Cond.methodLink "NumberLeasesModel" (150 : Nat) ({ cls := "NumberLeasesModel", name := "isTold", desc := "(III)Z" } : Jvm.MethodName)) ∈ gw := gw_of 981 (by decide +kernel) (by decide +kernel)
theorem m983 : (Jvm.Cond.instanceMethod ({ cls := "NumberLeasesModel", name := "isTold", desc := "(III)Z" } : Jvm.MethodName)) ∈ gw := gw_of 983 (by decide +kernel) (by decide +kernel)
theorem m984 : (Jvm.Cond.code ({ cls := "NumberLeasesModel", name := "isTold", desc := "(III)Z" } : Jvm.MethodName) prog_7_method_46_code (5 : Nat) (Option.some Jvm.ClassFile.FieldType.boolean)) ∈ gw := gw_of 984 (by decide +kernel) (by decide +kernel)
theorem m985 : (Jvm.Cond.methodLink "NumberLeasesModel" (144 : Nat) ({ cls := "NumberLeasesModel", name := "isWhole", desc := "(II)Z" } : Jvm.MethodName)) ∈ gw := gw_of 985 (by decide +kernel) (by decide +kernel)
theorem m987 : (Jvm.Cond.instanceMethod ({ cls := "NumberLeasesModel", name := "isWhole", desc := "(II)Z" } : Jvm.MethodName)) ∈ gw := gw_of 987 (by decide +kernel) (by decide +kernel)
theorem m988 : (Jvm.Cond.code ({ cls := "NumberLeasesModel", name := "isWhole", desc := "(II)Z" } : Jvm.MethodName) prog_7_method_45_code (3 : Nat) (Option.some Jvm.ClassFile.FieldType.boolean)) ∈ gw := gw_of 988 (by decide +kernel) (by decide +kernel)
theorem m989 : (Jvm.Cond.methodLink "NumberLeasesModel" (138 : Nat) ({ cls := "NumberLeasesModel", name := "begins", desc := "(III)Z" } : Jvm.MethodName)) ∈ gw := gw_of 989 (by decide +kernel) (by decide +kernel)
theorem m990 : (Jvm.Cond.static ({ cls := "NumberLeasesModel", name := "begins", desc := "(III)Z" } : Jvm.MethodName)) ∈ gw := gw_of 990 (by decide +kernel) (by decide +kernel)
theorem m991 : (Jvm.Cond.code ({ cls := "NumberLeasesModel", name := "begins", desc := "(III)Z" } : Jvm.MethodName) prog_7_method_44_code (3 : Nat) (Option.some Jvm.ClassFile.FieldType.boolean)) ∈ gw := gw_of 991 (by decide +kernel) (by decide +kernel)
theorem m992 : (Jvm.Cond.methodLink "NumberLeasesModel" (153 : Nat) ({ cls := "NumberLeasesModel", name := "isSign", desc := "(I)Z" } : Jvm.MethodName)) ∈ gw := gw_of 992 (by decide +kernel) (by decide +kernel)
theorem m994 : (Jvm.Cond.instanceMethod ({ cls := "NumberLeasesModel", name := "isSign", desc := "(I)Z" } : Jvm.MethodName)) ∈ gw := gw_of 994 (by decide +kernel) (by decide +kernel)
theorem m995 : (Jvm.Cond.code ({ cls := "NumberLeasesModel", name := "isSign", desc := "(I)Z" } : Jvm.MethodName) prog_7_method_43_code (2 : Nat) (Option.some Jvm.ClassFile.FieldType.boolean)) ∈ gw := gw_of 995 (by decide +kernel) (by decide +kernel)
theorem m996 : (Jvm.Cond.methodLink "NumberLeasesLaw" (126 : Nat) ({ cls := "NumberLeasesModel", name := "run", desc := "()I" } : Jvm.MethodName)) ∈ gw := gw_of 996 (by decide +kernel) (by decide +kernel)
theorem m997 : (Jvm.Cond.instanceMethod ({ cls := "NumberLeasesModel", name := "run", desc := "()I" } : Jvm.MethodName)) ∈ gw := gw_of 997 (by decide +kernel) (by decide +kernel)
theorem m998 : (Jvm.Cond.selects "NumberLeasesModel" ({ cls := "NumberLeasesModel", name := "run", desc := "()I" } : Jvm.MethodName) ({ cls := "NumberLeasesModel", name := "run", desc := "()I" } : Jvm.MethodName)) ∈ gw := gw_of 998 (by decide +kernel) (by decide +kernel)
theorem m999 : (Jvm.Cond.code ({ cls := "NumberLeasesModel", name := "run", desc := "()I" } : Jvm.MethodName) prog_7_method_51_code (2 : Nat) (Option.some Jvm.ClassFile.FieldType.int)) ∈ gw := gw_of 999 (by decide +kernel) (by decide +kernel)
theorem m1000 : (Jvm.Cond.methodLink "NumberLeasesModel" (162 : Nat) ({ cls := "NumberLeasesModel", name := "isDone", desc := "(I)Z" } : Jvm.MethodName)) ∈ gw := gw_of 1000 (by decide +kernel) (by decide +kernel)
theorem m1002 : (Jvm.Cond.instanceMethod ({ cls := "NumberLeasesModel", name := "isDone", desc := "(I)Z" } : Jvm.MethodName)) ∈ gw := gw_of 1002 (by decide +kernel) (by decide +kernel)
theorem m1003 : (Jvm.Cond.code ({ cls := "NumberLeasesModel", name := "isDone", desc := "(I)Z" } : Jvm.MethodName) prog_7_method_50_code (7 : Nat) (Option.some Jvm.ClassFile.FieldType.boolean)) ∈ gw := gw_of 1003 (by decide +kernel) (by decide +kernel)
theorem m1004 : (Jvm.Cond.methodLink "NumberLeasesLaw" (132 : Nat) ({ cls := "NumberLeasesModel", name := "number", desc := "(II)I" } : Jvm.MethodName)) ∈ gw := gw_of 1004 (by decide +kernel) (by decide +kernel)
theorem m1005 : (Jvm.Cond.instanceMethod ({ cls := "NumberLeasesModel", name := "number", desc := "(II)I" } : Jvm.MethodName)) ∈ gw := gw_of 1005 (by decide +kernel) (by decide +kernel)
theorem m1006 : (Jvm.Cond.selects "NumberLeasesModel" ({ cls := "NumberLeasesModel", name := "number", desc := "(II)I" } : Jvm.MethodName) ({ cls := "NumberLeasesModel", name := "number", desc := "(II)I" } : Jvm.MethodName)) ∈ gw := gw_of 1006 (by decide +kernel) (by decide +kernel)
theorem m1007 : (Jvm.Cond.code ({ cls := "NumberLeasesModel", name := "number", desc := "(II)I" } : Jvm.MethodName) prog_7_method_53_code (3 : Nat) (Option.some Jvm.ClassFile.FieldType.int)) ∈ gw := gw_of 1007 (by decide +kernel) (by decide +kernel)
theorem m1008 : (Jvm.Cond.methodLink "NumberLeasesModel" (165 : Nat) ({ cls := "NumberLeasesModel", name := "ofNumber", desc := "(II)I" } : Jvm.MethodName)) ∈ gw := gw_of 1008 (by decide +kernel) (by decide +kernel)
theorem m1010 : (Jvm.Cond.instanceMethod ({ cls := "NumberLeasesModel", name := "ofNumber", desc := "(II)I" } : Jvm.MethodName)) ∈ gw := gw_of 1010 (by decide +kernel) (by decide +kernel)
theorem m1011 : (Jvm.Cond.code ({ cls := "NumberLeasesModel", name := "ofNumber", desc := "(II)I" } : Jvm.MethodName) prog_7_method_52_code (4 : Nat) (Option.some Jvm.ClassFile.FieldType.int)) ∈ gw := gw_of 1011 (by decide +kernel) (by decide +kernel)
theorem m1012 : (Jvm.Cond.methodLink "NumberLeasesLaw" (135 : Nat) ({ cls := "NumberLeasesModel", name := "holder", desc := "(II)I" } : Jvm.MethodName)) ∈ gw := gw_of 1012 (by decide +kernel) (by decide +kernel)
theorem m1013 : (Jvm.Cond.instanceMethod ({ cls := "NumberLeasesModel", name := "holder", desc := "(II)I" } : Jvm.MethodName)) ∈ gw := gw_of 1013 (by decide +kernel) (by decide +kernel)
theorem m1014 : (Jvm.Cond.selects "NumberLeasesModel" ({ cls := "NumberLeasesModel", name := "holder", desc := "(II)I" } : Jvm.MethodName) ({ cls := "NumberLeasesModel", name := "holder", desc := "(II)I" } : Jvm.MethodName)) ∈ gw := gw_of 1014 (by decide +kernel) (by decide +kernel)
theorem m1015 : (Jvm.Cond.code ({ cls := "NumberLeasesModel", name := "holder", desc := "(II)I" } : Jvm.MethodName) prog_7_method_55_code (3 : Nat) (Option.some Jvm.ClassFile.FieldType.int)) ∈ gw := gw_of 1015 (by decide +kernel) (by decide +kernel)
theorem m1016 : (Jvm.Cond.methodLink "NumberLeasesModel" (168 : Nat) ({ cls := "NumberLeasesModel", name := "ofHolder", desc := "(II)I" } : Jvm.MethodName)) ∈ gw := gw_of 1016 (by decide +kernel) (by decide +kernel)
theorem m1018 : (Jvm.Cond.instanceMethod ({ cls := "NumberLeasesModel", name := "ofHolder", desc := "(II)I" } : Jvm.MethodName)) ∈ gw := gw_of 1018 (by decide +kernel) (by decide +kernel)
theorem m1019 : (Jvm.Cond.code ({ cls := "NumberLeasesModel", name := "ofHolder", desc := "(II)I" } : Jvm.MethodName) prog_7_method_54_code (11 : Nat) (Option.some Jvm.ClassFile.FieldType.int)) ∈ gw := gw_of 1019 (by decide +kernel) (by decide +kernel)
theorem m1020 : (Jvm.Cond.methodLink "NumberLeasesLaw" (138 : Nat) ({ cls := "NumberLeasesModel", name := "span", desc := "(II)I" } : Jvm.MethodName)) ∈ gw := gw_of 1020 (by decide +kernel) (by decide +kernel)
theorem m1021 : (Jvm.Cond.instanceMethod ({ cls := "NumberLeasesModel", name := "span", desc := "(II)I" } : Jvm.MethodName)) ∈ gw := gw_of 1021 (by decide +kernel) (by decide +kernel)
theorem m1022 : (Jvm.Cond.selects "NumberLeasesModel" ({ cls := "NumberLeasesModel", name := "span", desc := "(II)I" } : Jvm.MethodName) ({ cls := "NumberLeasesModel", name := "span", desc := "(II)I" } : Jvm.MethodName)) ∈ gw := gw_of 1022 (by decide +kernel) (by decide +kernel)
theorem m1023 : (Jvm.Cond.code ({ cls := "NumberLeasesModel", name := "span", desc := "(II)I" } : Jvm.MethodName) prog_7_method_57_code (3 : Nat) (Option.some Jvm.ClassFile.FieldType.int)) ∈ gw := gw_of 1023 (by decide +kernel) (by decide +kernel)
theorem m1024 : (Jvm.Cond.methodLink "NumberLeasesModel" (171 : Nat) ({ cls := "NumberLeasesModel", name := "spans", desc := "(II)I" } : Jvm.MethodName)) ∈ gw := gw_of 1024 (by decide +kernel) (by decide +kernel)
theorem m1026 : (Jvm.Cond.instanceMethod ({ cls := "NumberLeasesModel", name := "spans", desc := "(II)I" } : Jvm.MethodName)) ∈ gw := gw_of 1026 (by decide +kernel) (by decide +kernel)
theorem m1027 : (Jvm.Cond.code ({ cls := "NumberLeasesModel", name := "spans", desc := "(II)I" } : Jvm.MethodName) prog_7_method_56_code (8 : Nat) (Option.some Jvm.ClassFile.FieldType.int)) ∈ gw := gw_of 1027 (by decide +kernel) (by decide +kernel)
theorem m1028 : (Jvm.Cond.methodLink "NumberLeasesLaw" (141 : Nat) ({ cls := "NumberLeasesModel", name := "count", desc := "(I)I" } : Jvm.MethodName)) ∈ gw := gw_of 1028 (by decide +kernel) (by decide +kernel)
theorem m1029 : (Jvm.Cond.instanceMethod ({ cls := "NumberLeasesModel", name := "count", desc := "(I)I" } : Jvm.MethodName)) ∈ gw := gw_of 1029 (by decide +kernel) (by decide +kernel)
theorem m1030 : (Jvm.Cond.selects "NumberLeasesModel" ({ cls := "NumberLeasesModel", name := "count", desc := "(I)I" } : Jvm.MethodName) ({ cls := "NumberLeasesModel", name := "count", desc := "(I)I" } : Jvm.MethodName)) ∈ gw := gw_of 1030 (by decide +kernel) (by decide +kernel)
theorem m1031 : (Jvm.Cond.code ({ cls := "NumberLeasesModel", name := "count", desc := "(I)I" } : Jvm.MethodName) prog_7_method_60_code (2 : Nat) (Option.some Jvm.ClassFile.FieldType.int)) ∈ gw := gw_of 1031 (by decide +kernel) (by decide +kernel)
theorem m1032 : (Jvm.Cond.methodLink "NumberLeasesModel" (180 : Nat) ({ cls := "NumberLeasesModel", name := "counted", desc := "(I)I" } : Jvm.MethodName)) ∈ gw := gw_of 1032 (by decide +kernel) (by decide +kernel)
theorem m1034 : (Jvm.Cond.instanceMethod ({ cls := "NumberLeasesModel", name := "counted", desc := "(I)I" } : Jvm.MethodName)) ∈ gw := gw_of 1034 (by decide +kernel) (by decide +kernel)
theorem m1035 : (Jvm.Cond.code ({ cls := "NumberLeasesModel", name := "counted", desc := "(I)I" } : Jvm.MethodName) prog_7_method_59_code (2 : Nat) (Option.some Jvm.ClassFile.FieldType.int)) ∈ gw := gw_of 1035 (by decide +kernel) (by decide +kernel)
theorem m1036 : (Jvm.Cond.methodLink "NumberLeasesModel" (174 : Nat) ({ cls := "NumberLeasesModel", name := "atStage", desc := "([II)I" } : Jvm.MethodName)) ∈ gw := gw_of 1036 (by decide +kernel) (by decide +kernel)
theorem m1037 : (Jvm.Cond.static ({ cls := "NumberLeasesModel", name := "atStage", desc := "([II)I" } : Jvm.MethodName)) ∈ gw := gw_of 1037 (by decide +kernel) (by decide +kernel)
theorem m1038 : (Jvm.Cond.code ({ cls := "NumberLeasesModel", name := "atStage", desc := "([II)I" } : Jvm.MethodName) prog_7_method_16_code (4 : Nat) (Option.some Jvm.ClassFile.FieldType.int)) ∈ gw := gw_of 1038 (by decide +kernel) (by decide +kernel)
theorem m1039 : (Jvm.Cond.methodLink "NumberLeasesModel" (177 : Nat) ({ cls := "NumberLeasesModel", name := "sumOf", desc := "(III)I" } : Jvm.MethodName)) ∈ gw := gw_of 1039 (by decide +kernel) (by decide +kernel)
theorem m1041 : (Jvm.Cond.instanceMethod ({ cls := "NumberLeasesModel", name := "sumOf", desc := "(III)I" } : Jvm.MethodName)) ∈ gw := gw_of 1041 (by decide +kernel) (by decide +kernel)
theorem m1042 : (Jvm.Cond.code ({ cls := "NumberLeasesModel", name := "sumOf", desc := "(III)I" } : Jvm.MethodName) prog_7_method_58_code (6 : Nat) (Option.some Jvm.ClassFile.FieldType.int)) ∈ gw := gw_of 1042 (by decide +kernel) (by decide +kernel)
theorem m1043 : (Jvm.Cond.methodLink "NumberLeasesLaw" (144 : Nat) ({ cls := "NumberLeasesModel", name := "setting", desc := "(I)I" } : Jvm.MethodName)) ∈ gw := gw_of 1043 (by decide +kernel) (by decide +kernel)
theorem m1044 : (Jvm.Cond.instanceMethod ({ cls := "NumberLeasesModel", name := "setting", desc := "(I)I" } : Jvm.MethodName)) ∈ gw := gw_of 1044 (by decide +kernel) (by decide +kernel)
theorem m1045 : (Jvm.Cond.selects "NumberLeasesModel" ({ cls := "NumberLeasesModel", name := "setting", desc := "(I)I" } : Jvm.MethodName) ({ cls := "NumberLeasesModel", name := "setting", desc := "(I)I" } : Jvm.MethodName)) ∈ gw := gw_of 1045 (by decide +kernel) (by decide +kernel)
theorem m1046 : (Jvm.Cond.code ({ cls := "NumberLeasesModel", name := "setting", desc := "(I)I" } : Jvm.MethodName) prog_7_method_61_code (2 : Nat) (Option.some Jvm.ClassFile.FieldType.int)) ∈ gw := gw_of 1046 (by decide +kernel) (by decide +kernel)
theorem m1047 : (Jvm.Cond.methodLink "NumberLeasesLaw" (147 : Nat) ({ cls := "NumberLeasesModel", name := "whoAfter", desc := "(II)I" } : Jvm.MethodName)) ∈ gw := gw_of 1047 (by decide +kernel) (by decide +kernel)
theorem m1048 : (Jvm.Cond.instanceMethod ({ cls := "NumberLeasesModel", name := "whoAfter", desc := "(II)I" } : Jvm.MethodName)) ∈ gw := gw_of 1048 (by decide +kernel) (by decide +kernel)
theorem m1049 : (Jvm.Cond.selects "NumberLeasesModel" ({ cls := "NumberLeasesModel", name := "whoAfter", desc := "(II)I" } : Jvm.MethodName) ({ cls := "NumberLeasesModel", name := "whoAfter", desc := "(II)I" } : Jvm.MethodName)) ∈ gw := gw_of 1049 (by decide +kernel) (by decide +kernel)
theorem m1050 : (Jvm.Cond.code ({ cls := "NumberLeasesModel", name := "whoAfter", desc := "(II)I" } : Jvm.MethodName) prog_7_method_63_code (3 : Nat) (Option.some Jvm.ClassFile.FieldType.int)) ∈ gw := gw_of 1050 (by decide +kernel) (by decide +kernel)
theorem m1051 : (Jvm.Cond.methodLink "NumberLeasesModel" (186 : Nat) ({ cls := "NumberLeasesModel", name := "whoThen", desc := "(II)I" } : Jvm.MethodName)) ∈ gw := gw_of 1051 (by decide +kernel) (by decide +kernel)
theorem m1053 : (Jvm.Cond.instanceMethod ({ cls := "NumberLeasesModel", name := "whoThen", desc := "(II)I" } : Jvm.MethodName)) ∈ gw := gw_of 1053 (by decide +kernel) (by decide +kernel)
theorem m1054 : (Jvm.Cond.code ({ cls := "NumberLeasesModel", name := "whoThen", desc := "(II)I" } : Jvm.MethodName) prog_7_method_62_code (4 : Nat) (Option.some Jvm.ClassFile.FieldType.int)) ∈ gw := gw_of 1054 (by decide +kernel) (by decide +kernel)
theorem m1055 : (Jvm.Cond.methodLink "NumberLeasesModel" (183 : Nat) ({ cls := "NumberLeasesModel", name := "tries", desc := "()V" } : Jvm.MethodName)) ∈ gw := gw_of 1055 (by decide +kernel) (by decide +kernel)
theorem m1057 : (Jvm.Cond.instanceMethod ({ cls := "NumberLeasesModel", name := "tries", desc := "()V" } : Jvm.MethodName)) ∈ gw := gw_of 1057 (by decide +kernel) (by decide +kernel)
theorem m1058 : (Jvm.Cond.code ({ cls := "NumberLeasesModel", name := "tries", desc := "()V" } : Jvm.MethodName) prog_7_method_10_code (2 : Nat) (Option.none : Option Jvm.ClassFile.FieldType)) ∈ gw := gw_of 1058 (by decide +kernel) (by decide +kernel)
theorem m1059 : (Jvm.Cond.methodLink "NumberLeasesLaw" (150 : Nat) ({ cls := "NumberLeasesModel", name := "freeIn", desc := "(I)I" } : Jvm.MethodName)) ∈ gw := gw_of 1059 (by decide +kernel) (by decide +kernel)
theorem m1060 : (Jvm.Cond.instanceMethod ({ cls := "NumberLeasesModel", name := "freeIn", desc := "(I)I" } : Jvm.MethodName)) ∈ gw := gw_of 1060 (by decide +kernel) (by decide +kernel)
theorem m1061 : (Jvm.Cond.selects "NumberLeasesModel" ({ cls := "NumberLeasesModel", name := "freeIn", desc := "(I)I" } : Jvm.MethodName) ({ cls := "NumberLeasesModel", name := "freeIn", desc := "(I)I" } : Jvm.MethodName)) ∈ gw := gw_of 1061 (by decide +kernel) (by decide +kernel)
theorem m1062 : (Jvm.Cond.code ({ cls := "NumberLeasesModel", name := "freeIn", desc := "(I)I" } : Jvm.MethodName) prog_7_method_65_code (2 : Nat) (Option.some Jvm.ClassFile.FieldType.int)) ∈ gw := gw_of 1062 (by decide +kernel) (by decide +kernel)
theorem m1063 : (Jvm.Cond.methodLink "NumberLeasesModel" (189 : Nat) ({ cls := "NumberLeasesModel", name := "freeThen", desc := "(I)I" } : Jvm.MethodName)) ∈ gw := gw_of 1063 (by decide +kernel) (by decide +kernel)
theorem m1065 : (Jvm.Cond.instanceMethod ({ cls := "NumberLeasesModel", name := "freeThen", desc := "(I)I" } : Jvm.MethodName)) ∈ gw := gw_of 1065 (by decide +kernel) (by decide +kernel)
theorem m1066 : (Jvm.Cond.code ({ cls := "NumberLeasesModel", name := "freeThen", desc := "(I)I" } : Jvm.MethodName) prog_7_method_64_code (3 : Nat) (Option.some Jvm.ClassFile.FieldType.int)) ∈ gw := gw_of 1066 (by decide +kernel) (by decide +kernel)
theorem m1067 : (Jvm.Cond.methodLink "NumberLeasesLaw" (153 : Nat) ({ cls := "NumberLeasesModel", name := "wishedIn", desc := "(II)I" } : Jvm.MethodName)) ∈ gw := gw_of 1067 (by decide +kernel) (by decide +kernel)
theorem m1068 : (Jvm.Cond.instanceMethod ({ cls := "NumberLeasesModel", name := "wishedIn", desc := "(II)I" } : Jvm.MethodName)) ∈ gw := gw_of 1068 (by decide +kernel) (by decide +kernel)
theorem m1069 : (Jvm.Cond.selects "NumberLeasesModel" ({ cls := "NumberLeasesModel", name := "wishedIn", desc := "(II)I" } : Jvm.MethodName) ({ cls := "NumberLeasesModel", name := "wishedIn", desc := "(II)I" } : Jvm.MethodName)) ∈ gw := gw_of 1069 (by decide +kernel) (by decide +kernel)
theorem m1070 : (Jvm.Cond.code ({ cls := "NumberLeasesModel", name := "wishedIn", desc := "(II)I" } : Jvm.MethodName) prog_7_method_67_code (3 : Nat) (Option.some Jvm.ClassFile.FieldType.int)) ∈ gw := gw_of 1070 (by decide +kernel) (by decide +kernel)
theorem m1071 : (Jvm.Cond.methodLink "NumberLeasesModel" (192 : Nat) ({ cls := "NumberLeasesModel", name := "wishedThen", desc := "(II)I" } : Jvm.MethodName)) ∈ gw := gw_of 1071 (by decide +kernel) (by decide +kernel)
theorem m1073 : (Jvm.Cond.instanceMethod ({ cls := "NumberLeasesModel", name := "wishedThen", desc := "(II)I" } : Jvm.MethodName)) ∈ gw := gw_of 1073 (by decide +kernel) (by decide +kernel)
theorem m1074 : (Jvm.Cond.code ({ cls := "NumberLeasesModel", name := "wishedThen", desc := "(II)I" } : Jvm.MethodName) prog_7_method_66_code (4 : Nat) (Option.some Jvm.ClassFile.FieldType.int)) ∈ gw := gw_of 1074 (by decide +kernel) (by decide +kernel)
theorem m1075 : (Jvm.Cond.methodLink "NumberLeasesLaw" (157 : Nat) ({ cls := "NumberLeasesModel", name := "fullness", desc := "()I" } : Jvm.MethodName)) ∈ gw := gw_of 1075 (by decide +kernel) (by decide +kernel)
theorem m1076 : (Jvm.Cond.instanceMethod ({ cls := "NumberLeasesModel", name := "fullness", desc := "()I" } : Jvm.MethodName)) ∈ gw := gw_of 1076 (by decide +kernel) (by decide +kernel)
theorem m1077 : (Jvm.Cond.selects "NumberLeasesModel" ({ cls := "NumberLeasesModel", name := "fullness", desc := "()I" } : Jvm.MethodName) ({ cls := "NumberLeasesModel", name := "fullness", desc := "()I" } : Jvm.MethodName)) ∈ gw := gw_of 1077 (by decide +kernel) (by decide +kernel)
theorem m1078 : (Jvm.Cond.code ({ cls := "NumberLeasesModel", name := "fullness", desc := "()I" } : Jvm.MethodName) prog_7_method_68_code (2 : Nat) (Option.some Jvm.ClassFile.FieldType.int)) ∈ gw := gw_of 1078 (by decide +kernel) (by decide +kernel)
theorem m1079 : (Jvm.Cond.methodLink "NumberLeasesModel" (195 : Nat) ({ cls := "java/lang/Float", name := "floatToIntBits", desc := "(F)I" } : Jvm.MethodName)) ∈ gw := gw_of 1079 (by decide +kernel) (by decide +kernel)
theorem m1080 : (Jvm.Cond.static ({ cls := "java/lang/Float", name := "floatToIntBits", desc := "(F)I" } : Jvm.MethodName)) ∈ gw := gw_of 1080 (by decide +kernel) (by decide +kernel)
theorem m1081 : (Jvm.Cond.code ({ cls := "java/lang/Float", name := "floatToIntBits", desc := "(F)I" } : Jvm.MethodName) prog_10_method_24_code (1 : Nat) (Option.some Jvm.ClassFile.FieldType.int)) ∈ gw := gw_of 1081 (by decide +kernel) (by decide +kernel)
theorem m1082 : (Jvm.Cond.methodLink "java/lang/Float" (59 : Nat) ({ cls := "java/lang/Float", name := "isNaN", desc := "(F)Z" } : Jvm.MethodName)) ∈ gw := gw_of 1082 (by decide +kernel) (by decide +kernel)
theorem m1083 : (Jvm.Cond.static ({ cls := "java/lang/Float", name := "isNaN", desc := "(F)Z" } : Jvm.MethodName)) ∈ gw := gw_of 1083 (by decide +kernel) (by decide +kernel)
theorem m1084 : (Jvm.Cond.code ({ cls := "java/lang/Float", name := "isNaN", desc := "(F)Z" } : Jvm.MethodName) prog_10_method_6_code (1 : Nat) (Option.some Jvm.ClassFile.FieldType.boolean)) ∈ gw := gw_of 1084 (by decide +kernel) (by decide +kernel)
theorem m1085 : (Jvm.Cond.methodLink "java/lang/Float" (74 : Nat) ({ cls := "java/lang/Float", name := "floatToRawIntBits", desc := "(F)I" } : Jvm.MethodName)) ∈ gw := gw_of 1085 (by decide +kernel) (by decide +kernel)
theorem m1086 : (Jvm.Cond.static ({ cls := "java/lang/Float", name := "floatToRawIntBits", desc := "(F)I" } : Jvm.MethodName)) ∈ gw := gw_of 1086 (by decide +kernel) (by decide +kernel)
theorem m1087 : (Jvm.Cond.native ({ cls := "java/lang/Float", name := "floatToRawIntBits", desc := "(F)I" } : Jvm.MethodName)) ∈ gw := gw_of 1087 (by decide +kernel) (by decide +kernel)
theorem m1088 : (Jvm.Cond.constant "java/lang/Float" (77 : Nat) (2143289344 : Int32)) ∈ gw := gw_of 1088 (by decide +kernel) (by decide +kernel)
theorem m1089 : (Jvm.Cond.methodLink "NumberLeasesLaw" (161 : Nat) ({ cls := "NumberLeasesModel", name := "scatter", desc := "()I" } : Jvm.MethodName)) ∈ gw := gw_of 1089 (by decide +kernel) (by decide +kernel)
theorem m1090 : (Jvm.Cond.instanceMethod ({ cls := "NumberLeasesModel", name := "scatter", desc := "()I" } : Jvm.MethodName)) ∈ gw := gw_of 1090 (by decide +kernel) (by decide +kernel)
theorem m1091 : (Jvm.Cond.selects "NumberLeasesModel" ({ cls := "NumberLeasesModel", name := "scatter", desc := "()I" } : Jvm.MethodName) ({ cls := "NumberLeasesModel", name := "scatter", desc := "()I" } : Jvm.MethodName)) ∈ gw := gw_of 1091 (by decide +kernel) (by decide +kernel)
theorem m1092 : (Jvm.Cond.code ({ cls := "NumberLeasesModel", name := "scatter", desc := "()I" } : Jvm.MethodName) prog_7_method_69_code (2 : Nat) (Option.some Jvm.ClassFile.FieldType.int)) ∈ gw := gw_of 1092 (by decide +kernel) (by decide +kernel)
theorem m1093 : (Jvm.Cond.methodLink "NumberLeasesLaw" (166 : Nat) ({ cls := "NumberLeasesModel", name := "meanHeld", desc := "()D" } : Jvm.MethodName)) ∈ gw := gw_of 1093 (by decide +kernel) (by decide +kernel)
theorem m1094 : (Jvm.Cond.instanceMethod ({ cls := "NumberLeasesModel", name := "meanHeld", desc := "()D" } : Jvm.MethodName)) ∈ gw := gw_of 1094 (by decide +kernel) (by decide +kernel)
theorem m1095 : (Jvm.Cond.selects "NumberLeasesModel" ({ cls := "NumberLeasesModel", name := "meanHeld", desc := "()D" } : Jvm.MethodName) ({ cls := "NumberLeasesModel", name := "meanHeld", desc := "()D" } : Jvm.MethodName)) ∈ gw := gw_of 1095 (by decide +kernel) (by decide +kernel)
theorem m1096 : (Jvm.Cond.code ({ cls := "NumberLeasesModel", name := "meanHeld", desc := "()D" } : Jvm.MethodName) prog_7_method_70_code (2 : Nat) (Option.some Jvm.ClassFile.FieldType.double)) ∈ gw := gw_of 1096 (by decide +kernel) (by decide +kernel)
theorem m1097 : (Jvm.Cond.methodLink "NumberLeasesLaw" (171 : Nat) ({ cls := "NumberLeasesModel", name := "digest", desc := "()J" } : Jvm.MethodName)) ∈ gw := gw_of 1097 (by decide +kernel) (by decide +kernel)
theorem m1098 : (Jvm.Cond.instanceMethod ({ cls := "NumberLeasesModel", name := "digest", desc := "()J" } : Jvm.MethodName)) ∈ gw := gw_of 1098 (by decide +kernel) (by decide +kernel)
theorem m1099 : (Jvm.Cond.selects "NumberLeasesModel" ({ cls := "NumberLeasesModel", name := "digest", desc := "()J" } : Jvm.MethodName) ({ cls := "NumberLeasesModel", name := "digest", desc := "()J" } : Jvm.MethodName)) ∈ gw := gw_of 1099 (by decide +kernel) (by decide +kernel)
theorem m1100 : (Jvm.Cond.code ({ cls := "NumberLeasesModel", name := "digest", desc := "()J" } : Jvm.MethodName) prog_7_method_71_code (5 : Nat) (Option.some Jvm.ClassFile.FieldType.long)) ∈ gw := gw_of 1100 (by decide +kernel) (by decide +kernel)
theorem m1101 : (Jvm.Cond.constantLong "NumberLeasesModel" (201 : Nat) (2579 : Int64)) ∈ gw := gw_of 1101 (by decide +kernel) (by decide +kernel)
theorem m1102 : (Jvm.Cond.constantLong "NumberLeasesModel" (203 : Nat) (31 : Int64)) ∈ gw := gw_of 1102 (by decide +kernel) (by decide +kernel)
theorem m1103 : (Jvm.Cond.methodLink "NumberLeasesModel" (205 : Nat) ({ cls := "NumberLeasesModel", name := "fullness", desc := "()I" } : Jvm.MethodName)) ∈ gw := gw_of 1103 (by decide +kernel) (by decide +kernel)
theorem m1104 : (Jvm.Cond.methodLink "NumberLeasesModel" (209 : Nat) ({ cls := "NumberLeasesModel", name := "scatter", desc := "()I" } : Jvm.MethodName)) ∈ gw := gw_of 1104 (by decide +kernel) (by decide +kernel)
theorem m1105 : (Jvm.Cond.methodLink "NumberLeasesModel" (212 : Nat) ({ cls := "NumberLeasesModel", name := "meanHeld", desc := "()D" } : Jvm.MethodName)) ∈ gw := gw_of 1105 (by decide +kernel) (by decide +kernel)
theorem m1106 : (Jvm.Cond.methodLink "NumberLeasesModel" (216 : Nat) ({ cls := "java/lang/Double", name := "doubleToLongBits", desc := "(D)J" } : Jvm.MethodName)) ∈ gw := gw_of 1106 (by decide +kernel) (by decide +kernel)
theorem m1107 : (Jvm.Cond.static ({ cls := "java/lang/Double", name := "doubleToLongBits", desc := "(D)J" } : Jvm.MethodName)) ∈ gw := gw_of 1107 (by decide +kernel) (by decide +kernel)
theorem m1108 : (Jvm.Cond.code ({ cls := "java/lang/Double", name := "doubleToLongBits", desc := "(D)J" } : Jvm.MethodName) prog_8_method_23_code (2 : Nat) (Option.some Jvm.ClassFile.FieldType.long)) ∈ gw := gw_of 1108 (by decide +kernel) (by decide +kernel)
theorem m1109 : (Jvm.Cond.methodLink "java/lang/Double" (122 : Nat) ({ cls := "java/lang/Double", name := "isNaN", desc := "(D)Z" } : Jvm.MethodName)) ∈ gw := gw_of 1109 (by decide +kernel) (by decide +kernel)
theorem m1110 : (Jvm.Cond.static ({ cls := "java/lang/Double", name := "isNaN", desc := "(D)Z" } : Jvm.MethodName)) ∈ gw := gw_of 1110 (by decide +kernel) (by decide +kernel)
theorem m1111 : (Jvm.Cond.code ({ cls := "java/lang/Double", name := "isNaN", desc := "(D)Z" } : Jvm.MethodName) prog_8_method_6_code (2 : Nat) (Option.some Jvm.ClassFile.FieldType.boolean)) ∈ gw := gw_of 1111 (by decide +kernel) (by decide +kernel)
theorem m1112 : (Jvm.Cond.methodLink "java/lang/Double" (134 : Nat) ({ cls := "java/lang/Double", name := "doubleToRawLongBits", desc := "(D)J" } : Jvm.MethodName)) ∈ gw := gw_of 1112 (by decide +kernel) (by decide +kernel)
theorem m1113 : (Jvm.Cond.static ({ cls := "java/lang/Double", name := "doubleToRawLongBits", desc := "(D)J" } : Jvm.MethodName)) ∈ gw := gw_of 1113 (by decide +kernel) (by decide +kernel)
theorem m1114 : (Jvm.Cond.native ({ cls := "java/lang/Double", name := "doubleToRawLongBits", desc := "(D)J" } : Jvm.MethodName)) ∈ gw := gw_of 1114 (by decide +kernel) (by decide +kernel)
theorem m1115 : (Jvm.Cond.constantLong "java/lang/Double" (137 : Nat) (9221120237041090560 : Int64)) ∈ gw := gw_of 1115 (by decide +kernel) (by decide +kernel)
theorem m1116 : (Jvm.Cond.arrayClass Jvm.ClassFile.FieldType.long) ∈ gw := gw_of 1116 (by decide +kernel) (by decide +kernel)
theorem iX1 : ∀ w ∈ wsX10, w ∈ gw := fun w h => List.mem_filter.mpr ((by decide +kernel : ∀ w ∈ wsX10, w ∈ lw_tbl ∧ goodWord w = true) w h)
theorem iX2 : ∀ w ∈ wsX20, w ∈ gw := fun w h => List.mem_filter.mpr ((by decide +kernel : ∀ w ∈ wsX20, w ∈ lw_tbl ∧ goodWord w = true) w h)
theorem iX3 : ∀ w ∈ wsX30, w ∈ gw := fun w h => List.mem_filter.mpr ((by decide +kernel : ∀ w ∈ wsX30, w ∈ lw_tbl ∧ goodWord w = true) w h)
theorem iX4 : ∀ w ∈ wsX40, w ∈ gw := fun w h => List.mem_filter.mpr ((by decide +kernel : ∀ w ∈ wsX40, w ∈ lw_tbl ∧ goodWord w = true) w h)
theorem iX5 : ∀ w ∈ wsX50, w ∈ gw := fun w h => List.mem_filter.mpr ((by decide +kernel : ∀ w ∈ wsX50, w ∈ lw_tbl ∧ goodWord w = true) w h)
end
section
/-! THE WORLD: objects are numbered o, their cells j (0 the object itself, then its arrays of ints), at the address ad E o j. A state is S o j i; the rest: which pool each saved place holds, the law's long, how many exceptions were made.
objects: 0 pool, 1 ahead, 2..7 the kept pools, 8 orders, 9 saves, 10 the model, 11 the NumberLeases, 12 the law's row of longs -/
abbrev jO : Type := Nat → Nat → Int32
abbrev jS : Type := Nat → jO
abbrev jX : Type := (Nat → Nat) × Int64 × Nat
abbrev jG : Type := jS × jX
abbrev jE : Type := Nat × va_G × (ClassId × ClassId × ClassId) × (Nat × Nat)
def aln (o j : Nat) : Nat :=
  if j = 0 then 0
  else if o < 8 then (if j = 1 then 4 else if j < 8 then 64 else if j < 10 then 192 else if j < 13 then 8 else 0)
  else if o = 8 then (if j = 1 then 60 else 0)
  else if o = 10 then (if j < 3 then 800 else if j = 3 then 4800 else if j = 4 then 60 else if j = 5 then 124 else 0)
  else 0
def wid (o : Nat) : Nat := if o < 8 then 13 else if o = 8 then 2 else if o = 9 then 2 else if o = 10 then 6 else if o < 13 then 1 else 0
def bas (o : Nat) : Nat := if o < 2 then 13 * o + 1 else if o < 8 then 13 * o + 3 else if o = 8 then 107 else if o = 9 then 27 else if o = 10 then 109 else if o = 11 then 0 else 115
def lcs : List (Nat × Nat) := [11, 0, 1, 9, 2, 3, 4, 5, 6, 7, 8, 10, 12].flatMap fun o => (List.range (wid o)).map fun j => (o, j)
def loc (k : Nat) : Nat × Nat := lcs.getD k (99, 0)
theorem loc_ok : ∀ k, k < 116 → bas (loc k).1 + (loc k).2 = k ∧ (loc k).2 < wid (loc k).1 := by decide +kernel
theorem loc_off : ∀ o, o < 13 → ∀ j, j < wid o → loc (bas o + j) = (o, j) ∧ bas o + j < 116 := by decide +kernel
def ad (E : jE) (o j : Nat) : Nat := E.1 + (bas o + j)
def jA (E : jE) : Nat → Prop := fun q => E.1 ≤ q
def jtys (E : jE) : List (ClassId × FieldType) := [(E.2.2.1.1, .int), (E.2.2.1.2.1, .long), (E.2.2.1.2.2, .object RX2)]
def poolF (E : jE) (o : Nat) (P : jO) : List Value := [.int (P 0 0), .int (P 0 1), .int (P 0 2), .int (P 0 3), .ref (ad E o 1), .ref (ad E o 2), .ref (ad E o 3), .ref (ad E o 4), .ref (ad E o 5), .ref (ad E o 6), .ref (ad E o 7), .ref (ad E o 8), .ref (ad E o 9), .ref (ad E o 10), .ref (ad E o 11), .ref (ad E o 12)]
def ordF (E : jE) (P : jO) : List Value := [.ref (ad E 8 1), .int (P 0 0), .int (P 0 1), .int (P 0 2), .int (P 0 3), .int (P 0 4), .int (P 0 5), .int (P 0 6)]
def savF (E : jE) (P : jO) : List Value := [.ref (ad E 9 1), .int (P 0 0)]
def modF (E : jE) (P : jO) : List Value := [.ref (ad E 10 1), .ref (ad E 10 2), .ref (ad E 10 3), .int (P 0 0), .ref (ad E 10 4), .int (P 0 1), .int (P 0 2), .int (P 0 3), .int (P 0 4), .int (P 0 5), .ref (ad E 10 5), .int (P 0 6)]
def nulF (E : jE) : List Value := [.ref (ad E 0 0), .ref (ad E 1 0), .ref (ad E 9 0), .ref (ad E 8 0)]
def scal (E : jE) (k : jX) (o : Nat) (P : jO) (j : Nat) : va_E :=
  if o < 8 then .inr (1, poolF E o P)
  else if o = 8 then .inr (0, ordF E P)
  else if o = 9 then (if j = 0 then .inr (2, savF E P) else .inl (E.2.2.1.2.2, 6, .inr (.inr (.inr (.inr fun i => some (ad E (k.1 i) 0))))))
  else if o = 10 then .inr (4, modF E P)
  else if o = 11 then .inr (3, nulF E)
  else .inl (E.2.2.1.2.1, 1, .inr (.inl fun _ => k.2.1))
def cel (E : jE) (k : jX) (o : Nat) (P : jO) (j : Nat) : va_E := if 0 < aln o j then .inl (E.2.2.1.1, aln o j, .inl (P j)) else scal E k o P j
def wld (E : jE) (G : jG) : va_W := (List.range 116).map fun q => (E.1 + q, cel E G.2 (loc q).1 (G.1 (loc q).1) (loc q).2)
def setO (S : jS) (o : Nat) (P : jO) : jS := fun o' => if o' = o then P else S o'
theorem setO_at (S : jS) (o : Nat) (P : jO) : setO S o P o = P := by simp [setO]
theorem setO_ne {S : jS} {o o' : Nat} {P : jO} (h : o' ≠ o) : setO S o P o' = S o' := by simp [setO, h]
theorem setO_self (S : jS) (o : Nat) : setO S o (S o) = S := by
  funext o'
  by_cases h : o' = o
  · subst h; simp [setO]
  · simp [setO, h]
theorem setO_two (S : jS) (o : Nat) (P P' : jO) : setO (setO S o P) o P' = setO S o P' := by
  funext o'
  by_cases h : o' = o <;> simp [setO, h]
def putA (P : jO) (j : Nat) (f : Nat → Int32) : jO := fun j' => if j' = j then f else P j'
def put (P : jO) (j i : Nat) (v : Int32) : jO := putA P j (upd (P j) i v)
theorem putA_at (P : jO) (j : Nat) (f : Nat → Int32) : putA P j f j = f := by simp [putA]
theorem putA_ne {P : jO} {j j' : Nat} {f : Nat → Int32} (h : j' ≠ j) : putA P j f j' = P j' := by simp [putA, h]
theorem put_ne {P : jO} {j j' i : Nat} {v : Int32} (h : j' ≠ j) : put P j i v j' = P j' := putA_ne h
theorem put_at (P : jO) (j i : Nat) (v : Int32) (i' : Nat) : put P j i v j i' = if i' = i then v else P j i' := by simp [put, putA, upd]
theorem put_app (P : jO) (j i : Nat) (v : Int32) (j' i' : Nat) : put P j i v j' i' = if j' = j ∧ i' = i then v else P j' i' := by
  by_cases h : j' = j
  · subst h; simp [put_at]
  · simp [put_ne h, h]
theorem wld_len (E : jE) (G : jG) : (wld E G).length = 116 := by simp [wld]
theorem wld_get (E : jE) (S : jS) (k : jX) {o j : Nat} (ho : o < 13) (hj : j < wid o) : (wld E (S, k))[bas o + j]? = some (ad E o j, cel E k o (S o) j) := by
  obtain ⟨h1, h2⟩ := loc_off o ho j hj
  simp [wld, h2, h1, ad]
theorem wld_at (E : jE) (G : jG) {q : Nat} (hq : q < 116) : (wld E G)[q]? = some (E.1 + q, cel E G.2 (loc q).1 (G.1 (loc q).1) (loc q).2) := by
  simp [wld, hq]
theorem wld_set (E : jE) (S : jS) (k : jX) {o j : Nat} (ho : o < 13) (hj : j < wid o) (P P' : jO) (e : va_E) (he : cel E k o P' j = e) (hr : ∀ j', j' < wid o → j' ≠ j → cel E k o P' j' = cel E k o P j') :
    (wld E (setO S o P, k)).set (bas o + j) (ad E o j, e) = wld E (setO S o P', k) := by
  obtain ⟨h1, h2⟩ := loc_off o ho j hj
  apply List.ext_getElem?
  intro i
  by_cases hi : i < 116
  · by_cases hq : i = bas o + j
    · subst hq
      rw [List.getElem?_set_self (by rw [wld_len]; exact hi), wld_get E _ k ho hj, setO_at, he]
    · rw [List.getElem?_set_ne (Ne.symm hq), wld_at E _ hi, wld_at E _ hi]
      congr 2
      show cel E k (loc i).1 (setO S o P (loc i).1) (loc i).2 = cel E k (loc i).1 (setO S o P' (loc i).1) (loc i).2
      by_cases h3 : (loc i).1 = o
      · have h4 : (loc i).2 ≠ j := by
          intro h
          have h5 := (loc_ok i hi).1
          rw [h3, h] at h5
          exact hq h5.symm
        have h6 := (loc_ok i hi).2
        rw [h3] at h6
        rw [h3, setO_at, setO_at, hr _ h6 h4]
      · rw [setO_ne h3, setO_ne h3]
  · rw [List.getElem?_eq_none (by rw [List.length_set, wld_len]; omega), List.getElem?_eq_none (by rw [wld_len]; omega)]
theorem wld_D (E : jE) (G : jG) : va_D (jA E) (wld E G) := by
  have key : ∀ (i : Nat) (p : Nat × va_E), (wld E G)[i]? = some p → p.1 = E.1 + i := by
    intro i p h
    have hi : i < 116 := by
      have := (List.getElem?_eq_some_iff.mp h).1
      rwa [wld_len] at this
    rw [wld_at E G hi] at h
    rw [← Option.some.inj h]
  refine ⟨fun i j p q hi hj hpq => ?_, fun k q hk => ?_⟩
  · have h1 := key i p hi
    have h2 := key j q hj
    omega
  · have h1 := key k q hk
    show E.1 ≤ q.1
    omega
theorem aln_0 (o : Nat) : aln o 0 = 0 := by simp [aln]
theorem cel_arr {E : jE} {k : jX} {o j : Nat} {P : jO} (h : 0 < aln o j) : cel E k o P j = .inl (E.2.2.1.1, aln o j, .inl (P j)) := by simp [cel, h]
theorem cel_0 (E : jE) (k : jX) (o : Nat) (P : jO) : cel E k o P 0 = scal E k o P 0 := by simp [cel, aln_0]
theorem aln_pos : ∀ o, o < 13 → ∀ j, j < wid o → j ≠ 0 → o ≠ 9 → 0 < aln o j := by decide +kernel
theorem aln_wid : ∀ o, o < 13 → ∀ j, 0 < aln o j → j < wid o := by
  intro o ho j h
  unfold aln at h
  unfold wid
  repeat' split at h
  all_goals (repeat' split) <;> omega
theorem scal_put {E : jE} {k : jX} {o : Nat} {P P' : jO} (h : P' 0 = P 0) (j : Nat) : scal E k o P' j = scal E k o P j := by
  unfold scal poolF ordF savF modF
  rw [h]
theorem scal_P {E : jE} {k : jX} {o : Nat} {P P' : jO} {j : Nat} (ho : o < 13) (hj : j < wid o) (h0 : j ≠ 0) (h : ¬ 0 < aln o j) : scal E k o P' j = scal E k o P j := by
  have h9 : o = 9 := by
    rcases Nat.decEq o 9 with q | q
    · exact absurd (aln_pos o ho j hj h0 q) h
    · exact q
  subst h9
  simp [scal, h0]
theorem wld_arr (E : jE) (S : jS) (k : jX) {o j : Nat} (ho : o < 13) (h : 0 < aln o j) (P : jO) (f : Nat → Int32) :
    (wld E (setO S o P, k)).set (bas o + j) (ad E o j, .inl (E.2.2.1.1, aln o j, .inl f)) = wld E (setO S o (putA P j f), k) := by
  have h0 : j ≠ 0 := by
    intro q
    subst q
    simp [aln_0] at h
  refine wld_set E S k ho (aln_wid o ho j h) P _ _ (by rw [cel_arr h, putA_at]) (fun j' _ hj' => ?_)
  unfold cel
  rw [putA_ne hj', scal_put (putA_ne (Ne.symm h0))]
theorem wld_fld (E : jE) (S : jS) (k : jX) {o : Nat} (ho : o < 13) (P : jO) (i : Nat) (v : Int32) (fs : va_E) (hf : scal E k o (put P 0 i v) 0 = fs) :
    (wld E (setO S o P, k)).set (bas o + 0) (ad E o 0, fs) = wld E (setO S o (put P 0 i v), k) := by
  have hw : 0 < wid o := by
    unfold wid
    repeat' split
    all_goals omega
  refine wld_set E S k ho hw P _ _ (by rw [cel_0, hf]) (fun j' hw' hj' => ?_)
  unfold cel
  rw [put_ne hj']
  split
  · rfl
  · exact scal_P ho hw' hj' ‹_›
end
