/-! CONSTRUCTORS: a world that grows; its cells lie one behind the other from E.1 on. J xs nc ns pc L st: from the frame at pc with locals L and stack st, the world pre ++ xs, nc cells and ns slots made by this call so far, the machine comes to the method's end -/
def wE (E : jE) (es : List va_E) : va_W := es.mapIdx fun k e => (E.1 + k, e)
theorem wE_get (E : jE) (es : List va_E) (k : Nat) : (wE E es)[k]? = es[k]?.map fun e => (E.1 + k, e) := by simp [wE]
theorem wE_set (E : jE) (es : List va_E) (k : Nat) (e : va_E) : (wE E es).set k (E.1 + k, e) = wE E (es.set k e) := by
  apply List.ext_getElem?
  intro i
  rw [wE_get, List.getElem?_set, List.getElem?_set, wE_get]
  have hl : (wE E es).length = es.length := by simp [wE]
  rw [hl]
  by_cases h : k = i
  · subst h
    simp only [if_true]
    split <;> rfl
  · rw [if_neg h, if_neg h]
theorem wE_app (E : jE) (es : List va_E) (e : va_E) : wE E (es ++ [e]) = wE E es ++ [(E.1 + es.length, e)] := by simp [wE]
theorem wE_D (E : jE) (es : List va_E) : va_D (jA E) (wE E es) := by
  have key : ∀ (i : Nat) (p : Nat × va_E), (wE E es)[i]? = some p → p.1 = E.1 + i := by
    intro i p h
    rw [wE_get, Option.map_eq_some_iff] at h
    obtain ⟨e, -, rfl⟩ := h
    rfl
  refine ⟨fun i j p q hi hj hpq => ?_, fun k q hk => ?_⟩
  · have h1 := key i p hi
    have h2 := key j q hj
    omega
  · have h1 := key k q hk
    show E.1 ≤ q.1
    omega
theorem wE_at {E : jE} {pre xs : List va_E} {j : Nat} {e : va_E} (h : xs[j]? = some e) : (wE E (pre ++ xs))[pre.length + j]? = some (E.1 + (pre.length + j), e) := by
  rw [wE_get, List.getElem?_append_right (Nat.le_add_right _ _), Nat.add_sub_cancel_left, h]
  rfl
theorem wE_put {E : jE} {pre xs : List va_E} {j : Nat} {e : va_E} : (wE E (pre ++ xs)).set (pre.length + j) (E.1 + (pre.length + j), e) = wE E (pre ++ xs.set j e) := by
  rw [wE_set, List.set_append_right _ _ (Nat.le_add_right _ _), Nat.add_sub_cancel_left]
theorem wE_push {E : jE} {pre xs : List va_E} {e : va_E} {D : va_G} {H H1 : Heap} (hP : va_P D vwCl (wE E (pre ++ xs)) H) (hz : H.size = E.1 + (pre.length + xs.length)) (o1 : ∀ q, q < E.1 + (pre.length + xs.length) → H1[q]? = H[q]?) (he : va_at D vwCl (E.1 + (pre.length + xs.length), e) H1) : va_P D vwCl (wE E (pre ++ (xs ++ [e]))) H1 := by
  rw [← List.append_assoc, wE_app, List.length_append]
  refine (hP.kept fun k q hk => o1 q.1 (by have := (hP k q hk).lt; omega)).app fun k q hk => ?_
  have hk1 : k < 1 := (List.getElem?_eq_some_iff.mp hk).1
  have hk0 : k = 0 := by omega
  subst hk0
  cases hk
  exact he
theorem S_trans {A : Nat → Prop} {H0 H H1 : Heap} {locs locs1 : List Loc} (h : va_S A H0 H locs) (h1 : va_S A H H1 locs1) : va_S A H0 H1 locs1 := ⟨Nat.le_trans h.1 h1.1, fun q a b => (h1.2.1 q (Nat.lt_of_lt_of_le a h.1) b).trans (h.2.1 q a b), h1.2.2⟩
theorem S_self {A : Nat → Prop} {H0 H : Heap} {locs : List Loc} (h : va_S A H0 H locs) : va_S A H H locs := ⟨Nat.le_refl _, fun _ _ _ => rfl, h.2.2⟩
theorem S_push {A : Nat → Prop} {H0 H H1 : Heap} {locs : List Loc} (h : va_S A H0 H locs) (z : H.size ≤ H1.size) (o : ∀ q, q < H.size → H1[q]? = H[q]?) : va_S A H0 H1 locs := ⟨Nat.le_trans h.1 z, fun q a b => (o q (Nat.lt_of_lt_of_le a h.1)).trans (h.2.1 q a b), h.2.2⟩
theorem W_sized {p : Program} {l : Launch} {e : Env} {R : Room} {s : State} {m : MethodId} {args : Array Value} {below : List Frame} {meth : Method} {c : Code} {H : Heap} {locs : List Loc} {cells slots : Nat} {Q : State → Prop} {g : JFrame} (kk : H.size ≤ s.heap.size + cells → W p l e R s m args below meth c H locs cells slots Q g) : W p l e R s m args below meth c H locs cells slots Q g := by
  intro T hT X
  have h : T.heap.size ≤ s.heap.size + cells := X.same.2.2.1
  exact kk (by rw [← hT]; exact h) T hT X
/-- what the constructors ask beside: a call that nest mates may make, a class of arrays -/
def iB (E : jE) (U : State) (H : Heap) : Prop := jB E U H ∧ va_Nw (.methodLinkNest "NumberLeases" 28 ⟨"NumberLeases$Orders", "<init>", "()V"⟩ "NumberLeases") U ∧ va_AO "NumberLeases$Pool" U
theorem iB.moved {E : jE} {u U : State} {H : Heap} (hW : u.WarmedH U.vm) (h : iB E u H) : iB E U H := ⟨h.1.moved hW, va_Nw.warmM hW h.2.1, h.2.2.moved hW.alike⟩
theorem iB.go {E : jE} {s U : State} {H : Heap} {locs : List Loc} (h : iB E s s.heap) (hS : va_S (jA E) s.heap H locs) (hvm : s.WarmedH U.vm) (hH : U.heap = H) : iB E U U.heap := ⟨h.1.go hS hvm hH, va_Nw.warmM hvm h.2.1, h.2.2.moved hvm.alike⟩
abbrev iT : Type := List va_E → Nat → Nat → Nat → List (Option Value) → List Value → Prop
def iW (p : Program) (l : Launch) (e : Env) (R : Room) (s : State) (m : MethodId) (args : Array Value) (below : List Frame) (meth : Method) (c : Code) (Q : State → Prop) (E : jE) (pre : List va_E) (nL n0 : Nat) : iT := fun xs nc ns pc L st =>
  pre.length + xs.length = n0 + nc → ∀ (H : Heap) (locs : List Loc) (ls : Array Slot), va_P E.2.1 vwCl (wE E (pre ++ xs)) H → H.size = E.1 + (pre.length + xs.length) → va_S (jA E) s.heap H locs → lh nL ls L →
    W p l e R s m args below meth c H locs nc ns Q (F0 m pc ls st)
def iR (l : Launch) (E : jE) (own : String) (cc : ByteArray) (nL d n0 mc ms : Nat) (ini : Bool) (pre : List va_E) (J : iT) : Prop :=
  ∃ (p : Program) (e : Env) (R : Room) (s : State) (m : MethodId) (args : Array Value) (below : List Frame) (meth : Method) (c : Code) (Q : State → Prop), J = iW p l e R s m args below meth c Q E pre nL n0 ∧
    CallFix p m c cc nL s args gw own ∧ d ≤ R.frames ∧ 32 * d ≤ R.locals ∧ mc ≤ R.cells ∧ ms ≤ R.slots ∧ iB E s s.heap ∧ s.heap.size = E.1 + n0 ∧ (ini = true → meth.name = "<init>")
def iPc (E : jE) (av : List Value) (es : List va_E) : Array Value → State → Prop := va_Pc av (fun U => (va_P E.2.1 vwCl (wE E es) U.heap ∧ U.heap.size = E.1 + es.length) ∧ iB E U U.heap)
def iQc (E : jE) (es : List va_E) : Array Value → State → Outcome → State → Prop := fun _ st oc t => (oc = .returned none ∧ va_P E.2.1 vwCl (wE E es) t.heap ∧ t.heap.size = E.1 + es.length) ∧ va_F (jA E) st t
theorem iPc_blind (E : jE) (av : List Value) (es : List va_E) : FrameBlind (iPc E av es) := fun a U g mk q => ⟨q.1, q.2.1, iB.moved (u := U) (U := U.calling g mk a) (State.WarmedH.refl U) q.2.2⟩
/-- the contract of a constructor: called on the thing at a with the world pre ++ xs, it leaves pre ++ xs' -/
def CtI (l : Launch) (E : jE) (y : MethodName) (cc : ByteArray) (nL d : Nat) (a : Nat) (pre xs xs' : List va_E) (mc ms : Nat) : Prop :=
  Met l y (.code y cc nL none :: gw) { frames := d, cells := mc, slots := ms, locals := 32 * d } (iPc E [.ref a] (pre ++ xs)) (iQc E (pre ++ xs')) mc ms (jA E)
def wI (own : String) (ix : Nat) (y : MethodName) (cc : ByteArray) (nL : Nat) : Prop :=
  Cond.methodLink own ix y ∈ gw ∧ Cond.instanceMethod y ∈ gw ∧ Cond.initialized y.cls ∈ gw ∧ Cond.code y cc nL none ∈ gw ∧ (y.name = "<init>" ∧ y.cls ≠ "java/lang/invoke/MethodHandle" ∧ y.cls ≠ "java/lang/invoke/VarHandle" ∧ (parseMethodDescriptor y.desc).map (fun d => d.parameters.length) = some 0)
section INI
variable {l : Launch} {E : jE} {own : String} {cc : ByteArray} {nL d n0 mc ms : Nat} {ini : Bool} {pre : List va_E} {J : iT} {xs : List va_E} {nc ns : Nat} {pc : Nat} {L : List (Option Value)} {rest : List Value}
theorem i_iconst (hJ : iR l E own cc nL d n0 mc ms ini pre J) {n : Int} {v : Int32} (hd : decode cc pc = .ok (.iconst n, 1)) (hv : Int32.ofInt n = v) (k : J xs nc ns (pc + 1) L (.int v :: rest)) : J xs nc ns pc L (rest) := by
  obtain ⟨p, e, R, s, m, args, below, meth, c, Q, rfl, ⟨hx, hb, hml, hown, hts⟩, hfr, hlo, hce, hsl, hB, hsz, hini⟩ := hJ
  intro hn H locs ls hP hz hS hl
  exact lv_iconst hx hb hd hv (k hn H locs ls hP hz hS hl)
theorem i_bipush (hJ : iR l E own cc nL d n0 mc ms ini pre J) {n : Int} {v : Int32} (hd : decode cc pc = .ok (.bipush n, 2)) (hv : (Int8.ofInt n).toInt32 = v) (k : J xs nc ns (pc + 2) L (.int v :: rest)) : J xs nc ns pc L (rest) := by
  obtain ⟨p, e, R, s, m, args, below, meth, c, Q, rfl, ⟨hx, hb, hml, hown, hts⟩, hfr, hlo, hce, hsl, hB, hsz, hini⟩ := hJ
  intro hn H locs ls hP hz hS hl
  exact lv_bipush hx hb hd hv (k hn H locs ls hP hz hS hl)
theorem i_sipush (hJ : iR l E own cc nL d n0 mc ms ini pre J) {n : Int} {v : Int32} (hd : decode cc pc = .ok (.sipush n, 3)) (hv : (Int16.ofInt n).toInt32 = v) (k : J xs nc ns (pc + 3) L (.int v :: rest)) : J xs nc ns pc L (rest) := by
  obtain ⟨p, e, R, s, m, args, below, meth, c, Q, rfl, ⟨hx, hb, hml, hown, hts⟩, hfr, hlo, hce, hsl, hB, hsz, hini⟩ := hJ
  intro hn H locs ls hP hz hS hl
  exact lv_sipush hx hb hd hv (k hn H locs ls hP hz hS hl)
theorem i_iload_n (hJ : iR l E own cc nL d n0 mc ms ini pre J) {q : Fin 4} {i : Nat} {x : Int32} (hd : decode cc pc = .ok (.iload_n q, 1)) (hi : (q : Nat) = i) (hL : L[i]? = some (some (.int x))) (k : J xs nc ns (pc + 1) L (.int x :: rest)) : J xs nc ns pc L rest := by
  obtain ⟨p, e, R, s, m, args, below, meth, c, Q, rfl, ⟨hx, hb, hml, hown, hts⟩, hfr, hlo, hce, hsl, hB, hsz, hini⟩ := hJ
  intro hn H locs ls hP hz hS hl
  exact lv_iload_n hx hb hd hi (hl.2.2.2 i _ hL) (k hn H locs ls hP hz hS hl)
theorem i_istore_n (hJ : iR l E own cc nL d n0 mc ms ini pre J) {q : Fin 4} {i : Nat} {x : Int32} {L' : List (Option Value)} (hd : decode cc pc = .ok (.istore_n q, 1)) (hi : (q : Nat) = i) (hp : lpt L i (.int x) L') (k : J xs nc ns (pc + 1) L' rest) : J xs nc ns pc L (.int x :: rest) := by
  obtain ⟨p, e, R, s, m, args, below, meth, c, Q, rfl, ⟨hx, hb, hml, hown, hts⟩, hfr, hlo, hce, hsl, hB, hsz, hini⟩ := hJ
  intro hn H locs ls hP hz hS hl
  exact lv_istore_n hx hb hd hi (lh_has hl) (hl.2.1 ▸ hp.2.1) rfl (fun ls' hl' => k hn H locs ls' hP hz hS (lh_put1 hl.2.1 rfl hp hl'))
theorem i_istore (hJ : iR l E own cc nL d n0 mc ms ini pre J) {i : Nat} {x : Int32} {L' : List (Option Value)} (hd : decode cc pc = .ok (.istore i, 2)) (hp : lpt L i (.int x) L') (k : J xs nc ns (pc + 2) L' rest) : J xs nc ns pc L (.int x :: rest) := by
  obtain ⟨p, e, R, s, m, args, below, meth, c, Q, rfl, ⟨hx, hb, hml, hown, hts⟩, hfr, hlo, hce, hsl, hB, hsz, hini⟩ := hJ
  intro hn H locs ls hP hz hS hl
  exact lv_istore hx hb hd (lh_has hl) (hl.2.1 ▸ hp.2.1) rfl (fun ls' hl' => k hn H locs ls' hP hz hS (lh_put1 hl.2.1 rfl hp hl'))
theorem i_aload_n (hJ : iR l E own cc nL d n0 mc ms ini pre J) {q : Fin 4} {i : Nat} {x : Nat} (hd : decode cc pc = .ok (.aload_n q, 1)) (hi : (q : Nat) = i) (hL : L[i]? = some (some (.ref x))) (k : J xs nc ns (pc + 1) L (.ref x :: rest)) : J xs nc ns pc L rest := by
  obtain ⟨p, e, R, s, m, args, below, meth, c, Q, rfl, ⟨hx, hb, hml, hown, hts⟩, hfr, hlo, hce, hsl, hB, hsz, hini⟩ := hJ
  intro hn H locs ls hP hz hS hl
  exact lv_aload_n hx hb hd hi (hl.2.2.2 i _ hL) (k hn H locs ls hP hz hS hl)
theorem i_astore_n (hJ : iR l E own cc nL d n0 mc ms ini pre J) {q : Fin 4} {i : Nat} {x : Nat} {L' : List (Option Value)} (hd : decode cc pc = .ok (.astore_n q, 1)) (hi : (q : Nat) = i) (hp : lpt L i (.ref x) L') (k : J xs nc ns (pc + 1) L' rest) : J xs nc ns pc L (.ref x :: rest) := by
  obtain ⟨p, e, R, s, m, args, below, meth, c, Q, rfl, ⟨hx, hb, hml, hown, hts⟩, hfr, hlo, hce, hsl, hB, hsz, hini⟩ := hJ
  intro hn H locs ls hP hz hS hl
  exact lv_astore_n hx hb hd hi (lh_has hl) (hl.2.1 ▸ hp.2.1) rfl (fun ls' hl' => k hn H locs ls' hP hz hS (lh_put1 hl.2.1 rfl hp hl'))
theorem i_iinc (hJ : iR l E own cc nL d n0 mc ms ini pre J) {i : Nat} {n : Int} {x v : Int32} {L' : List (Option Value)} (hd : decode cc pc = .ok (.iinc i n, 3)) (hL : L[i]? = some (some (.int x))) (hv : x + Int32.ofInt n = v) (hp : lpt L i (.int v) L') (k : J xs nc ns (pc + 3) L' rest) : J xs nc ns pc L rest := by
  obtain ⟨p, e, R, s, m, args, below, meth, c, Q, rfl, ⟨hx, hb, hml, hown, hts⟩, hfr, hlo, hce, hsl, hB, hsz, hini⟩ := hJ
  intro hn H locs ls hP hz hS hl
  obtain ⟨kk, hk⟩ := List.getElem?_of_mem ((lprs_mem L 0 (i, .int x)).mpr ⟨i, by simp, hL⟩)
  exact lv_iinc hx hb hd (lh_has hl) (k := kk) hk hv (hl.2.1 ▸ hp.2.1) rfl (fun ls' hl' => k hn H locs ls' hP hz hS (lh_put1 hl.2.1 rfl hp hl'))
theorem i_iadd (hJ : iR l E own cc nL d n0 mc ms ini pre J) {x y : Int32} (hd : decode cc pc = .ok (.iadd, 1)) (k : J xs nc ns (pc + 1) L (.int (x + y) :: rest)) : J xs nc ns pc L (.int y :: .int x :: rest) := by
  obtain ⟨p, e, R, s, m, args, below, meth, c, Q, rfl, ⟨hx, hb, hml, hown, hts⟩, hfr, hlo, hce, hsl, hB, hsz, hini⟩ := hJ
  intro hn H locs ls hP hz hS hl
  exact lv_iadd hx hb hd (k hn H locs ls hP hz hS hl)
theorem i_imul (hJ : iR l E own cc nL d n0 mc ms ini pre J) {x y : Int32} (hd : decode cc pc = .ok (.imul, 1)) (k : J xs nc ns (pc + 1) L (.int (x * y) :: rest)) : J xs nc ns pc L (.int y :: .int x :: rest) := by
  obtain ⟨p, e, R, s, m, args, below, meth, c, Q, rfl, ⟨hx, hb, hml, hown, hts⟩, hfr, hlo, hce, hsl, hB, hsz, hini⟩ := hJ
  intro hn H locs ls hP hz hS hl
  exact lv_imul hx hb hd (k hn H locs ls hP hz hS hl)
theorem i_dup (hJ : iR l E own cc nL d n0 mc ms ini pre J) {va : Value} (hd : decode cc pc = .ok (.dup, 1)) (hva : va.category = 1) (k : J xs nc ns (pc + 1) L (va :: va :: rest)) : J xs nc ns pc L (va :: rest) := by
  obtain ⟨p, e, R, s, m, args, below, meth, c, Q, rfl, ⟨hx, hb, hml, hown, hts⟩, hfr, hlo, hce, hsl, hB, hsz, hini⟩ := hJ
  intro hn H locs ls hP hz hS hl
  exact lv_dup hx hb hd hva (k hn H locs ls hP hz hS hl)
theorem i_goto (hJ : iR l E own cc nL d n0 mc ms ini pre J) {off : Int} {tgt : Nat} (hd : decode cc pc = .ok (.goto off, 3)) (ht : (pc : Int) + off = (tgt : Int)) (k : J xs nc ns tgt L rest) : J xs nc ns pc L rest := by
  obtain ⟨p, e, R, s, m, args, below, meth, c, Q, rfl, ⟨hx, hb, hml, hown, hts⟩, hfr, hlo, hce, hsl, hB, hsz, hini⟩ := hJ
  intro hn H locs ls hP hz hS hl
  exact lv_goto hx hb hd ht (k hn H locs ls hP hz hS hl)
theorem i_icmp_ge (hJ : iR l E own cc nL d n0 mc ms ini pre J) {x y : Int32} {off : Int} {tgt : Nat} (hd : decode cc pc = .ok (.if_icmp .ge off, 3)) (ht : (pc : Int) + off = (tgt : Int)) (kt : y ≤ x → J xs nc ns tgt L rest) (kf : ¬ y ≤ x → J xs nc ns (pc + 3) L rest) : J xs nc ns pc L (.int y :: .int x :: rest) := by
  obtain ⟨p, e, R, s, m, args, below, meth, c, Q, rfl, ⟨hx, hb, hml, hown, hts⟩, hfr, hlo, hce, hsl, hB, hsz, hini⟩ := hJ
  intro hn H locs ls hP hz hS hl
  exact lv_icmp_ge hx hb hd ht (fun q => kt q hn H locs ls hP hz hS hl) (fun q => kf q hn H locs ls hP hz hS hl)
theorem i_obj (hJ : iR l E own cc nL d n0 mc ms ini pre J) {ix a : Nat} (hw : Cond.methodLink own ix Lib.objectInit ∈ gw) (hd : decode cc pc = .ok (.invokespecial ix, 3)) (hdd : 1 ≤ d) (hst : (rest.map fun v => v.category).sum ≤ 8) (k : J xs nc ns (pc + 3) L rest) : J xs nc ns pc L (.ref a :: rest) := by
  obtain ⟨p, e, R, s, m, args, below, meth, c, Q, rfl, ⟨hx, hb, hml, hown, hts⟩, hfr, hlo, hce, hsl, hB, hsz, hini⟩ := hJ
  intro hn H locs ls hP hz hS hl
  have h0 : (F0 m pc ls (Value.ref a :: rest)).monitorRoom = 0 := rfl
  exact W.objInit hx hb hown (hts _ hw) (hts _ m43) (hts _ m44) rfl (by rw [hml]; exact hl.1) rfl hd (by omega) (by rw [h0]; omega) (k hn H locs ls hP hz hS hl)
theorem i_newa (hJ : iR l E own cc nL d n0 mc ms ini pre J) {v : Int32} {N a : Nat} (hv : v = nI N) (hN : N ≤ 5000) (hc : nc + 1 ≤ mc) (hs : ns + N ≤ ms) (ha : E.1 + (pre.length + xs.length) = a) (hd : decode cc pc = .ok (.newarray .int, 2)) (k : J (xs ++ [.inl (E.2.2.1.1, N, .inl fun _ => 0)]) (nc + 1) (ns + N) (pc + 2) L (.ref a :: rest)) : J xs nc ns pc L (.int v :: rest) := by
  obtain ⟨p, e, R, s, m, args, below, meth, c, Q, rfl, ⟨hx, hb, hml, hown, hts⟩, hfr, hlo, hce, hsl, hB, hsz, hini⟩ := hJ
  intro hn H locs ls hP hz hS hl
  subst hv
  subst ha
  refine va_newaK (atype := .int) (N := N) hx hb (hts _ m104) rfl hd rfl (fun q => vp_in_nI (n := N) (N := N + 1) (by omega) (by omega) (Or.inl q)) (nI_clamp (by omega)) (by show N * 4 ≤ _; omega) (by omega) (by omega) hz (fun H1 cA e1 z1 o1 hAr hNm => ?_)
  have hcA : cA = E.2.2.1.1 := Option.some.inj (hNm.symm.trans (hB.1.1.2 0 _ rfl).2)
  subst hcA
  exact k (by rw [List.length_append, List.length_singleton]; omega) H1 locs ls (wE_push hP hz o1 e1) (by rw [List.length_append, List.length_singleton]; omega) (S_push hS (by omega) (fun q hq => o1 q (by omega))) hl
theorem i_newq (hJ : iR l E own cc nL d n0 mc ms ini pre J) {ix : Nat} {v : Int32} {N a : Nat} (hw : Cond.classLink own ix "NumberLeases$Pool" ∈ gw) (hv : v = nI N) (hN : N ≤ 5000) (hc : nc + 1 ≤ mc) (hs : ns + N ≤ ms) (ha : E.1 + (pre.length + xs.length) = a) (hd : decode cc pc = .ok (.anewarray ix, 3)) (k : J (xs ++ [.inl (E.2.2.1.2.2, N, .inr (.inr (.inr (.inr fun _ => none))))]) (nc + 1) (ns + N) (pc + 3) L (.ref a :: rest)) : J xs nc ns pc L (.int v :: rest) := by
  obtain ⟨p, e, R, s, m, args, below, meth, c, Q, rfl, ⟨hx, hb, hml, hown, hts⟩, hfr, hlo, hce, hsl, hB, hsz, hini⟩ := hJ
  intro hn H locs ls hP hz hS hl
  subst hv
  subst ha
  have hcl : (nI N).toNatClampNeg = N := nI_clamp (by omega)
  refine W.anew hx hb hown (hts _ hw) (va_AO.use hB.2.2) rfl hd rfl (fun q => vp_in_nI (n := N) (N := N + 1) (by omega) (by omega) (Or.inl q)) (by rw [hcl]; omega) (by omega) (by rw [hcl]; omega) (fun cA kA comp f1 f2 f3 f4 => ?_)
  rw [hcl, hz]
  generalize hH1 : H.push ({ cls := cA, slots := Array.replicate N .null, vm := .none } : Cell) = H1
  have z1 : H1.size = H.size + 1 := by rw [← hH1, Array.size_push]
  have e1 : H1[H.size]? = some (arrV cA N (fun _ => .null)) := by rw [← hH1, Array.getElem?_push_size, ← arrV_new]
  have o1 : ∀ q : Nat, q < H.size → H1[q]? = H[q]? := fun q hq => by rw [← hH1, Array.getElem?_push, if_neg (Nat.ne_of_lt hq)]
  obtain ⟨kA', comp', -, -, -, hNm⟩ := (hB.1.1.2 2 _ rfl).2
  have hcA : cA = E.2.2.1.2.2 := Option.some.inj (f1.symm.trans hNm)
  subst hcA
  rw [hz] at z1 e1 o1
  exact k (by rw [List.length_append, List.length_singleton]; omega) H1 locs ls (wE_push hP hz o1 e1) (by rw [List.length_append, List.length_singleton]; omega) (S_push hS (by omega) (fun q hq => o1 q (by omega))) hl
theorem i_new (hJ : iR l E own cc nL d n0 mc ms ini pre J) {ix ci N a : Nat} {C : String} {T : u_T} {ty : Nat → FieldType} {fs : List Value} (hcl : vwCl[ci]? = some (C, T, N)) (hin : ∀ w ∈ u_ws C T N, w ∈ gw) (hty : ∀ k, k < N → parseFieldDescriptor (T k).2.2.1 = some (ty k)) (hw : Cond.classLink own ix C ∈ gw) (hinst : Cond.instantiable C N ∈ gw) (hit : Cond.initialized C ∈ gw) (hfs : ∀ j, j < N → defaultValue (ty j) = vp_V fs j) (hc : nc + 1 ≤ mc) (hs : ns + N ≤ ms) (ha : E.1 + (pre.length + xs.length) = a) (hd : decode cc pc = .ok (.new ix, 3)) (k : J (xs ++ [.inr (ci, fs)]) (nc + 1) (ns + N) (pc + 3) L (.ref a :: rest)) : J xs nc ns pc L rest := by
  obtain ⟨p, e, R, s, m, args, below, meth, c, Q, rfl, ⟨hx, hb, hml, hown, hts⟩, hfr, hlo, hce, hsl, hB, hsz, hini⟩ := hJ
  intro hn H locs ls hP hz hS hl
  subst ha
  have hKn := hB.1.1.1 ci _ hcl
  refine W.newcK hx hb hown (hts _ hw) (hts _ hinst) (hts _ hit) rfl hd (by omega) (by omega) hKn.2.1 hz (fun H1 kC hkC e1 z1 o1 => ?_)
  exact k (by rw [List.length_append, List.length_singleton]; omega) H1 locs ls (wE_push hP hz o1 ⟨_, hcl, (u_born ty hts hin hKn hkC e1 hty).to hfs⟩) (by rw [List.length_append, List.length_singleton]; omega) (S_push hS (by omega) (fun q hq => o1 q (by omega))) hl
theorem i_get (hJ : iR l E own cc nL d n0 mc ms ini pre J) {ix ci N kf a j : Nat} {C : String} {T : u_T} {fs : List Value} {v : Value} (he : xs[j]? = some (.inr (ci, fs))) (ha : E.1 + (pre.length + j) = a) (hcl : vwCl[ci]? = some (C, T, N)) (hin : ∀ w ∈ u_ws C T N, w ∈ gw) (hk : kf < N) (hw : Cond.fieldLink own ix (T kf).1 (T kf).2.1 (T kf).2.2.1 ∈ gw) (hv : fs[kf]? = some v) (hd : decode cc pc = .ok (.getfield ix, 3)) (k : J xs nc ns (pc + 3) L (v :: rest)) : J xs nc ns pc L (.ref a :: rest) := by
  obtain ⟨p, e, R, s, m, args, below, meth, c, Q, rfl, ⟨hx, hb, hml, hown, hts⟩, hfr, hlo, hce, hsl, hB, hsz, hini⟩ := hJ
  intro hn H locs ls hP hz hS hl
  subst ha
  exact va_get (D := E.2.1) (ws := wE E (pre ++ xs)) hx hb hts hin hown hB.1.1 hP (pre.length + j) (wE_at he) hcl kf hk (hts _ hw) (fun _ h => h) hv hd (k hn H locs ls hP hz hS hl)
theorem i_putF {ini0 : Bool} (hini0 : ini0 = true) (hJ : iR l E own cc nL d n0 mc ms ini0 pre J) {ix ci N kf a j : Nat} {C : String} {T : u_T} {ty : Nat → FieldType} {t : FieldType} {fs : List Value} {v : Value} {xs' : List va_E} (he : xs[j]? = some (.inr (ci, fs))) (ha : E.1 + (pre.length + j) = a) (hxs : xs.set j (.inr (ci, fs.set kf v)) = xs') (hcl : vwCl[ci]? = some (C, T, N)) (hin : ∀ w ∈ u_ws C T N, w ∈ gw) (hty : ∀ k, k < N → parseFieldDescriptor (T k).2.2.1 = some (ty k)) (hnm : ∀ a, a < N → ∀ b, b < N → a ≠ b → (T a).2.1 ≠ (T b).2.1) (hk : kf < N) (hw : Cond.fieldLink own ix (T kf).1 (T kf).2.1 (T kf).2.2.1 ∈ gw) (hfin : (T kf).2.2.2 = true) (hdecl : (T kf).1 = own) (hdd : parseFieldDescriptor (T kf).2.2.1 = some t) (hnr : narrow t v = v) (hft : fits t v = true) (hlen : kf < fs.length) (hd : decode cc pc = .ok (.putfield ix, 3)) (k : J xs' nc ns (pc + 3) L rest) : J xs nc ns pc L (v :: .ref a :: rest) := by
  obtain ⟨p, e, R, s, m, args, below, meth, c, Q, rfl, ⟨hx, hb, hml, hown, hts⟩, hfr, hlo, hce, hsl, hB, hsz, hini⟩ := hJ
  intro hn H locs ls hP hz hS hl
  subst ha
  refine va_putF (D := E.2.1) (A := jA E) (ws := wE E (pre ++ xs)) (fs := fs) hx hb hts hin ty hty hnm hown hB.1.1 hP (wE_D E _) (S_self hS) (pre.length + j) (wE_at he) hcl kf hk (hts _ hw) (fun _ h => h) hfin (hini hini0) hdecl hdd hnr hft hlen hd (fun H1 locs1 hP1 _ hS1 => ?_)
  rw [wE_put, hxs] at hP1
  refine W_sized fun hz1 => k (by rw [← hxs, List.length_set]; exact hn) H1 locs1 ls hP1 ?_ (S_trans hS hS1) hl
  have h1 : H.size ≤ H1.size := hS1.1
  rw [← hxs, List.length_set]
  omega
theorem i_iast (hJ : iR l E own cc nL d n0 mc ms ini pre J) {a j N n : Nat} {f f' : Nat → Int32} {i v : Int32} {xs' : List va_E} (he : xs[j]? = some (.inl (E.2.2.1.1, N, .inl f))) (ha : E.1 + (pre.length + j) = a) (hi : i = nI n) (hnN : n < N) (hN : N ≤ 5000) (hf : upd f n v = f') (hxs : xs.set j (.inl (E.2.2.1.1, N, .inl f')) = xs') (hd : decode cc pc = .ok (.iastore, 1)) (k : J xs' nc ns (pc + 1) L rest) : J xs nc ns pc L (.int v :: .int i :: .ref a :: rest) := by
  obtain ⟨p, e, R, s, m, args, below, meth, c, Q, rfl, ⟨hx, hb, hml, hown, hts⟩, hfr, hlo, hce, hsl, hB, hsz, hini⟩ := hJ
  intro hn H locs ls hP hz hS hl
  subst ha
  subst hi
  refine va_iast (D := E.2.1) (A := jA E) (ws := wE E (pre ++ xs)) (f := f) hx hb hB.1.1 hP (wE_D E _) (S_self hS) (pre.length + j) 0 (wE_at he) rfl (vp_in_nI hnN (by omega)) hd (fun H1 locs1 hP1 _ hS1 => ?_)
  rw [nI_clamp (by omega), wE_put, hf, hxs] at hP1
  refine W_sized fun hz1 => k (by rw [← hxs, List.length_set]; exact hn) H1 locs1 ls hP1 ?_ (S_trans hS hS1) hl
  have h1 : H.size ≤ H1.size := hS1.1
  rw [← hxs, List.length_set]
  omega
theorem i_aast (hJ : iR l E own cc nL d n0 mc ms ini pre J) {a b j q n N ci : Nat} {fs : List Value} {f : Nat → Option Nat} {i : Int32} {xs' : List va_E} {r : vw_C} (he : xs[j]? = some (.inl (E.2.2.1.2.2, N, .inr (.inr (.inr (.inr f)))))) (ha : E.1 + (pre.length + j) = a) (hv : xs[q]? = some (.inr (ci, fs))) (hbq : E.1 + (pre.length + q) = b) (hc : vwCl[ci]? = some r) (hr : FieldType.object RX2 = FieldType.object r.1) (hi : i = nI n) (hnN : n < N) (hN : N ≤ 5000) (hxs : xs.set j (.inl (E.2.2.1.2.2, N, .inr (.inr (.inr (.inr (va_up f n (some b))))))) = xs') (hd : decode cc pc = .ok (.aastore, 1)) (k : J xs' nc ns (pc + 1) L rest) : J xs nc ns pc L (.ref b :: .int i :: .ref a :: rest) := by
  obtain ⟨p, e, R, s, m, args, below, meth, c, Q, rfl, ⟨hx, hb, hml, hown, hts⟩, hfr, hlo, hce, hsl, hB, hsz, hini⟩ := hJ
  intro hn H locs ls hP hz hS hl
  subst ha
  subst hbq
  subst hi
  refine va_astq (D := E.2.1) (A := jA E) (ws := wE E (pre ++ xs)) (f := f) (r := r) hx hb hB.1.1 hP (wE_D E _) (S_self hS) (pre.length + j) 2 (pre.length + q) ci (wE_at he) (by rw [← hr]; rfl) (wE_at hv) hc (vp_in_nI hnN (by omega)) hd (fun H1 locs1 hP1 _ hS1 => ?_)
  rw [nI_clamp (by omega), wE_put, hxs] at hP1
  refine W_sized fun hz1 => k (by rw [← hxs, List.length_set]; exact hn) H1 locs1 ls hP1 ?_ (S_trans hS hS1) hl
  have h1 : H.size ≤ H1.size := hS1.1
  rw [← hxs, List.length_set]
  omega
theorem i_same (hJ : iR l E own cc nL d n0 mc ms ini pre J) {j : Nat} {e e' : va_E} {xs' : List va_E} {st : List Value} (he : xs[j]? = some e) (hxs : xs.set j e' = xs') (hh : ∀ (a : Nat) (H : Heap), va_at E.2.1 vwCl (a, e) H → va_at E.2.1 vwCl (a, e') H) (k : J xs' nc ns pc L st) : J xs nc ns pc L st := by
  obtain ⟨p, e, R, s, m, args, below, meth, c, Q, rfl, ⟨hx, hb, hml, hown, hts⟩, hfr, hlo, hce, hsl, hB, hsz, hini⟩ := hJ
  intro hn H locs ls hP hz hS hl
  refine k (by rw [← hxs, List.length_set]; exact hn) H locs ls ?_ (by rw [← hxs, List.length_set]; exact hz) hS hl
  rw [← hxs, ← wE_put]
  intro i q hi
  by_cases hij : pre.length + j = i
  · subst hij
    rw [List.getElem?_set_self (by
      have := (List.getElem?_eq_some_iff.mp (wE_at (E := E) (pre := pre) he)).1
      exact this)] at hi
    rw [← Option.some.inj hi]
    exact hh _ _ (hP _ _ (wE_at he))
  · rw [List.getElem?_set_ne hij] at hi
    exact hP i q hi
theorem i_call (hJ : iR l E own cc nL d n0 mc ms ini pre J) {ix nL' d' a mc' ms' : Nat} {y : MethodName} {cc' : ByteArray} {ys zs zs' : List va_E} (w : wI own ix y cc' nL') (ct : CtI l E y cc' nL' d' a (pre ++ ys) zs zs' mc' ms') (hxs : xs = ys ++ zs) (hlen : zs'.length = zs.length + mc') (hc : nc + mc' ≤ mc) (hs : ns + ms' ≤ ms) (hdd : d' < d ∧ nL' ≤ 13) (hst : (rest.map fun v => v.category).sum ≤ 8) (hd : decode cc pc = .ok (.invokespecial ix, 3)) (k : J (ys ++ zs') (nc + mc') (ns + ms') (pc + 3) L rest) : J xs nc ns pc L (.ref a :: rest) := by
  subst hxs
  obtain ⟨p, e, R, s, m, args, below, meth, c, Q, rfl, hfix, hfr, hlo, hce, hsl, hB, hsz, hini⟩ := hJ
  intro hn H locs ls hP hz hS hl
  have hr := va_runI (e := e) (R := R) (below := below) (meth := meth) (rest := rest) (g := F0 m pc ls (.ref a :: rest)) (cells := nc) (slots := ns) (locs := locs) (As := []) (b := a) (H := H) hfix ct
    (cwI 0 hfix.2.2.2.2 (gI fun z hz => by
      rcases List.mem_cons.mp hz with h | h
      · rw [h]; exact w.2.2.2.1
      · exact h) rfl rfl rfl (hfix.2.2.2.2 _ w.2.2.1) (hfix.2.2.2.2 _ w.1) (hfix.2.2.2.2 _ w.2.1) w.2.2.2.2.1 w.2.2.2.2.2 ⟨by show d' + 1 ≤ R.frames; omega, by show 8 + (nL' + 11) + 32 * d' ≤ R.locals; omega⟩)
    ⟨iPc_blind E _ _, fun U hU hW => ⟨rfl, ⟨by rw [hU, List.append_assoc]; exact hP, by rw [hU, hz]; simp only [List.length_append]; omega⟩, hB.go hS hW hU⟩⟩ rfl rfl hl.1 rfl (lv_room hst) hd ⟨by omega, by omega⟩
  intro T hT X
  obtain ⟨v, st₀, t, T', Ls, e0, X', hL, e1, e2, ⟨⟨hv, hw1, hw2⟩, hq, hkk⟩, st⟩ := hr T hT X
  cases hv
  rw [e0] at hq hkk
  have k2 := k (by rw [List.length_append] at hn ⊢; omega) T'.heap (locs ++ Ls) ls (by rw [e1, ← List.append_assoc]; exact hw1) (by rw [e1, hw2]; simp only [List.length_append]; omega)
    ⟨Nat.le_trans hS.1 (by rw [e1]; exact hq), fun q g1 g2 => by rw [e1, hkk q (Nat.lt_of_lt_of_le g1 hS.1) g2]; exact hS.2.1 q g1 g2, fun q hq => by
      rcases List.mem_append.mp hq with h | h
      · exact hS.2.2 q h
      · exact hL q h⟩ hl
  obtain ⟨t2, a1, b1⟩ := k2 T' rfl X'
  exact ⟨t2, st t2 a1, b1⟩
theorem i_callN (hJ : iR l E "NumberLeases" cc nL d n0 mc ms ini pre J) {nL' d' a mc' ms' : Nat} {cc' : ByteArray} {ys zs zs' : List va_E} (hi0 : Cond.instanceMethod yX1_init ∈ gw) (hi1 : Cond.initialized yX1_init.cls ∈ gw) (hi2 : Cond.code yX1_init cc' nL' none ∈ gw) (ct : CtI l E yX1_init cc' nL' d' a (pre ++ ys) zs zs' mc' ms') (hxs : xs = ys ++ zs) (hlen : zs'.length = zs.length + mc') (hc : nc + mc' ≤ mc) (hs : ns + ms' ≤ ms) (hdd : d' < d ∧ nL' ≤ 13) (hst : (rest.map fun v => v.category).sum ≤ 8) (hd : decode cc pc = .ok (.invokespecial 28, 3)) (k : J (ys ++ zs') (nc + mc') (ns + ms') (pc + 3) L rest) : J xs nc ns pc L (.ref a :: rest) := by
  subst hxs
  obtain ⟨p, e, R, s, m, args, below, meth, c, Q, rfl, hfix, hfr, hlo, hce, hsl, hB, hsz, hini⟩ := hJ
  intro hn H locs ls hP hz hS hl
  have hr := va_runIN (e := e) (R := R) (below := below) (meth := meth) (rest := rest) (g := F0 m pc ls (.ref a :: rest)) (cells := nc) (slots := ns) (locs := locs) (As := []) (b := a) (H := H) hfix ct
    ⟨va_cnB 0 hfix.2.2.2.2 (gI fun z hz => by
      rcases List.mem_cons.mp hz with h | h
      · rw [h]; exact hi2
      · exact h) rfl rfl rfl hB.2.1 (hfix.2.2.2.2 _ hi1) (by decide +kernel) ⟨by show d' + 1 ≤ R.frames; omega, by show 8 + (nL' + 11) + 32 * d' ≤ R.locals; omega⟩, rfl, hfix.2.2.2.2 _ hi0⟩
    ⟨iPc_blind E _ _, fun U hU hW => ⟨rfl, ⟨by rw [hU, List.append_assoc]; exact hP, by rw [hU, hz]; simp only [List.length_append]; omega⟩, hB.go hS hW hU⟩⟩ rfl rfl hl.1 rfl (lv_room hst) hd ⟨by omega, by omega⟩
  intro T hT X
  obtain ⟨v, st₀, t, T', Ls, e0, X', hL, e1, e2, ⟨⟨hv, hw1, hw2⟩, hq, hkk⟩, st⟩ := hr T hT X
  cases hv
  rw [e0] at hq hkk
  have k2 := k (by rw [List.length_append] at hn ⊢; omega) T'.heap (locs ++ Ls) ls (by rw [e1, ← List.append_assoc]; exact hw1) (by rw [e1, hw2]; simp only [List.length_append]; omega)
    ⟨Nat.le_trans hS.1 (by rw [e1]; exact hq), fun q g1 g2 => by rw [e1, hkk q (Nat.lt_of_lt_of_le g1 hS.1) g2]; exact hS.2.1 q g1 g2, fun q hq => by
      rcases List.mem_append.mp hq with h | h
      · exact hS.2.2 q h
      · exact hL q h⟩ hl
  obtain ⟨t2, a1, b1⟩ := k2 T' rfl X'
  exact ⟨t2, st t2 a1, b1⟩
end INI
theorem CtI.of {l : Launch} {E : jE} {y : MethodName} {cc : ByteArray} {nL d a mc ms : Nat} {pre xs xs' : List va_E} {L0 : List (Option Value)} (hy : plainName y.cls = true) (hy1 : y.name = "<init>") (hlen : 1 ≤ nL) (hL0 : lin nL [.ref a] = L0)
    (body : ∀ J : iT, iR l E y.cls cc nL d (pre.length + xs.length) mc ms true pre J → (∀ (pc : Nat) (L : List (Option Value)), decode cc pc = .ok (.return_, 1) → J xs' mc ms pc L []) → J xs 0 0 0 L0 []) : CtI l E y cc nL d a pre xs xs' mc ms := by
  refine Met.ofW (cc := cc) (maxL := nL) (ret := none) hy rfl ?_
  intro p e s m args below meth c s₁ B hml hv
  obtain ⟨rfl, ⟨hP, hz⟩, hB⟩ := hv
  have hx := B.exec
  have hb := B.bytes
  have hr := B.returns
  have hts0 := atoms_spec (ws := Cond.code y cc nL none :: gw) B.pre
  have hts : ∀ w ∈ gw, w.before ([Value.ref a] : List Value).toArray s = true := fun w hw => hts0 w (List.mem_cons_of_mem _ hw)
  have hown : s.vm.findClass y.cls = some m.cls := findClass_of_methodNamed B.named
  have hlocks := B.notSynchronized
  have hnm : meth.name = "<init>" := (name_of_methodNamed B.named B.method).1.trans hy1
  rw [lg_entry_eq]
  have hS : va_S (jA E) s.heap s.heap [] := va_S.rf
  rw [List.length_append] at hz
  exact body (iW p l e { frames := d, cells := mc, slots := ms, locals := 32 * d } s m ([Value.ref a] : List Value).toArray below meth c (MQ below (iQc E (pre ++ xs')) ([Value.ref a] : List Value).toArray s mc ms (jA E)) E pre nL (pre.length + xs.length))
    ⟨p, e, { frames := d, cells := mc, slots := ms, locals := 32 * d }, s, m, ([Value.ref a] : List Value).toArray, below, meth, c, _, rfl, ⟨hx, hb, hml, hown, hts⟩, Nat.le_refl _, Nat.le_refl _, Nat.le_refl _, Nat.le_refl _, hB, hz, fun _ => hnm⟩
    (fun pc L hdg hn H locs ls hP hz hS hl => W.vret hx hb hr (fun t ht hW => ⟨⟨rfl, by rw [ht]; exact hP, by rw [ht, hz, List.length_append]⟩, hS.F ht⟩) hS.2.2 hdg)
    rfl s.heap [] _ hP hz hS (by rw [← hL0]; exact lh_in (by show (lg_sl [Value.ref a]).length ≤ nL; exact hlen))
