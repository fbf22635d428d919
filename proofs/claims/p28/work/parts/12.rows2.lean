/-! two states that agree where the world looks -/
def sEq (x : jX) (S S' : jS) : Prop := (∀ o j i, i < aln o j → S o j i = S' o j i) ∧ ∀ (E : jE) (o j : Nat), scal E x o (S o) j = scal E x o (S' o) j
theorem arrV_ext {cI : ClassId} {N : Nat} {f g : Nat → Value} (h : ∀ j, j < N → f j = g j) : arrV cI N f = arrV cI N g := by
  unfold arrV
  congr 2
  funext j
  exact h j.val j.isLt
theorem wld_eqv {E : jE} {x : jX} {S S' : jS} {D : va_G} {H : Heap} (h : sEq x S S') (hP : va_P D vwCl (wld E (S, x)) H) : va_P D vwCl (wld E (S', x)) H := by
  intro k q hk
  have hk1 : k < 109 := by
    have := (List.getElem?_eq_some_iff.mp hk).1
    rwa [wld_len] at this
  rw [wld_at E _ hk1] at hk
  have h0 := hP k _ (wld_at E (S, x) hk1)
  rw [← Option.some.inj hk]
  generalize hl : loc k = lk at h0 ⊢
  obtain ⟨o, j⟩ := lk
  show va_at D vwCl (E.1 + k, cel E x o (S' o) j) H
  have h1 : va_at D vwCl (E.1 + k, cel E x o (S o) j) H := h0
  unfold cel at h1 ⊢
  split
  · rename_i ha
    rw [if_pos ha] at h1
    have h2 : H[E.1 + k]? = some (vp_cell E.2.2.1.1 (aln o j, .inl (S o j))) := h1
    show H[E.1 + k]? = some (vp_cell E.2.2.1.1 (aln o j, .inl (S' o j)))
    rw [h2, vp_cell_i, vp_cell_i]
    exact congrArg some (arrV_ext fun i hi => by rw [h.1 o j i hi])
  · rename_i ha
    rw [if_neg ha] at h1
    rw [← h.2 E o j]
    exact h1
section ROWS2
variable {l : Launch} {E : jE} {own : String} {cc : ByteArray} {nL d n0 cap : Nat} {J : jT} {pc : Nat} {L : List (Option Value)} {rest : List Value}
theorem r_eqv (hJ : jR l E own cc nL d n0 cap J) {S S' : jS} {x : jX} {st : List Value} (h : sEq x S S') (k : J (S', x) pc L st) : J (S, x) pc L st := by
  obtain ⟨p, e, R, s, m, args, below, meth, c, Q, cb, sb, rfl, -, -⟩ := hJ
  intro h1 h2 H locs ls hP hS hl
  exact k h1 h2 H locs ls (wld_eqv h hP) hS hl
def wMath (own : String) (ix : Nat) (y : MethodName) (code : ByteArray) : Prop := Cond.methodLink own ix y ∈ gw ∧ Cond.static y ∈ gw ∧ Cond.initialized "java/lang/Math" ∈ gw ∧ Cond.code y code 2 (some .int) ∈ gw
theorem r_max (hJ : jR l E own cc nL d n0 cap J) {G : jG} {ix : Nat} {x y : Int32} (w : wMath own ix Lib.Math.max.name Lib.Math.max.code) (hd : decode cc pc = .ok (.invokestatic ix, 3)) (hdd : 1 ≤ d) (hst : (rest.map fun v => v.category).sum ≤ 8) (k : J G (pc + 3) L (.int (if x < y then y else x) :: rest)) : J G pc L (.int y :: .int x :: rest) := by
  obtain ⟨p, e, R, s, m, args, below, meth, c, Q, cb, sb, rfl, ⟨hx, hb, hml, hown, hts⟩, hfr, hlo, hce, hsl, hB⟩ := hJ
  intro h1 h2 H locs ls hP hS hl
  exact va_mmax hx hb (by rw [hml]; exact hl.1.symm) hown (hts _ w.1) (hts _ w.2.1) (hts _ w.2.2.1) (hts _ w.2.2.2) (by omega) (by omega) (by omega) (by omega) hd (k h1 h2 H locs ls hP hS hl)
theorem r_min (hJ : jR l E own cc nL d n0 cap J) {G : jG} {ix : Nat} {x y : Int32} (w : wMath own ix Lib.Math.min.name Lib.Math.min.code) (hd : decode cc pc = .ok (.invokestatic ix, 3)) (hdd : 1 ≤ d) (hst : (rest.map fun v => v.category).sum ≤ 8) (k : J G (pc + 3) L (.int (if y < x then y else x) :: rest)) : J G pc L (.int y :: .int x :: rest) := by
  obtain ⟨p, e, R, s, m, args, below, meth, c, Q, cb, sb, rfl, ⟨hx, hb, hml, hown, hts⟩, hfr, hlo, hce, hsl, hB⟩ := hJ
  intro h1 h2 H locs ls hP hS hl
  exact va_mmin hx hb (by rw [hml]; exact hl.1.symm) hown (hts _ w.1) (hts _ w.2.1) (hts _ w.2.2.1) (hts _ w.2.2.2) (by omega) (by omega) (by omega) (by omega) hd (k h1 h2 H locs ls hP hS hl)
def wCopy (own : String) (ix : Nat) : Prop := Cond.methodLink own ix arraycopyName ∈ gw ∧ Cond.native arraycopyName ∈ gw ∧ Cond.static arraycopyName ∈ gw ∧ Cond.initialized "java/lang/System" ∈ gw
/-- a whole row copied onto a row of the same length -/
theorem r_copy (hJ : jR l E own cc nL d n0 cap J) {S : jS} {x : jX} {P : jO} {o o1 j j1 ix n : Nat} (w : wCopy own ix) (ho : o < 13) (ho1 : o1 < 13) (ha : 0 < aln o j) (hn : aln o j = n) (hn1 : aln o1 j1 = n) (hd : decode cc pc = .ok (.invokestatic ix, 3)) (hdd : 1 ≤ d) (hst : (rest.map fun v => v.category).sum ≤ 8)
    (k : J (setO S o (putA P j (fun i => if i < n then (setO S o P) o1 j1 i else P j i)), x) (pc + 3) L rest) : J (setO S o P, x) pc L (.int (nI n) :: .int (nI 0) :: .ref (ad E o j) :: .int (nI 0) :: .ref (ad E o1 j1) :: rest) := by
  obtain ⟨p, e, R, s, m, args, below, meth, c, Q, cb, sb, rfl, ⟨hx, hb, hml, hown, hts⟩, hfr, hlo, hce, hsl, hB⟩ := hJ
  intro h1 h2 H locs ls hP hS hl
  have hle := aln_le o j
  have hnw : nativeFrameWords "java/lang/System" "arraycopy" 5 ≤ 13 := by decide
  have t0 : (nI 0).toNatClampNeg = 0 := nI_clamp (by decide)
  have tn : (nI n).toNatClampNeg = n := nI_clamp (by omega)
  refine va_copyi (D := E.2.1) (A := jA E) (ws := wld E (setO S o P, x)) (f := (setO S o P) o1 j1) (g := P j) (n0 := n) (n1 := aln o j) (ty := .int) hx hb (by rw [hml]; exact hl.1.symm) hown (hts _ w.1) (hts _ w.2.1) (hts _ w.2.2.1) (hts _ w.2.2.2) hB.1 hP (wld_D E _) hS (bas o1 + j1) (bas o + j) 0 0
    (by rw [wld_get E _ x ho1 (aln_wid o1 ho1 j1 (by omega)), cel_arr (by omega), hn1]) (by rw [wld_get E _ x ho (aln_wid o ho j ha), cel_arr ha, setO_at]) rfl rfl rfl (nI_pos (by decide)) (nI_pos (by decide)) (nI_pos (by omega)) (by rw [t0, tn]; omega) (by rw [t0, tn]; omega) (fun _ _ => rfl) (by omega) (by omega) hd (fun H1 locs1 hP1 _ hS1 => ?_)
  rw [t0, tn] at hP1
  have e1 : va_cpy ((setO S o P) o1 j1) (P j) 0 0 n = fun i => if i < n then (setO S o P) o1 j1 i else P j i := by
    funext i
    simp [va_cpy]
  rw [e1, wld_arr E S x ho ha] at hP1
  exact k h1 h2 H1 locs1 ls hP1 hS1 hl
theorem r_sum (hJ : jR l E "NumberLeases$Pool" cc nL d n0 cap J) {nL' d' : Nat} {cc' : ByteArray} {S : jS} {x : jX} {v v1 : Value} (hc : Cond.code yX4_sum cc' nL' (some .int) ∈ gw) (hs : Cond.static yX4_sum ∈ gw) (hi : Cond.initialized "NumberLeases" ∈ gw) (ct : Ct l E yX4_sum cc' nL' (some .int) d' [v1] (S, x) (some v) (S, x)) (hd : decode cc pc = .ok (.invokestatic 137, 3)) (hdd : d' < d ∧ nL' ≤ 13) (hst : (rest.map fun v => v.category).sum ≤ 8) (k : J (S, x) (pc + 3) L (v :: rest)) : J (S, x) pc L (v1 :: rest) := by
  obtain ⟨p, e, R, s, m, args, below, meth, c, Q, cb, sb, rfl, hfix, hfr, hlo, hce, hsl, hB⟩ := hJ
  obtain ⟨kx, hkx, hM⟩ := ct
  intro h1 h2 H locs ls hP hS hl
  have hkx' : x.2.2 = x.2.2 + kx := hkx
  have h2' : x.2.2 ≤ n0 + cap := h2
  have hr := va_runSN (e := e) (below := below) (meth := meth) (rest := rest) (g := F0 m pc ls (v1 :: rest)) (cells := cb + (x.2.2 - n0)) (slots := sb + 6 * (x.2.2 - n0)) (locs := locs) (As := [v1]) (H := H) hfix hM
    ⟨va_cnB 1 hfix.2.2.2.2 (gI fun w hw => by
      rcases List.mem_cons.mp hw with h | h
      · rw [h]; exact hc
      · exact h) rfl rfl rfl hB.2.2.2.2.2.2.2.2.1 (hfix.2.2.2.2 _ hi) (by decide +kernel) ⟨by show d' + 1 ≤ R.frames; omega, by show 8 + (nL' + 11) + 32 * d' ≤ R.locals; omega⟩, hfix.2.2.2.2 _ hs, trivial⟩
    ⟨jPc_blind E _ (S, x), fun U hU hW => ⟨rfl, by rw [hU]; exact hP, hB.go hS hW hU⟩⟩ rfl rfl hl.1 rfl (lv_room hst) hd ⟨by omega, by omega⟩
  exact jAfter (G := (S, x)) (G' := (S, x)) hB h1 hkx h2 hS hl hr k
end ROWS2
