/-! THE LAW'S OWN ROWS -/
/-- the script: its address, its length, its values -/
abbrev sB (E : jE) : Nat := E.2.2.1.2.1.1
abbrev sL (E : jE) : Nat := E.2.2.1.2.1.2.1
abbrev sX (E : jE) : Nat → Int32 := E.2.2.1.2.1.2.2
section LROWS
variable {l : Launch} {E : jE} {own : String} {cc : ByteArray} {nL d n0 cap : Nat} {J : jT} {G : jG} {pc : Nat} {L : List (Option Value)} {rest : List Value}
theorem r_ldci (hJ : jR l E own cc nL d n0 cap J) {ix : Nat} {v : Int32} (hc : Cond.constant own ix v ∈ gw) (hd : decode cc pc = .ok (.ldc ix, 2)) (k : J G (pc + 2) L (.int v :: rest)) : J G pc L rest := by
  obtain ⟨p, e, R, s, m, args, below, meth, c, Q, cb, sb, rfl, ⟨hx, hb, hml, hown, hts⟩, hfr, hlo, hce, hsl, hB⟩ := hJ
  intro h1 h2 H locs ls hP hS hl
  exact lv_ldc hx hb hown (hts _ hc) hd (k h1 h2 H locs ls hP hS hl)
theorem r_idiv (hJ : jR l E own cc nL d n0 cap J) {a n : Nat} (ha : a < 2 ^ 31) (h0 : 0 < n) (hn : n < 2 ^ 31) (hd : decode cc pc = .ok (.idiv, 1)) (k : J G (pc + 1) L (.int (nI (a / n)) :: rest)) : J G pc L (.int (nI n) :: .int (nI a) :: rest) := by
  obtain ⟨p, e, R, s, m, args, below, meth, c, Q, cb, sb, rfl, ⟨hx, hb, hml, hown, hts⟩, hfr, hlo, hce, hsl, hB⟩ := hJ
  intro h1 h2 H locs ls hP hS hl
  refine lv_idiv hx hb hd (nI_ne0 h0 hn) ?_
  rw [pk_div ha h0 hn]
  exact k h1 h2 H locs ls hP hS hl
theorem r_irem (hJ : jR l E own cc nL d n0 cap J) {a n : Nat} (ha : a < 2 ^ 31) (h0 : 0 < n) (hn : n < 2 ^ 31) (hd : decode cc pc = .ok (.irem, 1)) (k : J G (pc + 1) L (.int (nI (a % n)) :: rest)) : J G pc L (.int (nI n) :: .int (nI a) :: rest) := by
  obtain ⟨p, e, R, s, m, args, below, meth, c, Q, cb, sb, rfl, ⟨hx, hb, hml, hown, hts⟩, hfr, hlo, hce, hsl, hB⟩ := hJ
  intro h1 h2 H locs ls hP hS hl
  refine lv_irem hx hb hd (nI_ne0 h0 hn) ?_
  rw [pk_rem ha h0 hn]
  exact k h1 h2 H locs ls hP hS hl
theorem jR_L (hJ : jR l E own cc nL d n0 cap J) : sL E ≤ 5000 := by
  obtain ⟨p, e, R, s, m, args, below, meth, c, Q, cb, sb, rfl, ⟨hx, hb, hml, hown, hts⟩, hfr, hlo, hce, hsl, hB⟩ := hJ
  exact hB.2.2.2.2.2.2.2.1.2.2.1
theorem r_sld (hJ : jR l E own cc nL d n0 cap J) {n : Nat} (hn : n < sL E) (hd : decode cc pc = .ok (.iaload, 1)) (k : J G (pc + 1) L (.int (sX E n) :: rest)) : J G pc L (.int (nI n) :: .ref (sB E) :: rest) := by
  obtain ⟨p, e, R, s, m, args, below, meth, c, Q, cb, sb, rfl, ⟨hx, hb, hml, hown, hts⟩, hfr, hlo, hce, hsl, hB⟩ := hJ
  intro h1 h2 H locs ls hP hS hl
  obtain ⟨x1, x2, x3, x4⟩ := hB.2.2.2.2.2.2.2.1
  have x3 : sL E ≤ 5000 := x3
  refine va_sld hx hb x4 (Nat.lt_of_lt_of_le x2 x1) (fun q => absurd q (Nat.not_le.mpr x2)) hS (vp_in_nI hn (by omega)) hd ?_
  rw [nI_clamp (by omega)]
  exact k h1 h2 H locs ls hP hS hl
theorem r_slen (hJ : jR l E own cc nL d n0 cap J) (hd : decode cc pc = .ok (.arraylength, 1)) (k : J G (pc + 1) L (.int (nI (sL E)) :: rest)) : J G pc L (.ref (sB E) :: rest) := by
  obtain ⟨p, e, R, s, m, args, below, meth, c, Q, cb, sb, rfl, ⟨hx, hb, hml, hown, hts⟩, hfr, hlo, hce, hsl, hB⟩ := hJ
  intro h1 h2 H locs ls hP hS hl
  obtain ⟨x1, x2, x3, x4⟩ := hB.2.2.2.2.2.2.2.1
  exact va_slen hx hb x4 (Nat.lt_of_lt_of_le x2 x1) (fun q => absurd q (Nat.not_le.mpr x2)) hS hd (k h1 h2 H locs ls hP hS hl)
/-- L' knows less than L -/
def lless (L' L : List (Option Value)) : Prop := L'.length = L.length ∧ ∀ (i : Nat) (v : Value), L'[i]? = some (some v) → L[i]? = some (some v)
theorem lless_0 : lless [] [] := ⟨rfl, fun _ _ h => h⟩
theorem lless_s {a : Option Value} {L' L : List (Option Value)} (h : lless L' L) : lless (a :: L') (a :: L) := ⟨by simp [h.1], fun i v q => by
  cases i with
  | zero => exact q
  | succ i => exact h.2 i v q⟩
theorem lless_n {a : Option Value} {L' L : List (Option Value)} (h : lless L' L) : lless (none :: L') (a :: L) := ⟨by simp [h.1], fun i v q => by
  cases i with
  | zero => simp at q
  | succ i => exact h.2 i v q⟩
theorem r_fgt (hJ : jR l E own cc nL d n0 cap J) {L' : List (Option Value)} {st : List Value} (h : lless L' L) (k : J G pc L' st) : J G pc L st := by
  obtain ⟨p, e, R, s, m, args, below, meth, c, Q, cb, sb, rfl, -, -⟩ := hJ
  intro h1 h2 H locs ls hP hS hl
  exact k h1 h2 H locs ls hP hS ⟨hl.1, by rw [h.1]; exact hl.2.1, hl.2.2.1, fun i v q => hl.2.2.2 i v (h.2 i v q)⟩
theorem r_if_eq_t (hJ : jR l E own cc nL d n0 cap J) {x : Int32} {off : Int} {tgt : Nat} (h : x = 0) (hd : decode cc pc = .ok (.ifCond .eq off, 3)) (ht : (pc : Int) + off = (tgt : Int)) (k : J G tgt L rest) : J G pc L (.int x :: rest) := r_if_eq hJ hd ht (fun _ => k) (fun q => absurd h q)
theorem r_if_eq_f (hJ : jR l E own cc nL d n0 cap J) {x : Int32} {off : Int} {tgt : Nat} (h : ¬ x = 0) (hd : decode cc pc = .ok (.ifCond .eq off, 3)) (ht : (pc : Int) + off = (tgt : Int)) (k : J G (pc + 3) L rest) : J G pc L (.int x :: rest) := r_if_eq hJ hd ht (fun q => absurd q h) (fun _ => k)
theorem r_icmp_eq_t (hJ : jR l E own cc nL d n0 cap J) {x y : Int32} {off : Int} {tgt : Nat} (h : x = y) (hd : decode cc pc = .ok (.if_icmp .eq off, 3)) (ht : (pc : Int) + off = (tgt : Int)) (k : J G tgt L rest) : J G pc L (.int y :: .int x :: rest) := r_icmp_eq hJ hd ht (fun _ => k) (fun q => absurd h q)
theorem r_icmp_eq_f (hJ : jR l E own cc nL d n0 cap J) {x y : Int32} {off : Int} {tgt : Nat} (h : ¬ x = y) (hd : decode cc pc = .ok (.if_icmp .eq off, 3)) (ht : (pc : Int) + off = (tgt : Int)) (k : J G (pc + 3) L rest) : J G pc L (.int y :: .int x :: rest) := r_icmp_eq hJ hd ht (fun q => absurd q h) (fun _ => k)
theorem r_if_ne_t (hJ : jR l E own cc nL d n0 cap J) {x : Int32} {off : Int} {tgt : Nat} (h : ¬ x = 0) (hd : decode cc pc = .ok (.ifCond .ne off, 3)) (ht : (pc : Int) + off = (tgt : Int)) (k : J G tgt L rest) : J G pc L (.int x :: rest) := r_if_ne hJ hd ht (fun _ => k) (fun q => absurd q h)
theorem r_if_ne_f (hJ : jR l E own cc nL d n0 cap J) {x : Int32} {off : Int} {tgt : Nat} (h : x = 0) (hd : decode cc pc = .ok (.ifCond .ne off, 3)) (ht : (pc : Int) + off = (tgt : Int)) (k : J G (pc + 3) L rest) : J G pc L (.int x :: rest) := r_if_ne hJ hd ht (fun q => absurd h q) (fun _ => k)
theorem r_icmp_ne_t (hJ : jR l E own cc nL d n0 cap J) {x y : Int32} {off : Int} {tgt : Nat} (h : ¬ x = y) (hd : decode cc pc = .ok (.if_icmp .ne off, 3)) (ht : (pc : Int) + off = (tgt : Int)) (k : J G tgt L rest) : J G pc L (.int y :: .int x :: rest) := r_icmp_ne hJ hd ht (fun _ => k) (fun q => absurd q h)
theorem r_icmp_ne_f (hJ : jR l E own cc nL d n0 cap J) {x y : Int32} {off : Int} {tgt : Nat} (h : x = y) (hd : decode cc pc = .ok (.if_icmp .ne off, 3)) (ht : (pc : Int) + off = (tgt : Int)) (k : J G (pc + 3) L rest) : J G pc L (.int y :: .int x :: rest) := r_icmp_ne hJ hd ht (fun q => absurd h q) (fun _ => k)
theorem r_if_lt_t (hJ : jR l E own cc nL d n0 cap J) {x : Int32} {off : Int} {tgt : Nat} (h : x < 0) (hd : decode cc pc = .ok (.ifCond .lt off, 3)) (ht : (pc : Int) + off = (tgt : Int)) (k : J G tgt L rest) : J G pc L (.int x :: rest) := r_if_lt hJ hd ht (fun _ => k) (fun q => absurd h q)
theorem r_if_lt_f (hJ : jR l E own cc nL d n0 cap J) {x : Int32} {off : Int} {tgt : Nat} (h : ¬ x < 0) (hd : decode cc pc = .ok (.ifCond .lt off, 3)) (ht : (pc : Int) + off = (tgt : Int)) (k : J G (pc + 3) L rest) : J G pc L (.int x :: rest) := r_if_lt hJ hd ht (fun q => absurd q h) (fun _ => k)
theorem r_icmp_lt_t (hJ : jR l E own cc nL d n0 cap J) {x y : Int32} {off : Int} {tgt : Nat} (h : x < y) (hd : decode cc pc = .ok (.if_icmp .lt off, 3)) (ht : (pc : Int) + off = (tgt : Int)) (k : J G tgt L rest) : J G pc L (.int y :: .int x :: rest) := r_icmp_lt hJ hd ht (fun _ => k) (fun q => absurd h q)
theorem r_icmp_lt_f (hJ : jR l E own cc nL d n0 cap J) {x y : Int32} {off : Int} {tgt : Nat} (h : ¬ x < y) (hd : decode cc pc = .ok (.if_icmp .lt off, 3)) (ht : (pc : Int) + off = (tgt : Int)) (k : J G (pc + 3) L rest) : J G pc L (.int y :: .int x :: rest) := r_icmp_lt hJ hd ht (fun q => absurd q h) (fun _ => k)
theorem r_if_ge_t (hJ : jR l E own cc nL d n0 cap J) {x : Int32} {off : Int} {tgt : Nat} (h : 0 ≤ x) (hd : decode cc pc = .ok (.ifCond .ge off, 3)) (ht : (pc : Int) + off = (tgt : Int)) (k : J G tgt L rest) : J G pc L (.int x :: rest) := r_if_ge hJ hd ht (fun _ => k) (fun q => absurd h q)
theorem r_if_ge_f (hJ : jR l E own cc nL d n0 cap J) {x : Int32} {off : Int} {tgt : Nat} (h : ¬ 0 ≤ x) (hd : decode cc pc = .ok (.ifCond .ge off, 3)) (ht : (pc : Int) + off = (tgt : Int)) (k : J G (pc + 3) L rest) : J G pc L (.int x :: rest) := r_if_ge hJ hd ht (fun q => absurd q h) (fun _ => k)
theorem r_icmp_ge_t (hJ : jR l E own cc nL d n0 cap J) {x y : Int32} {off : Int} {tgt : Nat} (h : y ≤ x) (hd : decode cc pc = .ok (.if_icmp .ge off, 3)) (ht : (pc : Int) + off = (tgt : Int)) (k : J G tgt L rest) : J G pc L (.int y :: .int x :: rest) := r_icmp_ge hJ hd ht (fun _ => k) (fun q => absurd h q)
theorem r_icmp_ge_f (hJ : jR l E own cc nL d n0 cap J) {x y : Int32} {off : Int} {tgt : Nat} (h : ¬ y ≤ x) (hd : decode cc pc = .ok (.if_icmp .ge off, 3)) (ht : (pc : Int) + off = (tgt : Int)) (k : J G (pc + 3) L rest) : J G pc L (.int y :: .int x :: rest) := r_icmp_ge hJ hd ht (fun q => absurd q h) (fun _ => k)
theorem r_if_gt_t (hJ : jR l E own cc nL d n0 cap J) {x : Int32} {off : Int} {tgt : Nat} (h : 0 < x) (hd : decode cc pc = .ok (.ifCond .gt off, 3)) (ht : (pc : Int) + off = (tgt : Int)) (k : J G tgt L rest) : J G pc L (.int x :: rest) := r_if_gt hJ hd ht (fun _ => k) (fun q => absurd h q)
theorem r_if_gt_f (hJ : jR l E own cc nL d n0 cap J) {x : Int32} {off : Int} {tgt : Nat} (h : ¬ 0 < x) (hd : decode cc pc = .ok (.ifCond .gt off, 3)) (ht : (pc : Int) + off = (tgt : Int)) (k : J G (pc + 3) L rest) : J G pc L (.int x :: rest) := r_if_gt hJ hd ht (fun q => absurd q h) (fun _ => k)
theorem r_icmp_gt_t (hJ : jR l E own cc nL d n0 cap J) {x y : Int32} {off : Int} {tgt : Nat} (h : y < x) (hd : decode cc pc = .ok (.if_icmp .gt off, 3)) (ht : (pc : Int) + off = (tgt : Int)) (k : J G tgt L rest) : J G pc L (.int y :: .int x :: rest) := r_icmp_gt hJ hd ht (fun _ => k) (fun q => absurd h q)
theorem r_icmp_gt_f (hJ : jR l E own cc nL d n0 cap J) {x y : Int32} {off : Int} {tgt : Nat} (h : ¬ y < x) (hd : decode cc pc = .ok (.if_icmp .gt off, 3)) (ht : (pc : Int) + off = (tgt : Int)) (k : J G (pc + 3) L rest) : J G pc L (.int y :: .int x :: rest) := r_icmp_gt hJ hd ht (fun q => absurd q h) (fun _ => k)
theorem r_if_le_t (hJ : jR l E own cc nL d n0 cap J) {x : Int32} {off : Int} {tgt : Nat} (h : x ≤ 0) (hd : decode cc pc = .ok (.ifCond .le off, 3)) (ht : (pc : Int) + off = (tgt : Int)) (k : J G tgt L rest) : J G pc L (.int x :: rest) := r_if_le hJ hd ht (fun _ => k) (fun q => absurd h q)
theorem r_if_le_f (hJ : jR l E own cc nL d n0 cap J) {x : Int32} {off : Int} {tgt : Nat} (h : ¬ x ≤ 0) (hd : decode cc pc = .ok (.ifCond .le off, 3)) (ht : (pc : Int) + off = (tgt : Int)) (k : J G (pc + 3) L rest) : J G pc L (.int x :: rest) := r_if_le hJ hd ht (fun q => absurd q h) (fun _ => k)
theorem r_icmp_le_t (hJ : jR l E own cc nL d n0 cap J) {x y : Int32} {off : Int} {tgt : Nat} (h : x ≤ y) (hd : decode cc pc = .ok (.if_icmp .le off, 3)) (ht : (pc : Int) + off = (tgt : Int)) (k : J G tgt L rest) : J G pc L (.int y :: .int x :: rest) := r_icmp_le hJ hd ht (fun _ => k) (fun q => absurd h q)
theorem r_icmp_le_f (hJ : jR l E own cc nL d n0 cap J) {x y : Int32} {off : Int} {tgt : Nat} (h : ¬ x ≤ y) (hd : decode cc pc = .ok (.if_icmp .le off, 3)) (ht : (pc : Int) + off = (tgt : Int)) (k : J G (pc + 3) L rest) : J G pc L (.int y :: .int x :: rest) := r_icmp_le hJ hd ht (fun q => absurd q h) (fun _ => k)
theorem r_iaddN (hJ : jR l E own cc nL d n0 cap J) {a b : Nat} (hd : decode cc pc = .ok (.iadd, 1)) (k : J G (pc + 1) L (.int (nI (a + b)) :: rest)) : J G pc L (.int (nI b) :: .int (nI a) :: rest) := r_iadd hJ hd (by rw [nI_add]; exact k)
theorem r_imulN (hJ : jR l E own cc nL d n0 cap J) {a b : Nat} (hd : decode cc pc = .ok (.imul, 1)) (k : J G (pc + 1) L (.int (nI (a * b)) :: rest)) : J G pc L (.int (nI b) :: .int (nI a) :: rest) := r_imul hJ hd (by rw [pk_mul]; exact k)
end LROWS
/-- a value's lowest 31 bits, by n -/
theorem c_low (l : Launch) (E : jE) (G : jG) (v : Int32) {n : Nat} (h0 : 0 < n) (hn : n < 2 ^ 31) : ∃ r, r < n ∧ Ct l E yL_low cL_low 2 (some .int) 1 [.int v, .int (nI n)] G (some (.int (nI r))) G := by
  obtain ⟨j, hj, e⟩ := pk_andE v (m := 2147483647) 31 (by decide)
  refine ⟨j % n, Nat.mod_lt _ h0, Ct.of (by decide +kernel) (Nat.le_refl _) (Nat.le_of_ble_eq_true rfl) rfl (fun J hJ hF => ?_)⟩
  refine r_iload_n hJ dL_low_0 rfl jg0 ?_
  refine r_ldci hJ m286 dL_low_1 ?_
  refine r_iand hJ dL_low_3 ?_
  rw [e]
  refine r_iload_n hJ dL_low_4 rfl jg1 ?_
  refine r_irem hJ hj h0 hn dL_low_5 ?_
  exact hF.1 _ _ _ rfl rfl dL_low_6
/-- a value of the script, or, behind its end, one by its place -/
theorem c_cell (l : Launch) (E : jE) (G : jG) {k : Nat} (hk : k < 2 ^ 30) : ∃ v, Ct l E yL_cell cL_cell 2 (some .int) 1 [.ref (sB E), .int (nI k)] G (some (.int v)) G := by
  by_cases h : k < sL E
  · refine ⟨sX E k, Ct.of (by decide +kernel) (Nat.le_refl _) (Nat.le_of_ble_eq_true rfl) rfl (fun J hJ hF => ?_)⟩
    have hL := jR_L hJ
    refine r_iload_n hJ dL_cell_0 rfl jg1 ?_
    refine r_aload_n hJ dL_cell_1 rfl jg0 ?_
    refine r_slen hJ dL_cell_2 ?_
    refine r_icmp_ge_f hJ (tgt := 12) (nI_ge h (by omega)) dL_cell_3 (by decide) ?_
    refine r_aload_n hJ dL_cell_6 rfl jg0 ?_
    refine r_iload_n hJ dL_cell_7 rfl jg1 ?_
    refine r_sld hJ h dL_cell_8 ?_
    refine r_goto hJ (tgt := 20) dL_cell_9 (by decide) ?_
    exact hF.1 _ _ _ rfl rfl dL_cell_20
  · refine ⟨40503 * nI k + 977, Ct.of (by decide +kernel) (Nat.le_refl _) (Nat.le_of_ble_eq_true rfl) rfl (fun J hJ hF => ?_)⟩
    have hL := jR_L hJ
    refine r_iload_n hJ dL_cell_0 rfl jg1 ?_
    refine r_aload_n hJ dL_cell_1 rfl jg0 ?_
    refine r_slen hJ dL_cell_2 ?_
    refine r_icmp_ge_t hJ (tgt := 12) (nI_le (Nat.not_lt.mp h) (by omega)) dL_cell_3 (by decide) ?_
    refine r_ldci hJ m290 dL_cell_12 ?_
    refine r_iload_n hJ dL_cell_14 rfl jg1 ?_
    refine r_imul hJ dL_cell_15 ?_
    refine r_sipush hJ (v := 977) dL_cell_16 (by decide) ?_
    refine r_iadd hJ dL_cell_19 ?_
    exact hF.1 _ _ _ rfl rfl dL_cell_20
