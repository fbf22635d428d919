/-! THE CONSTRUCTORS -/
/-- the cells of object o -/
def blk (E : jE) (k : jX) (o : Nat) (P : jO) : List va_E := (List.range (wid o)).map fun j => cel E k o P j
theorem blk_len (E : jE) (k : jX) (o : Nat) (P : jO) : (blk E k o P).length = wid o := by simp [blk]
def zer : Nat → Int32 := fun _ => 0
def pS0 : Nat → Int32 := upd (upd (upd (upd zer 0 (nI 5)) 1 (nI 16)) 2 (nI 0)) 3 (nI 32)
def pW (i : Nat) : Nat → Int32 := fun q => if q < i then -1 else 0
theorem pW_0 : pW 0 = zer := by funext q; simp [pW, zer]
theorem pW_s (i : Nat) : upd (pW i) i (-1) = pW (i + 1) := by
  funext q
  by_cases h : q = i
  · subst h
    simp [upd, pW]
  · have e : (q < i) = (q < i + 1) := propext ⟨fun _ => by omega, fun _ => by omega⟩
    simp [upd, pW, h, e]
/-- a new pool -/
def pool0 : jO := fun j => if j = 1 then pS0 else if j = 2 then pW 64 else zer
def obj0 : jO := fun _ => zer
theorem blk_pool (E : jE) (k : jX) {o : Nat} (ho : o < 8) : blk E k o pool0 = [.inr (1, [.int 0, .int 0, .int 0, .int 0, .ref (ad E o 1), .ref (ad E o 2), .ref (ad E o 3), .ref (ad E o 4), .ref (ad E o 5), .ref (ad E o 6), .ref (ad E o 7), .ref (ad E o 8), .ref (ad E o 9), .ref (ad E o 10), .ref (ad E o 11), .ref (ad E o 12)]), .inl (E.2.2.1.1, 4, .inl pS0), .inl (E.2.2.1.1, 64, .inl (pW 64)), .inl (E.2.2.1.1, 64, .inl zer), .inl (E.2.2.1.1, 64, .inl zer), .inl (E.2.2.1.1, 64, .inl zer), .inl (E.2.2.1.1, 64, .inl zer), .inl (E.2.2.1.1, 64, .inl zer), .inl (E.2.2.1.1, 192, .inl zer), .inl (E.2.2.1.1, 192, .inl zer), .inl (E.2.2.1.1, 8, .inl zer), .inl (E.2.2.1.1, 8, .inl zer), .inl (E.2.2.1.1, 8, .inl zer)] := by
  have hw : wid o = 13 := by simp [wid, ho]
  unfold blk
  rw [hw]
  simp [List.range, List.range.loop, cel, aln, scal, ho, pool0]
  rfl
theorem blk_ord (E : jE) (k : jX) : blk E k 8 obj0 = [.inr (0, [.ref (ad E 8 1), .int 0, .int 0, .int 0, .int 0, .int 0, .int 0, .int 0]), .inl (E.2.2.1.1, 60, .inl zer)] := rfl
theorem blk_sav (E : jE) (k : jX) : blk E k 9 obj0 = [.inr (2, [.ref (ad E 9 1), .int 0]), .inl (E.2.2.1.2.2, 6, .inr (.inr (.inr (.inr fun i => some (ad E (k.1 i) 0)))))] := rfl
theorem blk_nul (E : jE) (k : jX) : blk E k 11 obj0 = [.inr (3, [.ref (ad E 0 0), .ref (ad E 1 0), .ref (ad E 9 0), .ref (ad E 8 0)])] := rfl
theorem i_ord (l : Launch) (E : jE) (k : jX) {pre : List va_E} (hpre : pre.length = bas 8) : CtI l E yX1_init cX1_init 1 1 (ad E 8 0) pre [.inr (0, [.null, .int 0, .int 0, .int 0, .int 0, .int 0, .int 0, .int 0])] (blk E k 8 obj0) 1 60 := by
  rw [blk_ord]
  refine CtI.of (by decide) (by decide) (by decide) rfl ?_
  intro J hJ hR
  refine i_aload_n hJ dX1_init_0 rfl jg0 ?_
  refine i_obj hJ m127 dX1_init_1 (by decide) (Nat.le_of_ble_eq_true rfl) ?_
  refine i_aload_n hJ dX1_init_4 rfl jg0 ?_
  refine i_bipush hJ (v := nI 60) dX1_init_5 (by decide) ?_
  refine i_newa hJ rfl (by decide) (Nat.le_of_ble_eq_true rfl) (Nat.le_of_ble_eq_true rfl) (a := ad E 8 1) (by rw [hpre]; rfl) dX1_init_7 ?_
  show J [.inr (0, [.null, .int 0, .int 0, .int 0, .int 0, .int 0, .int 0, .int 0]), .inl (E.2.2.1.1, 60, .inl zer)] _ _ _ _ _
  refine i_putF (ini0 := true) rfl hJ (j := 0) (ci := 0) (C := RX1) (T := TX1) (N := 8) (kf := 0) (t := .array .int) (ty := tyX1) (xs' := [.inr (0, [.ref (ad E 8 1), .int 0, .int 0, .int 0, .int 0, .int 0, .int 0, .int 0]), .inl (E.2.2.1.1, 60, .inl zer)]) rfl (by rw [hpre]; rfl) rfl rfl iX1 tyX1_ok nmX1 (by decide) m128 rfl rfl (by decide +kernel) rfl rfl (Nat.le_of_ble_eq_true rfl) dX1_init_9 ?_
  exact hR _ _ dX1_init_12
theorem i_pool (l : Launch) (E : jE) (k : jX) {o : Nat} {pre : List va_E} (ho : o < 8) (hpre : pre.length = bas o) : CtI l E yX2_init cX2_init 2 1 (ad E o 0) pre [.inr (1, [.int 0, .int 0, .int 0, .int 0, .null, .null, .null, .null, .null, .null, .null, .null, .null, .null, .null, .null])] (blk E k o pool0) 12 796 := by
  rw [blk_pool E k ho]
  refine CtI.of (by decide) (by decide) (by decide) rfl ?_
  intro J hJ hR
  have loop : ∀ r i, i + r = 64 → J [.inr (1, [.int 0, .int 0, .int 0, .int 0, .ref (ad E o 1), .ref (ad E o 2), .ref (ad E o 3), .ref (ad E o 4), .ref (ad E o 5), .ref (ad E o 6), .ref (ad E o 7), .ref (ad E o 8), .ref (ad E o 9), .ref (ad E o 10), .ref (ad E o 11), .ref (ad E o 12)]), .inl (E.2.2.1.1, 4, .inl pS0), .inl (E.2.2.1.1, 64, .inl (pW i)), .inl (E.2.2.1.1, 64, .inl zer), .inl (E.2.2.1.1, 64, .inl zer), .inl (E.2.2.1.1, 64, .inl zer), .inl (E.2.2.1.1, 64, .inl zer), .inl (E.2.2.1.1, 64, .inl zer), .inl (E.2.2.1.1, 192, .inl zer), .inl (E.2.2.1.1, 192, .inl zer), .inl (E.2.2.1.1, 8, .inl zer), .inl (E.2.2.1.1, 8, .inl zer), .inl (E.2.2.1.1, 8, .inl zer)] 12 796 121 [some (.ref (ad E o 0)), some (.int (nI i))] [] := by
    intro r
    induction r with
    | zero =>
      intro i hi
      obtain rfl : i = 64 := by omega
      refine i_iload_n hJ dX2_init_121 rfl jg1 ?_
      refine i_bipush hJ (v := nI 64) dX2_init_122 (by decide) ?_
      refine i_icmp_ge hJ (tgt := 140) dX2_init_124 (by decide) (fun _ => ?_) (fun c => absurd (Int32.le_refl _) c)
      exact hR _ _ dX2_init_140
    | succ r ih =>
      intro i hi
      refine i_iload_n hJ dX2_init_121 rfl jg1 ?_
      refine i_bipush hJ (v := nI 64) dX2_init_122 (by decide) ?_
      refine i_icmp_ge hJ (tgt := 140) dX2_init_124 (by decide) (fun c => absurd c (nI_ge (by omega) (by omega))) (fun _ => ?_)
      refine i_aload_n hJ dX2_init_127 rfl jg0 ?_
      refine i_get hJ (j := 0) (ci := 1) (C := RX2) (T := TX2) (N := 16) (kf := 5) rfl (by rw [hpre]; rfl) rfl iX2 (by decide) m58 rfl dX2_init_128 ?_
      refine i_iload_n hJ dX2_init_131 rfl jg1 ?_
      refine i_iconst hJ (v := (-1)) dX2_init_132 (by decide) ?_
      refine i_iast hJ (j := 2) (n := i) (N := 64) (xs' := [.inr (1, [.int 0, .int 0, .int 0, .int 0, .ref (ad E o 1), .ref (ad E o 2), .ref (ad E o 3), .ref (ad E o 4), .ref (ad E o 5), .ref (ad E o 6), .ref (ad E o 7), .ref (ad E o 8), .ref (ad E o 9), .ref (ad E o 10), .ref (ad E o 11), .ref (ad E o 12)]), .inl (E.2.2.1.1, 4, .inl pS0), .inl (E.2.2.1.1, 64, .inl (pW (i + 1))), .inl (E.2.2.1.1, 64, .inl zer), .inl (E.2.2.1.1, 64, .inl zer), .inl (E.2.2.1.1, 64, .inl zer), .inl (E.2.2.1.1, 64, .inl zer), .inl (E.2.2.1.1, 64, .inl zer), .inl (E.2.2.1.1, 192, .inl zer), .inl (E.2.2.1.1, 192, .inl zer), .inl (E.2.2.1.1, 8, .inl zer), .inl (E.2.2.1.1, 8, .inl zer), .inl (E.2.2.1.1, 8, .inl zer)]) rfl (by rw [hpre]; rfl) rfl (by omega) (by decide) (pW_s i) rfl dX2_init_133 ?_
      refine i_iinc hJ dX2_init_134 jg1 (ii1 i) (jp1 rfl rfl) ?_
      refine i_goto hJ (tgt := 121) dX2_init_137 (by decide) ?_
      exact ih (i + 1) (by omega)
  have h0 := loop 64 0 (by omega)
  rw [pW_0] at h0
  refine i_aload_n hJ dX2_init_0 rfl jg0 ?_
  refine i_obj hJ m50 dX2_init_1 (by decide) (Nat.le_of_ble_eq_true rfl) ?_
  refine i_aload_n hJ dX2_init_4 rfl jg0 ?_
  refine i_iconst hJ (v := nI 4) dX2_init_5 (by decide) ?_
  refine i_newa hJ rfl (by decide) (Nat.le_of_ble_eq_true rfl) (Nat.le_of_ble_eq_true rfl) (a := ad E o 1) (by rw [hpre]; rfl) dX2_init_6 ?_
  show J [.inr (1, [.int 0, .int 0, .int 0, .int 0, .null, .null, .null, .null, .null, .null, .null, .null, .null, .null, .null, .null]), .inl (E.2.2.1.1, 4, .inl zer)] _ _ _ _ _
  refine i_dup hJ dX2_init_8 rfl ?_
  refine i_iconst hJ (v := nI 0) dX2_init_9 (by decide) ?_
  refine i_iconst hJ (v := nI 5) dX2_init_10 (by decide) ?_
  refine i_iast hJ (j := 1) (n := 0) (N := 4) (xs' := [.inr (1, [.int 0, .int 0, .int 0, .int 0, .null, .null, .null, .null, .null, .null, .null, .null, .null, .null, .null, .null]), .inl (E.2.2.1.1, 4, .inl (upd zer 0 (nI 5)))]) rfl (by rw [hpre]; rfl) rfl (by decide) (by decide) rfl rfl dX2_init_11 ?_
  refine i_dup hJ dX2_init_12 rfl ?_
  refine i_iconst hJ (v := nI 1) dX2_init_13 (by decide) ?_
  refine i_bipush hJ (v := nI 16) dX2_init_14 (by decide) ?_
  refine i_iast hJ (j := 1) (n := 1) (N := 4) (xs' := [.inr (1, [.int 0, .int 0, .int 0, .int 0, .null, .null, .null, .null, .null, .null, .null, .null, .null, .null, .null, .null]), .inl (E.2.2.1.1, 4, .inl (upd (upd zer 0 (nI 5)) 1 (nI 16)))]) rfl (by rw [hpre]; rfl) rfl (by decide) (by decide) rfl rfl dX2_init_16 ?_
  refine i_dup hJ dX2_init_17 rfl ?_
  refine i_iconst hJ (v := nI 2) dX2_init_18 (by decide) ?_
  refine i_iconst hJ (v := nI 0) dX2_init_19 (by decide) ?_
  refine i_iast hJ (j := 1) (n := 2) (N := 4) (xs' := [.inr (1, [.int 0, .int 0, .int 0, .int 0, .null, .null, .null, .null, .null, .null, .null, .null, .null, .null, .null, .null]), .inl (E.2.2.1.1, 4, .inl (upd (upd (upd zer 0 (nI 5)) 1 (nI 16)) 2 (nI 0)))]) rfl (by rw [hpre]; rfl) rfl (by decide) (by decide) rfl rfl dX2_init_20 ?_
  refine i_dup hJ dX2_init_21 rfl ?_
  refine i_iconst hJ (v := nI 3) dX2_init_22 (by decide) ?_
  refine i_bipush hJ (v := nI 32) dX2_init_23 (by decide) ?_
  refine i_iast hJ (j := 1) (n := 3) (N := 4) (xs' := [.inr (1, [.int 0, .int 0, .int 0, .int 0, .null, .null, .null, .null, .null, .null, .null, .null, .null, .null, .null, .null]), .inl (E.2.2.1.1, 4, .inl (upd (upd (upd (upd zer 0 (nI 5)) 1 (nI 16)) 2 (nI 0)) 3 (nI 32)))]) rfl (by rw [hpre]; rfl) rfl (by decide) (by decide) rfl rfl dX2_init_25 ?_
  refine i_putF (ini0 := true) rfl hJ (j := 0) (ci := 1) (C := RX2) (T := TX2) (N := 16) (kf := 4) (t := .array .int) (ty := tyX2) (xs' := [.inr (1, [.int 0, .int 0, .int 0, .int 0, .ref (ad E o 1), .null, .null, .null, .null, .null, .null, .null, .null, .null, .null, .null]), .inl (E.2.2.1.1, 4, .inl (upd (upd (upd (upd zer 0 (nI 5)) 1 (nI 16)) 2 (nI 0)) 3 (nI 32)))]) rfl (by rw [hpre]; rfl) rfl rfl iX2 tyX2_ok nmX2 (by decide) m56 rfl rfl (by decide +kernel) rfl rfl (Nat.le_of_ble_eq_true rfl) dX2_init_26 ?_
  refine i_aload_n hJ dX2_init_29 rfl jg0 ?_
  refine i_bipush hJ (v := nI 64) dX2_init_30 (by decide) ?_
  refine i_newa hJ rfl (by decide) (Nat.le_of_ble_eq_true rfl) (Nat.le_of_ble_eq_true rfl) (a := ad E o 2) (by rw [hpre]; rfl) dX2_init_32 ?_
  show J [.inr (1, [.int 0, .int 0, .int 0, .int 0, .ref (ad E o 1), .null, .null, .null, .null, .null, .null, .null, .null, .null, .null, .null]), .inl (E.2.2.1.1, 4, .inl (upd (upd (upd (upd zer 0 (nI 5)) 1 (nI 16)) 2 (nI 0)) 3 (nI 32))), .inl (E.2.2.1.1, 64, .inl zer)] _ _ _ _ _
  refine i_putF (ini0 := true) rfl hJ (j := 0) (ci := 1) (C := RX2) (T := TX2) (N := 16) (kf := 5) (t := .array .int) (ty := tyX2) (xs' := [.inr (1, [.int 0, .int 0, .int 0, .int 0, .ref (ad E o 1), .ref (ad E o 2), .null, .null, .null, .null, .null, .null, .null, .null, .null, .null]), .inl (E.2.2.1.1, 4, .inl (upd (upd (upd (upd zer 0 (nI 5)) 1 (nI 16)) 2 (nI 0)) 3 (nI 32))), .inl (E.2.2.1.1, 64, .inl zer)]) rfl (by rw [hpre]; rfl) rfl rfl iX2 tyX2_ok nmX2 (by decide) m58 rfl rfl (by decide +kernel) rfl rfl (Nat.le_of_ble_eq_true rfl) dX2_init_34 ?_
  refine i_aload_n hJ dX2_init_37 rfl jg0 ?_
  refine i_bipush hJ (v := nI 64) dX2_init_38 (by decide) ?_
  refine i_newa hJ rfl (by decide) (Nat.le_of_ble_eq_true rfl) (Nat.le_of_ble_eq_true rfl) (a := ad E o 3) (by rw [hpre]; rfl) dX2_init_40 ?_
  show J [.inr (1, [.int 0, .int 0, .int 0, .int 0, .ref (ad E o 1), .ref (ad E o 2), .null, .null, .null, .null, .null, .null, .null, .null, .null, .null]), .inl (E.2.2.1.1, 4, .inl (upd (upd (upd (upd zer 0 (nI 5)) 1 (nI 16)) 2 (nI 0)) 3 (nI 32))), .inl (E.2.2.1.1, 64, .inl zer), .inl (E.2.2.1.1, 64, .inl zer)] _ _ _ _ _
  refine i_putF (ini0 := true) rfl hJ (j := 0) (ci := 1) (C := RX2) (T := TX2) (N := 16) (kf := 6) (t := .array .int) (ty := tyX2) (xs' := [.inr (1, [.int 0, .int 0, .int 0, .int 0, .ref (ad E o 1), .ref (ad E o 2), .ref (ad E o 3), .null, .null, .null, .null, .null, .null, .null, .null, .null]), .inl (E.2.2.1.1, 4, .inl (upd (upd (upd (upd zer 0 (nI 5)) 1 (nI 16)) 2 (nI 0)) 3 (nI 32))), .inl (E.2.2.1.1, 64, .inl zer), .inl (E.2.2.1.1, 64, .inl zer)]) rfl (by rw [hpre]; rfl) rfl rfl iX2 tyX2_ok nmX2 (by decide) m60 rfl rfl (by decide +kernel) rfl rfl (Nat.le_of_ble_eq_true rfl) dX2_init_42 ?_
  refine i_aload_n hJ dX2_init_45 rfl jg0 ?_
  refine i_bipush hJ (v := nI 64) dX2_init_46 (by decide) ?_
  refine i_newa hJ rfl (by decide) (Nat.le_of_ble_eq_true rfl) (Nat.le_of_ble_eq_true rfl) (a := ad E o 4) (by rw [hpre]; rfl) dX2_init_48 ?_
  show J [.inr (1, [.int 0, .int 0, .int 0, .int 0, .ref (ad E o 1), .ref (ad E o 2), .ref (ad E o 3), .null, .null, .null, .null, .null, .null, .null, .null, .null]), .inl (E.2.2.1.1, 4, .inl (upd (upd (upd (upd zer 0 (nI 5)) 1 (nI 16)) 2 (nI 0)) 3 (nI 32))), .inl (E.2.2.1.1, 64, .inl zer), .inl (E.2.2.1.1, 64, .inl zer), .inl (E.2.2.1.1, 64, .inl zer)] _ _ _ _ _
  refine i_putF (ini0 := true) rfl hJ (j := 0) (ci := 1) (C := RX2) (T := TX2) (N := 16) (kf := 7) (t := .array .int) (ty := tyX2) (xs' := [.inr (1, [.int 0, .int 0, .int 0, .int 0, .ref (ad E o 1), .ref (ad E o 2), .ref (ad E o 3), .ref (ad E o 4), .null, .null, .null, .null, .null, .null, .null, .null]), .inl (E.2.2.1.1, 4, .inl (upd (upd (upd (upd zer 0 (nI 5)) 1 (nI 16)) 2 (nI 0)) 3 (nI 32))), .inl (E.2.2.1.1, 64, .inl zer), .inl (E.2.2.1.1, 64, .inl zer), .inl (E.2.2.1.1, 64, .inl zer)]) rfl (by rw [hpre]; rfl) rfl rfl iX2 tyX2_ok nmX2 (by decide) m61 rfl rfl (by decide +kernel) rfl rfl (Nat.le_of_ble_eq_true rfl) dX2_init_50 ?_
  refine i_aload_n hJ dX2_init_53 rfl jg0 ?_
  refine i_bipush hJ (v := nI 64) dX2_init_54 (by decide) ?_
  refine i_newa hJ rfl (by decide) (Nat.le_of_ble_eq_true rfl) (Nat.le_of_ble_eq_true rfl) (a := ad E o 5) (by rw [hpre]; rfl) dX2_init_56 ?_
  show J [.inr (1, [.int 0, .int 0, .int 0, .int 0, .ref (ad E o 1), .ref (ad E o 2), .ref (ad E o 3), .ref (ad E o 4), .null, .null, .null, .null, .null, .null, .null, .null]), .inl (E.2.2.1.1, 4, .inl (upd (upd (upd (upd zer 0 (nI 5)) 1 (nI 16)) 2 (nI 0)) 3 (nI 32))), .inl (E.2.2.1.1, 64, .inl zer), .inl (E.2.2.1.1, 64, .inl zer), .inl (E.2.2.1.1, 64, .inl zer), .inl (E.2.2.1.1, 64, .inl zer)] _ _ _ _ _
  refine i_putF (ini0 := true) rfl hJ (j := 0) (ci := 1) (C := RX2) (T := TX2) (N := 16) (kf := 8) (t := .array .int) (ty := tyX2) (xs' := [.inr (1, [.int 0, .int 0, .int 0, .int 0, .ref (ad E o 1), .ref (ad E o 2), .ref (ad E o 3), .ref (ad E o 4), .ref (ad E o 5), .null, .null, .null, .null, .null, .null, .null]), .inl (E.2.2.1.1, 4, .inl (upd (upd (upd (upd zer 0 (nI 5)) 1 (nI 16)) 2 (nI 0)) 3 (nI 32))), .inl (E.2.2.1.1, 64, .inl zer), .inl (E.2.2.1.1, 64, .inl zer), .inl (E.2.2.1.1, 64, .inl zer), .inl (E.2.2.1.1, 64, .inl zer)]) rfl (by rw [hpre]; rfl) rfl rfl iX2 tyX2_ok nmX2 (by decide) m62 rfl rfl (by decide +kernel) rfl rfl (Nat.le_of_ble_eq_true rfl) dX2_init_58 ?_
  refine i_aload_n hJ dX2_init_61 rfl jg0 ?_
  refine i_bipush hJ (v := nI 64) dX2_init_62 (by decide) ?_
  refine i_newa hJ rfl (by decide) (Nat.le_of_ble_eq_true rfl) (Nat.le_of_ble_eq_true rfl) (a := ad E o 6) (by rw [hpre]; rfl) dX2_init_64 ?_
  show J [.inr (1, [.int 0, .int 0, .int 0, .int 0, .ref (ad E o 1), .ref (ad E o 2), .ref (ad E o 3), .ref (ad E o 4), .ref (ad E o 5), .null, .null, .null, .null, .null, .null, .null]), .inl (E.2.2.1.1, 4, .inl (upd (upd (upd (upd zer 0 (nI 5)) 1 (nI 16)) 2 (nI 0)) 3 (nI 32))), .inl (E.2.2.1.1, 64, .inl zer), .inl (E.2.2.1.1, 64, .inl zer), .inl (E.2.2.1.1, 64, .inl zer), .inl (E.2.2.1.1, 64, .inl zer), .inl (E.2.2.1.1, 64, .inl zer)] _ _ _ _ _
  refine i_putF (ini0 := true) rfl hJ (j := 0) (ci := 1) (C := RX2) (T := TX2) (N := 16) (kf := 9) (t := .array .int) (ty := tyX2) (xs' := [.inr (1, [.int 0, .int 0, .int 0, .int 0, .ref (ad E o 1), .ref (ad E o 2), .ref (ad E o 3), .ref (ad E o 4), .ref (ad E o 5), .ref (ad E o 6), .null, .null, .null, .null, .null, .null]), .inl (E.2.2.1.1, 4, .inl (upd (upd (upd (upd zer 0 (nI 5)) 1 (nI 16)) 2 (nI 0)) 3 (nI 32))), .inl (E.2.2.1.1, 64, .inl zer), .inl (E.2.2.1.1, 64, .inl zer), .inl (E.2.2.1.1, 64, .inl zer), .inl (E.2.2.1.1, 64, .inl zer), .inl (E.2.2.1.1, 64, .inl zer)]) rfl (by rw [hpre]; rfl) rfl rfl iX2 tyX2_ok nmX2 (by decide) m63 rfl rfl (by decide +kernel) rfl rfl (Nat.le_of_ble_eq_true rfl) dX2_init_66 ?_
  refine i_aload_n hJ dX2_init_69 rfl jg0 ?_
  refine i_bipush hJ (v := nI 64) dX2_init_70 (by decide) ?_
  refine i_newa hJ rfl (by decide) (Nat.le_of_ble_eq_true rfl) (Nat.le_of_ble_eq_true rfl) (a := ad E o 7) (by rw [hpre]; rfl) dX2_init_72 ?_
  show J [.inr (1, [.int 0, .int 0, .int 0, .int 0, .ref (ad E o 1), .ref (ad E o 2), .ref (ad E o 3), .ref (ad E o 4), .ref (ad E o 5), .ref (ad E o 6), .null, .null, .null, .null, .null, .null]), .inl (E.2.2.1.1, 4, .inl (upd (upd (upd (upd zer 0 (nI 5)) 1 (nI 16)) 2 (nI 0)) 3 (nI 32))), .inl (E.2.2.1.1, 64, .inl zer), .inl (E.2.2.1.1, 64, .inl zer), .inl (E.2.2.1.1, 64, .inl zer), .inl (E.2.2.1.1, 64, .inl zer), .inl (E.2.2.1.1, 64, .inl zer), .inl (E.2.2.1.1, 64, .inl zer)] _ _ _ _ _
  refine i_putF (ini0 := true) rfl hJ (j := 0) (ci := 1) (C := RX2) (T := TX2) (N := 16) (kf := 10) (t := .array .int) (ty := tyX2) (xs' := [.inr (1, [.int 0, .int 0, .int 0, .int 0, .ref (ad E o 1), .ref (ad E o 2), .ref (ad E o 3), .ref (ad E o 4), .ref (ad E o 5), .ref (ad E o 6), .ref (ad E o 7), .null, .null, .null, .null, .null]), .inl (E.2.2.1.1, 4, .inl (upd (upd (upd (upd zer 0 (nI 5)) 1 (nI 16)) 2 (nI 0)) 3 (nI 32))), .inl (E.2.2.1.1, 64, .inl zer), .inl (E.2.2.1.1, 64, .inl zer), .inl (E.2.2.1.1, 64, .inl zer), .inl (E.2.2.1.1, 64, .inl zer), .inl (E.2.2.1.1, 64, .inl zer), .inl (E.2.2.1.1, 64, .inl zer)]) rfl (by rw [hpre]; rfl) rfl rfl iX2 tyX2_ok nmX2 (by decide) m64 rfl rfl (by decide +kernel) rfl rfl (Nat.le_of_ble_eq_true rfl) dX2_init_74 ?_
  refine i_aload_n hJ dX2_init_77 rfl jg0 ?_
  refine i_sipush hJ (v := nI 192) dX2_init_78 (by decide) ?_
  refine i_newa hJ rfl (by decide) (Nat.le_of_ble_eq_true rfl) (Nat.le_of_ble_eq_true rfl) (a := ad E o 8) (by rw [hpre]; rfl) dX2_init_81 ?_
  show J [.inr (1, [.int 0, .int 0, .int 0, .int 0, .ref (ad E o 1), .ref (ad E o 2), .ref (ad E o 3), .ref (ad E o 4), .ref (ad E o 5), .ref (ad E o 6), .ref (ad E o 7), .null, .null, .null, .null, .null]), .inl (E.2.2.1.1, 4, .inl (upd (upd (upd (upd zer 0 (nI 5)) 1 (nI 16)) 2 (nI 0)) 3 (nI 32))), .inl (E.2.2.1.1, 64, .inl zer), .inl (E.2.2.1.1, 64, .inl zer), .inl (E.2.2.1.1, 64, .inl zer), .inl (E.2.2.1.1, 64, .inl zer), .inl (E.2.2.1.1, 64, .inl zer), .inl (E.2.2.1.1, 64, .inl zer), .inl (E.2.2.1.1, 192, .inl zer)] _ _ _ _ _
  refine i_putF (ini0 := true) rfl hJ (j := 0) (ci := 1) (C := RX2) (T := TX2) (N := 16) (kf := 11) (t := .array .int) (ty := tyX2) (xs' := [.inr (1, [.int 0, .int 0, .int 0, .int 0, .ref (ad E o 1), .ref (ad E o 2), .ref (ad E o 3), .ref (ad E o 4), .ref (ad E o 5), .ref (ad E o 6), .ref (ad E o 7), .ref (ad E o 8), .null, .null, .null, .null]), .inl (E.2.2.1.1, 4, .inl (upd (upd (upd (upd zer 0 (nI 5)) 1 (nI 16)) 2 (nI 0)) 3 (nI 32))), .inl (E.2.2.1.1, 64, .inl zer), .inl (E.2.2.1.1, 64, .inl zer), .inl (E.2.2.1.1, 64, .inl zer), .inl (E.2.2.1.1, 64, .inl zer), .inl (E.2.2.1.1, 64, .inl zer), .inl (E.2.2.1.1, 64, .inl zer), .inl (E.2.2.1.1, 192, .inl zer)]) rfl (by rw [hpre]; rfl) rfl rfl iX2 tyX2_ok nmX2 (by decide) m66 rfl rfl (by decide +kernel) rfl rfl (Nat.le_of_ble_eq_true rfl) dX2_init_83 ?_
  refine i_aload_n hJ dX2_init_86 rfl jg0 ?_
  refine i_sipush hJ (v := nI 192) dX2_init_87 (by decide) ?_
  refine i_newa hJ rfl (by decide) (Nat.le_of_ble_eq_true rfl) (Nat.le_of_ble_eq_true rfl) (a := ad E o 9) (by rw [hpre]; rfl) dX2_init_90 ?_
  show J [.inr (1, [.int 0, .int 0, .int 0, .int 0, .ref (ad E o 1), .ref (ad E o 2), .ref (ad E o 3), .ref (ad E o 4), .ref (ad E o 5), .ref (ad E o 6), .ref (ad E o 7), .ref (ad E o 8), .null, .null, .null, .null]), .inl (E.2.2.1.1, 4, .inl (upd (upd (upd (upd zer 0 (nI 5)) 1 (nI 16)) 2 (nI 0)) 3 (nI 32))), .inl (E.2.2.1.1, 64, .inl zer), .inl (E.2.2.1.1, 64, .inl zer), .inl (E.2.2.1.1, 64, .inl zer), .inl (E.2.2.1.1, 64, .inl zer), .inl (E.2.2.1.1, 64, .inl zer), .inl (E.2.2.1.1, 64, .inl zer), .inl (E.2.2.1.1, 192, .inl zer), .inl (E.2.2.1.1, 192, .inl zer)] _ _ _ _ _
  refine i_putF (ini0 := true) rfl hJ (j := 0) (ci := 1) (C := RX2) (T := TX2) (N := 16) (kf := 12) (t := .array .int) (ty := tyX2) (xs' := [.inr (1, [.int 0, .int 0, .int 0, .int 0, .ref (ad E o 1), .ref (ad E o 2), .ref (ad E o 3), .ref (ad E o 4), .ref (ad E o 5), .ref (ad E o 6), .ref (ad E o 7), .ref (ad E o 8), .ref (ad E o 9), .null, .null, .null]), .inl (E.2.2.1.1, 4, .inl (upd (upd (upd (upd zer 0 (nI 5)) 1 (nI 16)) 2 (nI 0)) 3 (nI 32))), .inl (E.2.2.1.1, 64, .inl zer), .inl (E.2.2.1.1, 64, .inl zer), .inl (E.2.2.1.1, 64, .inl zer), .inl (E.2.2.1.1, 64, .inl zer), .inl (E.2.2.1.1, 64, .inl zer), .inl (E.2.2.1.1, 64, .inl zer), .inl (E.2.2.1.1, 192, .inl zer), .inl (E.2.2.1.1, 192, .inl zer)]) rfl (by rw [hpre]; rfl) rfl rfl iX2 tyX2_ok nmX2 (by decide) m67 rfl rfl (by decide +kernel) rfl rfl (Nat.le_of_ble_eq_true rfl) dX2_init_92 ?_
  refine i_aload_n hJ dX2_init_95 rfl jg0 ?_
  refine i_bipush hJ (v := nI 8) dX2_init_96 (by decide) ?_
  refine i_newa hJ rfl (by decide) (Nat.le_of_ble_eq_true rfl) (Nat.le_of_ble_eq_true rfl) (a := ad E o 10) (by rw [hpre]; rfl) dX2_init_98 ?_
  show J [.inr (1, [.int 0, .int 0, .int 0, .int 0, .ref (ad E o 1), .ref (ad E o 2), .ref (ad E o 3), .ref (ad E o 4), .ref (ad E o 5), .ref (ad E o 6), .ref (ad E o 7), .ref (ad E o 8), .ref (ad E o 9), .null, .null, .null]), .inl (E.2.2.1.1, 4, .inl (upd (upd (upd (upd zer 0 (nI 5)) 1 (nI 16)) 2 (nI 0)) 3 (nI 32))), .inl (E.2.2.1.1, 64, .inl zer), .inl (E.2.2.1.1, 64, .inl zer), .inl (E.2.2.1.1, 64, .inl zer), .inl (E.2.2.1.1, 64, .inl zer), .inl (E.2.2.1.1, 64, .inl zer), .inl (E.2.2.1.1, 64, .inl zer), .inl (E.2.2.1.1, 192, .inl zer), .inl (E.2.2.1.1, 192, .inl zer), .inl (E.2.2.1.1, 8, .inl zer)] _ _ _ _ _
  refine i_putF (ini0 := true) rfl hJ (j := 0) (ci := 1) (C := RX2) (T := TX2) (N := 16) (kf := 13) (t := .array .int) (ty := tyX2) (xs' := [.inr (1, [.int 0, .int 0, .int 0, .int 0, .ref (ad E o 1), .ref (ad E o 2), .ref (ad E o 3), .ref (ad E o 4), .ref (ad E o 5), .ref (ad E o 6), .ref (ad E o 7), .ref (ad E o 8), .ref (ad E o 9), .ref (ad E o 10), .null, .null]), .inl (E.2.2.1.1, 4, .inl (upd (upd (upd (upd zer 0 (nI 5)) 1 (nI 16)) 2 (nI 0)) 3 (nI 32))), .inl (E.2.2.1.1, 64, .inl zer), .inl (E.2.2.1.1, 64, .inl zer), .inl (E.2.2.1.1, 64, .inl zer), .inl (E.2.2.1.1, 64, .inl zer), .inl (E.2.2.1.1, 64, .inl zer), .inl (E.2.2.1.1, 64, .inl zer), .inl (E.2.2.1.1, 192, .inl zer), .inl (E.2.2.1.1, 192, .inl zer), .inl (E.2.2.1.1, 8, .inl zer)]) rfl (by rw [hpre]; rfl) rfl rfl iX2 tyX2_ok nmX2 (by decide) m68 rfl rfl (by decide +kernel) rfl rfl (Nat.le_of_ble_eq_true rfl) dX2_init_100 ?_
  refine i_aload_n hJ dX2_init_103 rfl jg0 ?_
  refine i_bipush hJ (v := nI 8) dX2_init_104 (by decide) ?_
  refine i_newa hJ rfl (by decide) (Nat.le_of_ble_eq_true rfl) (Nat.le_of_ble_eq_true rfl) (a := ad E o 11) (by rw [hpre]; rfl) dX2_init_106 ?_
  show J [.inr (1, [.int 0, .int 0, .int 0, .int 0, .ref (ad E o 1), .ref (ad E o 2), .ref (ad E o 3), .ref (ad E o 4), .ref (ad E o 5), .ref (ad E o 6), .ref (ad E o 7), .ref (ad E o 8), .ref (ad E o 9), .ref (ad E o 10), .null, .null]), .inl (E.2.2.1.1, 4, .inl (upd (upd (upd (upd zer 0 (nI 5)) 1 (nI 16)) 2 (nI 0)) 3 (nI 32))), .inl (E.2.2.1.1, 64, .inl zer), .inl (E.2.2.1.1, 64, .inl zer), .inl (E.2.2.1.1, 64, .inl zer), .inl (E.2.2.1.1, 64, .inl zer), .inl (E.2.2.1.1, 64, .inl zer), .inl (E.2.2.1.1, 64, .inl zer), .inl (E.2.2.1.1, 192, .inl zer), .inl (E.2.2.1.1, 192, .inl zer), .inl (E.2.2.1.1, 8, .inl zer), .inl (E.2.2.1.1, 8, .inl zer)] _ _ _ _ _
  refine i_putF (ini0 := true) rfl hJ (j := 0) (ci := 1) (C := RX2) (T := TX2) (N := 16) (kf := 14) (t := .array .int) (ty := tyX2) (xs' := [.inr (1, [.int 0, .int 0, .int 0, .int 0, .ref (ad E o 1), .ref (ad E o 2), .ref (ad E o 3), .ref (ad E o 4), .ref (ad E o 5), .ref (ad E o 6), .ref (ad E o 7), .ref (ad E o 8), .ref (ad E o 9), .ref (ad E o 10), .ref (ad E o 11), .null]), .inl (E.2.2.1.1, 4, .inl (upd (upd (upd (upd zer 0 (nI 5)) 1 (nI 16)) 2 (nI 0)) 3 (nI 32))), .inl (E.2.2.1.1, 64, .inl zer), .inl (E.2.2.1.1, 64, .inl zer), .inl (E.2.2.1.1, 64, .inl zer), .inl (E.2.2.1.1, 64, .inl zer), .inl (E.2.2.1.1, 64, .inl zer), .inl (E.2.2.1.1, 64, .inl zer), .inl (E.2.2.1.1, 192, .inl zer), .inl (E.2.2.1.1, 192, .inl zer), .inl (E.2.2.1.1, 8, .inl zer), .inl (E.2.2.1.1, 8, .inl zer)]) rfl (by rw [hpre]; rfl) rfl rfl iX2 tyX2_ok nmX2 (by decide) m69 rfl rfl (by decide +kernel) rfl rfl (Nat.le_of_ble_eq_true rfl) dX2_init_108 ?_
  refine i_aload_n hJ dX2_init_111 rfl jg0 ?_
  refine i_bipush hJ (v := nI 8) dX2_init_112 (by decide) ?_
  refine i_newa hJ rfl (by decide) (Nat.le_of_ble_eq_true rfl) (Nat.le_of_ble_eq_true rfl) (a := ad E o 12) (by rw [hpre]; rfl) dX2_init_114 ?_
  show J [.inr (1, [.int 0, .int 0, .int 0, .int 0, .ref (ad E o 1), .ref (ad E o 2), .ref (ad E o 3), .ref (ad E o 4), .ref (ad E o 5), .ref (ad E o 6), .ref (ad E o 7), .ref (ad E o 8), .ref (ad E o 9), .ref (ad E o 10), .ref (ad E o 11), .null]), .inl (E.2.2.1.1, 4, .inl (upd (upd (upd (upd zer 0 (nI 5)) 1 (nI 16)) 2 (nI 0)) 3 (nI 32))), .inl (E.2.2.1.1, 64, .inl zer), .inl (E.2.2.1.1, 64, .inl zer), .inl (E.2.2.1.1, 64, .inl zer), .inl (E.2.2.1.1, 64, .inl zer), .inl (E.2.2.1.1, 64, .inl zer), .inl (E.2.2.1.1, 64, .inl zer), .inl (E.2.2.1.1, 192, .inl zer), .inl (E.2.2.1.1, 192, .inl zer), .inl (E.2.2.1.1, 8, .inl zer), .inl (E.2.2.1.1, 8, .inl zer), .inl (E.2.2.1.1, 8, .inl zer)] _ _ _ _ _
  refine i_putF (ini0 := true) rfl hJ (j := 0) (ci := 1) (C := RX2) (T := TX2) (N := 16) (kf := 15) (t := .array .int) (ty := tyX2) (xs' := [.inr (1, [.int 0, .int 0, .int 0, .int 0, .ref (ad E o 1), .ref (ad E o 2), .ref (ad E o 3), .ref (ad E o 4), .ref (ad E o 5), .ref (ad E o 6), .ref (ad E o 7), .ref (ad E o 8), .ref (ad E o 9), .ref (ad E o 10), .ref (ad E o 11), .ref (ad E o 12)]), .inl (E.2.2.1.1, 4, .inl (upd (upd (upd (upd zer 0 (nI 5)) 1 (nI 16)) 2 (nI 0)) 3 (nI 32))), .inl (E.2.2.1.1, 64, .inl zer), .inl (E.2.2.1.1, 64, .inl zer), .inl (E.2.2.1.1, 64, .inl zer), .inl (E.2.2.1.1, 64, .inl zer), .inl (E.2.2.1.1, 64, .inl zer), .inl (E.2.2.1.1, 64, .inl zer), .inl (E.2.2.1.1, 192, .inl zer), .inl (E.2.2.1.1, 192, .inl zer), .inl (E.2.2.1.1, 8, .inl zer), .inl (E.2.2.1.1, 8, .inl zer), .inl (E.2.2.1.1, 8, .inl zer)]) rfl (by rw [hpre]; rfl) rfl rfl iX2 tyX2_ok nmX2 (by decide) m70 rfl rfl (by decide +kernel) rfl rfl (Nat.le_of_ble_eq_true rfl) dX2_init_116 ?_
  refine i_iconst hJ (v := nI 0) dX2_init_119 (by decide) ?_
  refine i_istore_n hJ dX2_init_120 rfl (jp1 rfl rfl) ?_
  exact h0
theorem kIX4_9 : wI RX4 9 yX2_init cX2_init 2 := ⟨m47, m48, m26, m49, by decide +kernel⟩
theorem kIX4_21 : wI RX4 21 yX3_init cX3_init 2 := ⟨m107, m108, m27, m109, by decide +kernel⟩
theorem kIX3_17 : wI RX3 17 yX2_init cX2_init 2 := ⟨m113, m48, m26, m49, by decide +kernel⟩
theorem kIL_93 : wI RL 93 yX4_init cX4_init 1 := ⟨m39, m40, m25, m41, by decide +kernel⟩
set_option maxHeartbeats 1000000 in
theorem i_sav (l : Launch) (E : jE) (k : jX) (hk : k.1 = fun i => i + 2) {pre : List va_E} (hpre : pre.length = bas 9) : CtI l E yX3_init cX3_init 2 2 (ad E 9 0) pre [.inr (2, [.null, .int 0])] (blk E k 9 obj0 ++ blk E k 2 pool0 ++ blk E k 3 pool0 ++ blk E k 4 pool0 ++ blk E k 5 pool0 ++ blk E k 6 pool0 ++ blk E k 7 pool0) 79 4878 := by
  refine CtI.of (by decide) (by decide) (by decide) rfl ?_
  intro J hJ hR
  refine i_aload_n hJ dX3_init_0 rfl jg0 ?_
  refine i_obj hJ m110 dX3_init_1 (by decide) (Nat.le_of_ble_eq_true rfl) ?_
  refine i_aload_n hJ dX3_init_4 rfl jg0 ?_
  refine i_bipush hJ (v := nI 6) dX3_init_5 (by decide) ?_
  refine i_newq hJ m111 rfl (by decide) (Nat.le_of_ble_eq_true rfl) (Nat.le_of_ble_eq_true rfl) (a := ad E 9 1) (by rw [hpre]; rfl) dX3_init_7 ?_
  refine i_putF (ini0 := true) rfl hJ (j := 0) (ci := 2) (C := RX3) (T := TX3) (N := 2) (kf := 0) (t := .array (.object "NumberLeases$Pool")) (ty := tyX3) (xs' := [.inr (2, [.ref (ad E 9 1), .int 0]), .inl (E.2.2.1.2.2, 6, .inr (.inr (.inr (.inr (fun _ => none)))))]) rfl (by rw [hpre]; rfl) rfl rfl iX3 tyX3_ok nmX3 (by decide) m114 rfl rfl (by decide +kernel) rfl rfl (Nat.le_of_ble_eq_true rfl) dX3_init_10 ?_
  refine i_iconst hJ (v := nI 0) dX3_init_13 (by decide) ?_
  refine i_istore_n hJ dX3_init_14 rfl (jp1 rfl rfl) ?_
  refine i_iload_n hJ dX3_init_15 rfl jg1 ?_
  refine i_bipush hJ (v := nI 6) dX3_init_16 (by decide) ?_
  refine i_icmp_ge hJ (tgt := 40) dX3_init_18 (by decide) (fun c => absurd c (by decide)) (fun _ => ?_)
  refine i_aload_n hJ dX3_init_21 rfl jg0 ?_
  refine i_get hJ (j := 0) (ci := 2) (C := RX3) (T := TX3) (N := 2) (kf := 0) rfl (by rw [hpre]; rfl) rfl iX3 (by decide) m114 rfl dX3_init_22 ?_
  refine i_iload_n hJ dX3_init_25 rfl jg1 ?_
  refine i_new hJ (ci := 1) (C := RX2) (T := TX2) (N := 16) (ty := tyX2) (fs := [.int 0, .int 0, .int 0, .int 0, .null, .null, .null, .null, .null, .null, .null, .null, .null, .null, .null, .null]) rfl iX2 tyX2_ok m111 m46 m26 (by decide +kernel) (Nat.le_of_ble_eq_true rfl) (Nat.le_of_ble_eq_true rfl) (a := ad E 2 0) (by rw [hpre]; simp [blk_len, wid]; rfl) dX3_init_26 ?_
  refine i_dup hJ dX3_init_29 rfl ?_
  refine i_call hJ kIX3_17 (i_pool l E k (o := 2) (by decide) (by rw [List.length_append, hpre]; simp [blk_len, wid]; rfl)) rfl (by rw [blk_len]; rfl) (Nat.le_of_ble_eq_true rfl) (Nat.le_of_ble_eq_true rfl) ⟨by decide, by decide⟩ (Nat.le_of_ble_eq_true rfl) dX3_init_30 ?_
  refine i_aast hJ (j := 1) (q := 2) (n := 0) (N := 6) (ci := 1) (r := (RX2, TX2, 16)) (xs' := [.inr (2, [.ref (ad E 9 1), .int 0]), .inl (E.2.2.1.2.2, 6, .inr (.inr (.inr (.inr (va_up (fun _ => none) 0 (some (ad E 2 0)))))))] ++ blk E k 2 pool0) rfl (by rw [hpre]; rfl) rfl (by rw [hpre]; rfl) rfl rfl rfl (by decide) (by decide) rfl dX3_init_33 ?_
  refine i_iinc hJ dX3_init_34 jg1 (ii1 0) (jp1 rfl rfl) ?_
  refine i_goto hJ (tgt := 15) dX3_init_37 (by decide) ?_
  refine i_iload_n hJ dX3_init_15 rfl jg1 ?_
  refine i_bipush hJ (v := nI 6) dX3_init_16 (by decide) ?_
  refine i_icmp_ge hJ (tgt := 40) dX3_init_18 (by decide) (fun c => absurd c (by decide)) (fun _ => ?_)
  refine i_aload_n hJ dX3_init_21 rfl jg0 ?_
  refine i_get hJ (j := 0) (ci := 2) (C := RX3) (T := TX3) (N := 2) (kf := 0) rfl (by rw [hpre]; rfl) rfl iX3 (by decide) m114 rfl dX3_init_22 ?_
  refine i_iload_n hJ dX3_init_25 rfl jg1 ?_
  refine i_new hJ (ci := 1) (C := RX2) (T := TX2) (N := 16) (ty := tyX2) (fs := [.int 0, .int 0, .int 0, .int 0, .null, .null, .null, .null, .null, .null, .null, .null, .null, .null, .null, .null]) rfl iX2 tyX2_ok m111 m46 m26 (by decide +kernel) (Nat.le_of_ble_eq_true rfl) (Nat.le_of_ble_eq_true rfl) (a := ad E 3 0) (by rw [hpre]; simp [blk_len, wid]; rfl) dX3_init_26 ?_
  refine i_dup hJ dX3_init_29 rfl ?_
  refine i_call hJ kIX3_17 (i_pool l E k (o := 3) (by decide) (by rw [List.length_append, hpre]; simp [blk_len, wid]; rfl)) rfl (by rw [blk_len]; rfl) (Nat.le_of_ble_eq_true rfl) (Nat.le_of_ble_eq_true rfl) ⟨by decide, by decide⟩ (Nat.le_of_ble_eq_true rfl) dX3_init_30 ?_
  refine i_aast hJ (j := 1) (q := 15) (n := 1) (N := 6) (ci := 1) (r := (RX2, TX2, 16)) (xs' := [.inr (2, [.ref (ad E 9 1), .int 0]), .inl (E.2.2.1.2.2, 6, .inr (.inr (.inr (.inr (va_up (va_up (fun _ => none) 0 (some (ad E 2 0))) 1 (some (ad E 3 0)))))))] ++ blk E k 2 pool0 ++ blk E k 3 pool0) rfl (by rw [hpre]; rfl) rfl (by rw [hpre]; rfl) rfl rfl rfl (by decide) (by decide) rfl dX3_init_33 ?_
  refine i_iinc hJ dX3_init_34 jg1 (ii1 1) (jp1 rfl rfl) ?_
  refine i_goto hJ (tgt := 15) dX3_init_37 (by decide) ?_
  refine i_iload_n hJ dX3_init_15 rfl jg1 ?_
  refine i_bipush hJ (v := nI 6) dX3_init_16 (by decide) ?_
  refine i_icmp_ge hJ (tgt := 40) dX3_init_18 (by decide) (fun c => absurd c (by decide)) (fun _ => ?_)
  refine i_aload_n hJ dX3_init_21 rfl jg0 ?_
  refine i_get hJ (j := 0) (ci := 2) (C := RX3) (T := TX3) (N := 2) (kf := 0) rfl (by rw [hpre]; rfl) rfl iX3 (by decide) m114 rfl dX3_init_22 ?_
  refine i_iload_n hJ dX3_init_25 rfl jg1 ?_
  refine i_new hJ (ci := 1) (C := RX2) (T := TX2) (N := 16) (ty := tyX2) (fs := [.int 0, .int 0, .int 0, .int 0, .null, .null, .null, .null, .null, .null, .null, .null, .null, .null, .null, .null]) rfl iX2 tyX2_ok m111 m46 m26 (by decide +kernel) (Nat.le_of_ble_eq_true rfl) (Nat.le_of_ble_eq_true rfl) (a := ad E 4 0) (by rw [hpre]; simp [blk_len, wid]; rfl) dX3_init_26 ?_
  refine i_dup hJ dX3_init_29 rfl ?_
  refine i_call hJ kIX3_17 (i_pool l E k (o := 4) (by decide) (by rw [List.length_append, hpre]; simp [blk_len, wid]; rfl)) rfl (by rw [blk_len]; rfl) (Nat.le_of_ble_eq_true rfl) (Nat.le_of_ble_eq_true rfl) ⟨by decide, by decide⟩ (Nat.le_of_ble_eq_true rfl) dX3_init_30 ?_
  refine i_aast hJ (j := 1) (q := 28) (n := 2) (N := 6) (ci := 1) (r := (RX2, TX2, 16)) (xs' := [.inr (2, [.ref (ad E 9 1), .int 0]), .inl (E.2.2.1.2.2, 6, .inr (.inr (.inr (.inr (va_up (va_up (va_up (fun _ => none) 0 (some (ad E 2 0))) 1 (some (ad E 3 0))) 2 (some (ad E 4 0)))))))] ++ blk E k 2 pool0 ++ blk E k 3 pool0 ++ blk E k 4 pool0) rfl (by rw [hpre]; rfl) rfl (by rw [hpre]; rfl) rfl rfl rfl (by decide) (by decide) rfl dX3_init_33 ?_
  refine i_iinc hJ dX3_init_34 jg1 (ii1 2) (jp1 rfl rfl) ?_
  refine i_goto hJ (tgt := 15) dX3_init_37 (by decide) ?_
  refine i_iload_n hJ dX3_init_15 rfl jg1 ?_
  refine i_bipush hJ (v := nI 6) dX3_init_16 (by decide) ?_
  refine i_icmp_ge hJ (tgt := 40) dX3_init_18 (by decide) (fun c => absurd c (by decide)) (fun _ => ?_)
  refine i_aload_n hJ dX3_init_21 rfl jg0 ?_
  refine i_get hJ (j := 0) (ci := 2) (C := RX3) (T := TX3) (N := 2) (kf := 0) rfl (by rw [hpre]; rfl) rfl iX3 (by decide) m114 rfl dX3_init_22 ?_
  refine i_iload_n hJ dX3_init_25 rfl jg1 ?_
  refine i_new hJ (ci := 1) (C := RX2) (T := TX2) (N := 16) (ty := tyX2) (fs := [.int 0, .int 0, .int 0, .int 0, .null, .null, .null, .null, .null, .null, .null, .null, .null, .null, .null, .null]) rfl iX2 tyX2_ok m111 m46 m26 (by decide +kernel) (Nat.le_of_ble_eq_true rfl) (Nat.le_of_ble_eq_true rfl) (a := ad E 5 0) (by rw [hpre]; simp [blk_len, wid]; rfl) dX3_init_26 ?_
  refine i_dup hJ dX3_init_29 rfl ?_
  refine i_call hJ kIX3_17 (i_pool l E k (o := 5) (by decide) (by rw [List.length_append, hpre]; simp [blk_len, wid]; rfl)) rfl (by rw [blk_len]; rfl) (Nat.le_of_ble_eq_true rfl) (Nat.le_of_ble_eq_true rfl) ⟨by decide, by decide⟩ (Nat.le_of_ble_eq_true rfl) dX3_init_30 ?_
  refine i_aast hJ (j := 1) (q := 41) (n := 3) (N := 6) (ci := 1) (r := (RX2, TX2, 16)) (xs' := [.inr (2, [.ref (ad E 9 1), .int 0]), .inl (E.2.2.1.2.2, 6, .inr (.inr (.inr (.inr (va_up (va_up (va_up (va_up (fun _ => none) 0 (some (ad E 2 0))) 1 (some (ad E 3 0))) 2 (some (ad E 4 0))) 3 (some (ad E 5 0)))))))] ++ blk E k 2 pool0 ++ blk E k 3 pool0 ++ blk E k 4 pool0 ++ blk E k 5 pool0) rfl (by rw [hpre]; rfl) rfl (by rw [hpre]; rfl) rfl rfl rfl (by decide) (by decide) rfl dX3_init_33 ?_
  refine i_iinc hJ dX3_init_34 jg1 (ii1 3) (jp1 rfl rfl) ?_
  refine i_goto hJ (tgt := 15) dX3_init_37 (by decide) ?_
  refine i_iload_n hJ dX3_init_15 rfl jg1 ?_
  refine i_bipush hJ (v := nI 6) dX3_init_16 (by decide) ?_
  refine i_icmp_ge hJ (tgt := 40) dX3_init_18 (by decide) (fun c => absurd c (by decide)) (fun _ => ?_)
  refine i_aload_n hJ dX3_init_21 rfl jg0 ?_
  refine i_get hJ (j := 0) (ci := 2) (C := RX3) (T := TX3) (N := 2) (kf := 0) rfl (by rw [hpre]; rfl) rfl iX3 (by decide) m114 rfl dX3_init_22 ?_
  refine i_iload_n hJ dX3_init_25 rfl jg1 ?_
  refine i_new hJ (ci := 1) (C := RX2) (T := TX2) (N := 16) (ty := tyX2) (fs := [.int 0, .int 0, .int 0, .int 0, .null, .null, .null, .null, .null, .null, .null, .null, .null, .null, .null, .null]) rfl iX2 tyX2_ok m111 m46 m26 (by decide +kernel) (Nat.le_of_ble_eq_true rfl) (Nat.le_of_ble_eq_true rfl) (a := ad E 6 0) (by rw [hpre]; simp [blk_len, wid]; rfl) dX3_init_26 ?_
  refine i_dup hJ dX3_init_29 rfl ?_
  refine i_call hJ kIX3_17 (i_pool l E k (o := 6) (by decide) (by rw [List.length_append, hpre]; simp [blk_len, wid]; rfl)) rfl (by rw [blk_len]; rfl) (Nat.le_of_ble_eq_true rfl) (Nat.le_of_ble_eq_true rfl) ⟨by decide, by decide⟩ (Nat.le_of_ble_eq_true rfl) dX3_init_30 ?_
  refine i_aast hJ (j := 1) (q := 54) (n := 4) (N := 6) (ci := 1) (r := (RX2, TX2, 16)) (xs' := [.inr (2, [.ref (ad E 9 1), .int 0]), .inl (E.2.2.1.2.2, 6, .inr (.inr (.inr (.inr (va_up (va_up (va_up (va_up (va_up (fun _ => none) 0 (some (ad E 2 0))) 1 (some (ad E 3 0))) 2 (some (ad E 4 0))) 3 (some (ad E 5 0))) 4 (some (ad E 6 0)))))))] ++ blk E k 2 pool0 ++ blk E k 3 pool0 ++ blk E k 4 pool0 ++ blk E k 5 pool0 ++ blk E k 6 pool0) rfl (by rw [hpre]; rfl) rfl (by rw [hpre]; rfl) rfl rfl rfl (by decide) (by decide) rfl dX3_init_33 ?_
  refine i_iinc hJ dX3_init_34 jg1 (ii1 4) (jp1 rfl rfl) ?_
  refine i_goto hJ (tgt := 15) dX3_init_37 (by decide) ?_
  refine i_iload_n hJ dX3_init_15 rfl jg1 ?_
  refine i_bipush hJ (v := nI 6) dX3_init_16 (by decide) ?_
  refine i_icmp_ge hJ (tgt := 40) dX3_init_18 (by decide) (fun c => absurd c (by decide)) (fun _ => ?_)
  refine i_aload_n hJ dX3_init_21 rfl jg0 ?_
  refine i_get hJ (j := 0) (ci := 2) (C := RX3) (T := TX3) (N := 2) (kf := 0) rfl (by rw [hpre]; rfl) rfl iX3 (by decide) m114 rfl dX3_init_22 ?_
  refine i_iload_n hJ dX3_init_25 rfl jg1 ?_
  refine i_new hJ (ci := 1) (C := RX2) (T := TX2) (N := 16) (ty := tyX2) (fs := [.int 0, .int 0, .int 0, .int 0, .null, .null, .null, .null, .null, .null, .null, .null, .null, .null, .null, .null]) rfl iX2 tyX2_ok m111 m46 m26 (by decide +kernel) (Nat.le_of_ble_eq_true rfl) (Nat.le_of_ble_eq_true rfl) (a := ad E 7 0) (by rw [hpre]; simp [blk_len, wid]; rfl) dX3_init_26 ?_
  refine i_dup hJ dX3_init_29 rfl ?_
  refine i_call hJ kIX3_17 (i_pool l E k (o := 7) (by decide) (by rw [List.length_append, hpre]; simp [blk_len, wid]; rfl)) rfl (by rw [blk_len]; rfl) (Nat.le_of_ble_eq_true rfl) (Nat.le_of_ble_eq_true rfl) ⟨by decide, by decide⟩ (Nat.le_of_ble_eq_true rfl) dX3_init_30 ?_
  refine i_aast hJ (j := 1) (q := 67) (n := 5) (N := 6) (ci := 1) (r := (RX2, TX2, 16)) (xs' := [.inr (2, [.ref (ad E 9 1), .int 0]), .inl (E.2.2.1.2.2, 6, .inr (.inr (.inr (.inr (va_up (va_up (va_up (va_up (va_up (va_up (fun _ => none) 0 (some (ad E 2 0))) 1 (some (ad E 3 0))) 2 (some (ad E 4 0))) 3 (some (ad E 5 0))) 4 (some (ad E 6 0))) 5 (some (ad E 7 0)))))))] ++ blk E k 2 pool0 ++ blk E k 3 pool0 ++ blk E k 4 pool0 ++ blk E k 5 pool0 ++ blk E k 6 pool0 ++ blk E k 7 pool0) rfl (by rw [hpre]; rfl) rfl (by rw [hpre]; rfl) rfl rfl rfl (by decide) (by decide) rfl dX3_init_33 ?_
  refine i_iinc hJ dX3_init_34 jg1 (ii1 5) (jp1 rfl rfl) ?_
  refine i_goto hJ (tgt := 15) dX3_init_37 (by decide) ?_
  refine i_iload_n hJ dX3_init_15 rfl jg1 ?_
  refine i_bipush hJ (v := nI 6) dX3_init_16 (by decide) ?_
  refine i_icmp_ge hJ (tgt := 40) dX3_init_18 (by decide) (fun _ => ?_) (fun c => absurd (by decide) c)
  refine i_same hJ (j := 1) (e' := .inl (E.2.2.1.2.2, 6, .inr (.inr (.inr (.inr fun i => some (ad E (k.1 i) 0)))))) (xs' := blk E k 9 obj0 ++ blk E k 2 pool0 ++ blk E k 3 pool0 ++ blk E k 4 pool0 ++ blk E k 5 pool0 ++ blk E k 6 pool0 ++ blk E k 7 pool0) rfl rfl (fun a H h => ?_) ?_
  · have h1 : H[a]? = some (vp_cell E.2.2.1.2.2 (6, .inr (.inr (.inr (.inr (va_up (va_up (va_up (va_up (va_up (va_up (fun _ => none) 0 (some (ad E 2 0))) 1 (some (ad E 3 0))) 2 (some (ad E 4 0))) 3 (some (ad E 5 0))) 4 (some (ad E 6 0))) 5 (some (ad E 7 0)))))))) := h
    show H[a]? = some (vp_cell E.2.2.1.2.2 (6, .inr (.inr (.inr (.inr fun i => some (ad E (k.1 i) 0))))))
    rw [h1, vp_cell_q, vp_cell_q]
    refine congrArg some (arrV_ext fun j hj => ?_)
    rw [hk]
    rcases j with _ | _ | _ | _ | _ | _ | j
    all_goals first | rfl | (exfalso; omega)
  exact hR _ _ dX3_init_40
set_option maxHeartbeats 1000000 in
theorem i_nul (l : Launch) (E : jE) (k : jX) (hk : k.1 = fun i => i + 2) {pre : List va_E} (hpre : pre.length = bas 11) : CtI l E yX4_init cX4_init 1 3 (ad E 11 0) pre [.inr (3, [.null, .null, .null, .null])] (blk E k 11 obj0 ++ blk E k 0 pool0 ++ blk E k 1 pool0 ++ (blk E k 9 obj0 ++ blk E k 2 pool0 ++ blk E k 3 pool0 ++ blk E k 4 pool0 ++ blk E k 5 pool0 ++ blk E k 6 pool0 ++ blk E k 7 pool0) ++ blk E k 8 obj0) 108 6572 := by
  rw [blk_nul]
  refine CtI.of (by decide) (by decide) (by decide) rfl ?_
  intro J hJ hR
  refine i_aload_n hJ dX4_init_0 rfl jg0 ?_
  refine i_obj hJ m42 dX4_init_1 (by decide) (Nat.le_of_ble_eq_true rfl) ?_
  refine i_aload_n hJ dX4_init_4 rfl jg0 ?_
  refine i_new hJ (ci := 1) (C := RX2) (T := TX2) (N := 16) (ty := tyX2) (fs := [.int 0, .int 0, .int 0, .int 0, .null, .null, .null, .null, .null, .null, .null, .null, .null, .null, .null, .null]) rfl iX2 tyX2_ok m45 m46 m26 (by decide +kernel) (Nat.le_of_ble_eq_true rfl) (Nat.le_of_ble_eq_true rfl) (a := ad E 0 0) (by rw [hpre]; simp [blk_len, wid]; rfl) dX4_init_5 ?_
  refine i_dup hJ dX4_init_8 rfl ?_
  refine i_call hJ kIX4_9 (i_pool l E k (o := 0) (by decide) (by rw [List.length_append, hpre]; simp [blk_len, wid]; rfl)) rfl (by simp [blk_len, wid]) (Nat.le_of_ble_eq_true rfl) (Nat.le_of_ble_eq_true rfl) ⟨by decide, by decide⟩ (Nat.le_of_ble_eq_true rfl) dX4_init_9 ?_
  refine i_putF (ini0 := true) rfl hJ (j := 0) (ci := 3) (C := RX4) (T := TX4) (N := 4) (kf := 0) (t := .object "NumberLeases$Pool") (ty := tyX4) (xs' := [.inr (3, [.ref (ad E 0 0), .null, .null, .null])] ++ blk E k 0 pool0) rfl (by rw [hpre]; rfl) rfl rfl iX4 tyX4_ok nmX4 (by decide) m146 rfl rfl (by decide +kernel) rfl rfl (Nat.le_of_ble_eq_true rfl) dX4_init_12 ?_
  refine i_aload_n hJ dX4_init_15 rfl jg0 ?_
  refine i_new hJ (ci := 1) (C := RX2) (T := TX2) (N := 16) (ty := tyX2) (fs := [.int 0, .int 0, .int 0, .int 0, .null, .null, .null, .null, .null, .null, .null, .null, .null, .null, .null, .null]) rfl iX2 tyX2_ok m45 m46 m26 (by decide +kernel) (Nat.le_of_ble_eq_true rfl) (Nat.le_of_ble_eq_true rfl) (a := ad E 1 0) (by rw [hpre]; simp [blk_len, wid]; rfl) dX4_init_16 ?_
  refine i_dup hJ dX4_init_19 rfl ?_
  refine i_call hJ kIX4_9 (i_pool l E k (o := 1) (by decide) (by rw [List.length_append, hpre]; simp [blk_len, wid]; rfl)) rfl (by simp [blk_len, wid]) (Nat.le_of_ble_eq_true rfl) (Nat.le_of_ble_eq_true rfl) ⟨by decide, by decide⟩ (Nat.le_of_ble_eq_true rfl) dX4_init_20 ?_
  refine i_putF (ini0 := true) rfl hJ (j := 0) (ci := 3) (C := RX4) (T := TX4) (N := 4) (kf := 1) (t := .object "NumberLeases$Pool") (ty := tyX4) (xs' := [.inr (3, [.ref (ad E 0 0), .ref (ad E 1 0), .null, .null])] ++ blk E k 0 pool0 ++ blk E k 1 pool0) rfl (by rw [hpre]; rfl) rfl rfl iX4 tyX4_ok nmX4 (by decide) m147 rfl rfl (by decide +kernel) rfl rfl (Nat.le_of_ble_eq_true rfl) dX4_init_23 ?_
  refine i_aload_n hJ dX4_init_26 rfl jg0 ?_
  refine i_new hJ (ci := 2) (C := RX3) (T := TX3) (N := 2) (ty := tyX3) (fs := [.null, .int 0]) rfl iX3 tyX3_ok m105 m106 m27 (by decide +kernel) (Nat.le_of_ble_eq_true rfl) (Nat.le_of_ble_eq_true rfl) (a := ad E 9 0) (by rw [hpre]; simp [blk_len, wid]; rfl) dX4_init_27 ?_
  refine i_dup hJ dX4_init_30 rfl ?_
  refine i_call hJ kIX4_21 (i_sav l E k hk (by rw [List.length_append, hpre]; simp [blk_len, wid]; rfl)) rfl (by simp [blk_len, wid]) (Nat.le_of_ble_eq_true rfl) (Nat.le_of_ble_eq_true rfl) ⟨by decide, by decide⟩ (Nat.le_of_ble_eq_true rfl) dX4_init_31 ?_
  refine i_putF (ini0 := true) rfl hJ (j := 0) (ci := 3) (C := RX4) (T := TX4) (N := 4) (kf := 2) (t := .object "NumberLeases$Saves") (ty := tyX4) (xs' := [.inr (3, [.ref (ad E 0 0), .ref (ad E 1 0), .ref (ad E 9 0), .null])] ++ blk E k 0 pool0 ++ blk E k 1 pool0 ++ (blk E k 9 obj0 ++ blk E k 2 pool0 ++ blk E k 3 pool0 ++ blk E k 4 pool0 ++ blk E k 5 pool0 ++ blk E k 6 pool0 ++ blk E k 7 pool0)) rfl (by rw [hpre]; rfl) rfl rfl iX4 tyX4_ok nmX4 (by decide) m148 rfl rfl (by decide +kernel) rfl rfl (Nat.le_of_ble_eq_true rfl) dX4_init_34 ?_
  refine i_aload_n hJ dX4_init_37 rfl jg0 ?_
  refine i_new hJ (ci := 0) (C := RX1) (T := TX1) (N := 8) (ty := tyX1) (fs := [.null, .int 0, .int 0, .int 0, .int 0, .int 0, .int 0, .int 0]) rfl iX1 tyX1_ok m122 m123 m28 (by decide +kernel) (Nat.le_of_ble_eq_true rfl) (Nat.le_of_ble_eq_true rfl) (a := ad E 8 0) (by rw [hpre]; simp [blk_len, wid]; rfl) dX4_init_38 ?_
  refine i_dup hJ dX4_init_41 rfl ?_
  refine i_callN hJ m125 m28 m126 (i_ord l E k (by rw [List.length_append, hpre]; simp [blk_len, wid]; rfl)) rfl (by rw [blk_len]; rfl) (Nat.le_of_ble_eq_true rfl) (Nat.le_of_ble_eq_true rfl) ⟨by decide, by decide⟩ (Nat.le_of_ble_eq_true rfl) dX4_init_42 ?_
  refine i_putF (ini0 := true) rfl hJ (j := 0) (ci := 3) (C := RX4) (T := TX4) (N := 4) (kf := 3) (t := .object "NumberLeases$Orders") (ty := tyX4) (xs' := [.inr (3, [.ref (ad E 0 0), .ref (ad E 1 0), .ref (ad E 9 0), .ref (ad E 8 0)])] ++ blk E k 0 pool0 ++ blk E k 1 pool0 ++ (blk E k 9 obj0 ++ blk E k 2 pool0 ++ blk E k 3 pool0 ++ blk E k 4 pool0 ++ blk E k 5 pool0 ++ blk E k 6 pool0 ++ blk E k 7 pool0) ++ blk E k 8 obj0) rfl (by rw [hpre]; rfl) rfl rfl iX4 tyX4_ok nmX4 (by decide) m149 rfl rfl (by decide +kernel) rfl rfl (Nat.le_of_ble_eq_true rfl) dX4_init_45 ?_
  exact hR _ _ dX4_init_48
