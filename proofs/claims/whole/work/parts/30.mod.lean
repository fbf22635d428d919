section ROWSA
variable {l : Launch} {E : jE} {own : String} {cc : ByteArray} {nL d n0 cap : Nat} {J : jT} {pc : Nat} {L : List (Option Value)} {rest : List Value}
theorem r_ialdA (hJ : jR l E own cc nL d n0 cap J) {S : jS} {x : jX} {T : jO} {j n : Nat} {r : Nat → Int32} {i : Int32} (hn : n < aln 10 j) (hi : i = nI n) (hd : decode cc pc = .ok (.iaload, 1)) (k : J (setO S 10 (putA T j r), x) (pc + 1) L (.int (r n) :: rest)) : J (setO S 10 (putA T j r), x) pc L (.int i :: .ref (ad E 10 j) :: rest) :=
  r_ialdO hJ (by decide) hn hi hd (by rw [putA_at]; exact k)
theorem r_iastA (hJ : jR l E own cc nL d n0 cap J) {S : jS} {x : jX} {T : jO} {j n : Nat} {r : Nat → Int32} {i v : Int32} (hn : n < aln 10 j) (hi : i = nI n) (hd : decode cc pc = .ok (.iastore, 1)) (k : J (setO S 10 (putA T j (upd r n v)), x) (pc + 1) L rest) : J (setO S 10 (putA T j r), x) pc L (.int v :: .int i :: .ref (ad E 10 j) :: rest) :=
  r_iast hJ (by decide) hn hi hd (by unfold put; rw [putA_at, putA_two]; exact k)
end ROWSA
/-! rows copied -/
def sh3 (p : Nat → Int32) (n : Nat) : Nat → Int32 := fun q => if q < n then p (q + 800) else p q
def cp3 (p r : Nat → Int32) (b n : Nat) : Nat → Int32 := fun q => if b ≤ q ∧ q < b + n then r (q - b) else p q
def cpy (p r : Nat → Int32) (n : Nat) : Nat → Int32 := fun q => if q < n then r q else p q
theorem sh3_0 (p : Nat → Int32) : sh3 p 0 = p := by funext q; simp [sh3]
theorem cp3_0 (p r : Nat → Int32) (b : Nat) : cp3 p r b 0 = p := by
  funext q
  unfold cp3
  rw [if_neg (by omega)]
theorem cpy_0 (p r : Nat → Int32) : cpy p r 0 = p := by funext q; simp [cpy]
theorem sh3_s (p : Nat → Int32) (n : Nat) : upd (sh3 p n) n (sh3 p n (n + 800)) = sh3 p (n + 1) := by
  funext q
  unfold upd sh3
  by_cases h : q = n
  · subst h
    rw [if_pos rfl, if_neg (by omega), if_pos (by omega)]
  · by_cases h2 : q < n
    · rw [if_neg h, if_pos h2, if_pos (by omega)]
    · rw [if_neg h, if_neg h2, if_neg (by omega)]
theorem cp3_s (p r : Nat → Int32) (b n : Nat) : upd (cp3 p r b n) (b + n) (r n) = cp3 p r b (n + 1) := by
  funext q
  unfold upd cp3
  by_cases h : q = b + n
  · subst h
    rw [if_pos rfl, if_pos (by omega)]
    congr 1
    omega
  · by_cases h2 : b ≤ q ∧ q < b + n
    · rw [if_neg h, if_pos h2, if_pos (by omega)]
    · rw [if_neg h, if_neg h2, if_neg (by omega)]
theorem cpy_s (p r : Nat → Int32) (n : Nat) : upd (cpy p r n) n (r n) = cpy p r (n + 1) := by
  funext q
  unfold upd cpy
  by_cases h : q = n
  · subst h
    rw [if_pos rfl, if_pos (by omega)]
  · by_cases h2 : q < n
    · rw [if_neg h, if_pos h2, if_pos (by omega)]
    · rw [if_neg h, if_neg h2, if_neg (by omega)]
def thr (T : jO) (v : Int32) : jO := put T 0 2 v
def savA (T : jO) (m : Nat) : jO := put (putA T 3 (cp3 (T 3) (T 1) (800 * m) 800)) 0 0 (nI (m + 1))
def savT (T : jO) : jO := if T 0 0 = nI 6 then savA (put (putA T 3 (sh3 (T 3) 4000)) 0 0 (nI 5)) 5 else savA T (toN (T 0 0))
def triT (T : jO) : jO := putA T 2 (cpy (T 2) (T 1) 800)
def undR (T : jO) (m : Nat) : jO := let T2 := put (thr T (nI 0)) 0 0 (nI m); putA T2 1 (cpy (T 1) (fun q => T 3 (800 * m + q)) 800)
theorem nI_sub1 {m : Nat} (h : 0 < m) : nI m - nI 1 = nI (m - 1) := pk_sub (by omega)
set_option maxRecDepth 100000 in
set_option maxHeartbeats 1000000 in
theorem c5_thrown (l : Launch) (E : jE) (S : jS) (x : jX) (T : jO) : Ct l E yX5_thrown cX5_thrown 1 (some .int) 1 [.ref (ad E 10 0)] (setO S 10 T, x) (some (.int (T 0 2))) (setO S 10 T, x) := by
  refine Ct.of (by decide +kernel) (Nat.le_refl _) (Nat.le_of_ble_eq_true rfl) rfl (fun J hJ hF => ?_)
  refine r_aload_n hJ dX5_thrown_0 rfl jg0 ?_
  refine r_g5_6O hJ m797 dX5_thrown_1 ?_
  exact ret_i hF dX5_thrown_4 rfl rfl

set_option maxRecDepth 100000 in
set_option maxHeartbeats 1000000 in
theorem c5_fails (l : Launch) (E : jE) (S : jS) (x : jX) (T : jO) (s : Int32) : Ct l E yX5_fails cX5_fails 2 (some .int) 1 [.ref (ad E 10 0), .int s] (setO S 10 T, x) (some (.int (nI 0))) (setO S 10 (thr T s), x) := by
  refine Ct.of (by decide +kernel) (Nat.le_refl _) (Nat.le_of_ble_eq_true rfl) rfl (fun J hJ hF => ?_)
  refine r_aload_n hJ dX5_fails_0 rfl jg0 ?_
  refine r_iload_n hJ dX5_fails_1 rfl jg1 ?_
  refine r_p5_6 hJ m797 dX5_fails_2 ?_
  refine r_iconst hJ (v := nI 0) dX5_fails_5 (by decide) ?_
  exact ret_i hF dX5_fails_6 rfl rfl

set_option maxRecDepth 100000 in
set_option maxHeartbeats 1000000 in
theorem c5_isNumber (l : Launch) (E : jE) (S : jS) (x : jX) (T : jO) {z : Nat} (hz0 : 0 < z) (hz : T 1 4 = nI z) (v : Int32) : Ct l E yX5_isNumber cX5_isNumber 2 (some .boolean) 2 [.ref (ad E 10 0), .int v] (setO S 10 T, x) (some (.int (bI (witQ v (nI 0) (nI (z - 1)))))) (setO S 10 T, x) := by
  refine Ct.of (by decide +kernel) (Nat.le_refl _) (Nat.le_of_ble_eq_true rfl) rfl (fun J hJ hF => ?_)
  refine r_iload_n hJ dX5_isNumber_0 rfl jg1 ?_
  refine r_iconst hJ (v := nI 0) dX5_isNumber_1 (by decide) ?_
  refine r_aload_n hJ dX5_isNumber_2 rfl jg0 ?_
  refine r_g5_0 hJ m791 dX5_isNumber_3 ?_
  refine r_iconst hJ (v := nI 4) dX5_isNumber_6 (by decide) ?_
  refine r_ialdO hJ (by omega) (alM1 (by omega)) rfl dX5_isNumber_7 ?_
  refine r_iconst hJ (v := nI 1) dX5_isNumber_8 (by decide) ?_
  refine r_isub hJ dX5_isNumber_9 ?_
  have e : T 1 4 - nI 1 = nI (z - 1) := by rw [hz, nI_sub1 hz0]
  rw [e]
  refine r_S3v hJ kX5_29 (c5_in l E _ x v (nI 0) (nI (z - 1))) dX5_isNumber_10 ⟨by decide, by decide⟩ (Nat.le_of_ble_eq_true rfl) ?_
  exact ret_z hF dX5_isNumber_13 (bI_nar _).1 rfl rfl

set_option maxRecDepth 100000 in
set_option maxHeartbeats 1000000 in
theorem c5_saves (l : Launch) (E : jE) (S : jS) (x : jX) (T : jO) {m : Nat} (hm6 : m ≤ 6) (hm : T 0 0 = nI m) : Ct l E yX5_saves cX5_saves 2 none 1 [.ref (ad E 10 0)] (setO S 10 T, x) none (setO S 10 (savT T), x) := by
  refine Ct.of (by decide +kernel) (Nat.le_refl _) (Nat.le_of_ble_eq_true rfl) rfl (fun J hJ hF => ?_)
  have loop2 : ∀ (T' : jO) (m' : Nat), m' ≤ 5 → T' 0 0 = nI m' → savA T' m' = savT T → ∀ (k i : Nat), i + k = 800 → J (setO S 10 (putA T' 3 (cp3 (T' 3) (T' 1) (800 * m') i)), x) 52 [some (.ref (ad E 10 0)), some (.int (nI i))] [] := by
    intro T' m' hm5 hm' he k
    induction k with
    | zero =>
      intro i hi
      obtain rfl : i = 800 := by omega
      refine r_iload_n hJ dX5_saves_52 rfl jg1 ?_
      refine r_sipush hJ (v := nI 800) dX5_saves_53 (by decide) ?_
      refine r_icmp_ge hJ (tgt := 86) dX5_saves_56 (by decide) (fun c56 => ?_) (fun c56 => ?_)
      · refine r_aload_n hJ dX5_saves_86 rfl jg0 ?_
        refine r_dup hJ dX5_saves_87 rfl ?_
        refine r_g5_3O hJ m794 dX5_saves_88 ?_
        rw [putA_ne (by decide), hm']
        refine r_iconst hJ (v := nI 1) dX5_saves_91 (by decide) ?_
        refine r_iaddN hJ dX5_saves_92 ?_
        refine r_p5_3 hJ m794 dX5_saves_93 ?_
        exact ret_v hF dX5_saves_96 rfl (by rw [← he]; rfl)
      · exact absurd (nI_le (by omega) (by omega)) c56
    | succ k ih =>
      intro i hi
      refine r_iload_n hJ dX5_saves_52 rfl jg1 ?_
      refine r_sipush hJ (v := nI 800) dX5_saves_53 (by decide) ?_
      refine r_icmp_ge hJ (tgt := 86) dX5_saves_56 (by decide) (fun c56 => ?_) (fun c56 => ?_)
      · exact absurd c56 (nI_ge (by omega) (by omega))
      · refine r_aload_n hJ dX5_saves_59 rfl jg0 ?_
        refine r_g5_2 hJ m793 dX5_saves_60 ?_
        refine r_sipush hJ (v := nI 800) dX5_saves_63 (by decide) ?_
        refine r_aload_n hJ dX5_saves_66 rfl jg0 ?_
        refine r_g5_3O hJ m794 dX5_saves_67 ?_
        rw [putA_ne (by decide), hm']
        refine r_imulN hJ dX5_saves_70 ?_
        refine r_iload_n hJ dX5_saves_71 rfl jg1 ?_
        refine r_iaddN hJ dX5_saves_72 ?_
        refine r_aload_n hJ dX5_saves_73 rfl jg0 ?_
        refine r_g5_0 hJ m791 dX5_saves_74 ?_
        refine r_iload_n hJ dX5_saves_77 rfl jg1 ?_
        refine r_ialdO hJ (by omega) (alM1 (by omega)) rfl dX5_saves_78 ?_
        rw [putA_ne (by decide)]
        refine r_iastA hJ (alM3 (by omega)) rfl dX5_saves_79 ?_
        rw [cp3_s]
        refine r_iinc hJ dX5_saves_80 jg1 (ii1 _) (jp1 rfl rfl) ?_
        refine r_goto hJ (tgt := 52) dX5_saves_83 (by decide) ?_
        exact ih (i + 1) (by omega)
  have loop1 : T 0 0 = nI 6 → ∀ (k i : Nat), i + k = 4000 → J (setO S 10 (putA T 3 (sh3 (T 3) i)), x) 11 [some (.ref (ad E 10 0)), some (.int (nI i))] [] := by
    intro h6 k
    induction k with
    | zero =>
      intro i hi
      obtain rfl : i = 4000 := by omega
      refine r_iload_n hJ dX5_saves_11 rfl jg1 ?_
      refine r_sipush hJ (v := nI 4000) dX5_saves_12 (by decide) ?_
      refine r_icmp_ge hJ (tgt := 40) dX5_saves_15 (by decide) (fun c15 => ?_) (fun c15 => ?_)
      · refine r_aload_n hJ dX5_saves_40 rfl jg0 ?_
        refine r_dup hJ dX5_saves_41 rfl ?_
        refine r_g5_3O hJ m794 dX5_saves_42 ?_
        rw [putA_ne (by decide), h6]
        refine r_iconst hJ (v := nI 1) dX5_saves_45 (by decide) ?_
        refine r_isub hJ dX5_saves_46 ?_
        rw [show nI 6 - nI 1 = nI 5 from rfl]
        refine r_p5_3 hJ m794 dX5_saves_47 ?_
        refine r_iconst hJ (v := nI 0) dX5_saves_50 (by decide) ?_
        refine r_istore_n hJ dX5_saves_51 rfl (jp1 rfl rfl) ?_
        have h2 := loop2 (put (putA T 3 (sh3 (T 3) 4000)) 0 0 (nI 5)) 5 (Nat.le_refl _) rfl (by unfold savT; rw [if_pos h6]) 800 0 rfl
        rw [cp3_0, putA_self] at h2
        exact h2
      · exact absurd (nI_le (by omega) (by omega)) c15
    | succ k ih =>
      intro i hi
      refine r_iload_n hJ dX5_saves_11 rfl jg1 ?_
      refine r_sipush hJ (v := nI 4000) dX5_saves_12 (by decide) ?_
      refine r_icmp_ge hJ (tgt := 40) dX5_saves_15 (by decide) (fun c15 => ?_) (fun c15 => ?_)
      · exact absurd c15 (nI_ge (by omega) (by omega))
      · refine r_aload_n hJ dX5_saves_18 rfl jg0 ?_
        refine r_g5_2 hJ m793 dX5_saves_19 ?_
        refine r_iload_n hJ dX5_saves_22 rfl jg1 ?_
        refine r_aload_n hJ dX5_saves_23 rfl jg0 ?_
        refine r_g5_2 hJ m793 dX5_saves_24 ?_
        refine r_iload_n hJ dX5_saves_27 rfl jg1 ?_
        refine r_sipush hJ (v := nI 800) dX5_saves_28 (by decide) ?_
        refine r_iaddN hJ dX5_saves_31 ?_
        refine r_ialdA hJ (alM3 (by omega)) rfl dX5_saves_32 ?_
        refine r_iastA hJ (alM3 (by omega)) rfl dX5_saves_33 ?_
        rw [sh3_s]
        refine r_iinc hJ dX5_saves_34 jg1 (ii1 _) (jp1 rfl rfl) ?_
        refine r_goto hJ (tgt := 11) dX5_saves_37 (by decide) ?_
        exact ih (i + 1) (by omega)
  refine r_aload_n hJ dX5_saves_0 rfl jg0 ?_
  refine r_g5_3O hJ m794 dX5_saves_1 ?_
  refine r_bipush hJ (v := nI 6) dX5_saves_4 (by decide) ?_
  refine r_icmp_ne hJ (tgt := 50) dX5_saves_6 (by decide) (fun c6 => ?_) (fun c6 => ?_)
  · refine r_iconst hJ (v := nI 0) dX5_saves_50 (by decide) ?_
    refine r_istore_n hJ dX5_saves_51 rfl (jp1 rfl rfl) ?_
    have m5 : m ≤ 5 := by
      rcases Nat.lt_or_ge m 6 with q | q
      · omega
      · exact absurd (by rw [hm, show m = 6 by omega]) c6
    have h2 := loop2 T m m5 hm (by unfold savT; rw [if_neg c6, hm, toN_nI (by omega)]) 800 0 rfl
    rw [cp3_0, putA_self] at h2
    exact h2
  · refine r_iconst hJ (v := nI 0) dX5_saves_9 (by decide) ?_
    refine r_istore_n hJ dX5_saves_10 rfl (jp1 rfl rfl) ?_
    have h1 := loop1 c6 4000 0 rfl
    rw [sh3_0, putA_self] at h1
    exact h1

set_option maxRecDepth 100000 in
set_option maxHeartbeats 1000000 in
theorem c5_tries (l : Launch) (E : jE) (S : jS) (x : jX) (T : jO) : Ct l E yX5_tries cX5_tries 2 none 1 [.ref (ad E 10 0)] (setO S 10 T, x) none (setO S 10 (triT T), x) := by
  refine Ct.of (by decide +kernel) (Nat.le_refl _) (Nat.le_of_ble_eq_true rfl) rfl (fun J hJ hF => ?_)
  have loop : ∀ (k i : Nat), i + k = 800 → J (setO S 10 (putA T 2 (cpy (T 2) (T 1) i)), x) 2 [some (.ref (ad E 10 0)), some (.int (nI i))] [] := by
    intro k
    induction k with
    | zero =>
      intro i hi
      obtain rfl : i = 800 := by omega
      refine r_iload_n hJ dX5_tries_2 rfl jg1 ?_
      refine r_sipush hJ (v := nI 800) dX5_tries_3 (by decide) ?_
      refine r_icmp_ge hJ (tgt := 27) dX5_tries_6 (by decide) (fun c6 => ?_) (fun c6 => ?_)
      · exact ret_v hF dX5_tries_27 rfl rfl
      · exact absurd (nI_le (by omega) (by omega)) c6
    | succ k ih =>
      intro i hi
      refine r_iload_n hJ dX5_tries_2 rfl jg1 ?_
      refine r_sipush hJ (v := nI 800) dX5_tries_3 (by decide) ?_
      refine r_icmp_ge hJ (tgt := 27) dX5_tries_6 (by decide) (fun c6 => ?_) (fun c6 => ?_)
      · exact absurd c6 (nI_ge (by omega) (by omega))
      · refine r_aload_n hJ dX5_tries_9 rfl jg0 ?_
        refine r_g5_1 hJ m792 dX5_tries_10 ?_
        refine r_iload_n hJ dX5_tries_13 rfl jg1 ?_
        refine r_aload_n hJ dX5_tries_14 rfl jg0 ?_
        refine r_g5_0 hJ m791 dX5_tries_15 ?_
        refine r_iload_n hJ dX5_tries_18 rfl jg1 ?_
        refine r_ialdO hJ (by omega) (alM1 (by omega)) rfl dX5_tries_19 ?_
        rw [putA_ne (by decide)]
        refine r_iastA hJ (alM2 (by omega)) rfl dX5_tries_20 ?_
        rw [cpy_s]
        refine r_iinc hJ dX5_tries_21 jg1 (ii1 _) (jp1 rfl rfl) ?_
        refine r_goto hJ (tgt := 2) dX5_tries_24 (by decide) ?_
        exact ih (i + 1) (by omega)
  refine r_iconst hJ (v := nI 0) dX5_tries_0 (by decide) ?_
  refine r_istore_n hJ dX5_tries_1 rfl (jp1 rfl rfl) ?_
  have h1 := loop 800 0 rfl
  rw [cpy_0, putA_self] at h1
  exact h1

set_option maxRecDepth 100000 in
set_option maxHeartbeats 1000000 in
theorem c5_undo (l : Launch) (E : jE) (S : jS) (x : jX) (T : jO) {m : Nat} (hm6 : m ≤ 6) (hm : T 0 0 = nI m) : Ct l E yX5_undo cX5_undo 2 (some .int) 2 [.ref (ad E 10 0)] (setO S 10 T, x) (some (.int (if m = 0 then nI 0 else nI (m - 1)))) (setO S 10 (if m = 0 then thr (thr T (nI 0)) (nI 1) else undR T (m - 1)), x) := by
  refine Ct.of (by decide +kernel) (Nat.le_refl _) (Nat.le_of_ble_eq_true rfl) rfl (fun J hJ hF => ?_)
  have loop : ¬ m = 0 → ∀ (k i : Nat), i + k = 800 → J (setO S 10 (putA (put (thr T (nI 0)) 0 0 (nI (m - 1))) 1 (cpy (T 1) (fun q => T 3 (800 * (m - 1) + q)) i)), x) 30 [some (.ref (ad E 10 0)), some (.int (nI i))] [] := by
    intro h0 k
    induction k with
    | zero =>
      intro i hi
      obtain rfl : i = 800 := by omega
      refine r_iload_n hJ dX5_undo_30 rfl jg1 ?_
      refine r_sipush hJ (v := nI 800) dX5_undo_31 (by decide) ?_
      refine r_icmp_ge hJ (tgt := 64) dX5_undo_34 (by decide) (fun c34 => ?_) (fun c34 => ?_)
      · refine r_aload_n hJ dX5_undo_64 rfl jg0 ?_
        refine r_g5_3O hJ m794 dX5_undo_65 ?_
        exact ret_i hF dX5_undo_68 (by rw [if_neg h0]; rfl) (by rw [if_neg h0]; rfl)
      · exact absurd (nI_le (by omega) (by omega)) c34
    | succ k ih =>
      intro i hi
      refine r_iload_n hJ dX5_undo_30 rfl jg1 ?_
      refine r_sipush hJ (v := nI 800) dX5_undo_31 (by decide) ?_
      refine r_icmp_ge hJ (tgt := 64) dX5_undo_34 (by decide) (fun c34 => ?_) (fun c34 => ?_)
      · exact absurd c34 (nI_ge (by omega) (by omega))
      · refine r_aload_n hJ dX5_undo_37 rfl jg0 ?_
        refine r_g5_0 hJ m791 dX5_undo_38 ?_
        refine r_iload_n hJ dX5_undo_41 rfl jg1 ?_
        refine r_aload_n hJ dX5_undo_42 rfl jg0 ?_
        refine r_g5_2 hJ m793 dX5_undo_43 ?_
        refine r_sipush hJ (v := nI 800) dX5_undo_46 (by decide) ?_
        refine r_aload_n hJ dX5_undo_49 rfl jg0 ?_
        refine r_g5_3O hJ m794 dX5_undo_50 ?_
        rw [show (putA (put (thr T (nI 0)) 0 0 (nI (m - 1))) 1 (cpy (T 1) (fun q => T 3 (800 * (m - 1) + q)) i)) 0 0 = nI (m - 1) from rfl]
        refine r_imulN hJ dX5_undo_53 ?_
        refine r_iload_n hJ dX5_undo_54 rfl jg1 ?_
        refine r_iaddN hJ dX5_undo_55 ?_
        refine r_ialdO hJ (by omega) (alM3 (by omega)) rfl dX5_undo_56 ?_
        rw [show (putA (put (thr T (nI 0)) 0 0 (nI (m - 1))) 1 (cpy (T 1) (fun q => T 3 (800 * (m - 1) + q)) i)) 3 (800 * (m - 1) + i) = (fun q => T 3 (800 * (m - 1) + q)) i from rfl]
        refine r_iastA hJ (alM1 (by omega)) rfl dX5_undo_57 ?_
        rw [cpy_s]
        refine r_iinc hJ dX5_undo_58 jg1 (ii1 _) (jp1 rfl rfl) ?_
        refine r_goto hJ (tgt := 30) dX5_undo_61 (by decide) ?_
        exact ih (i + 1) (by omega)
  refine r_aload_n hJ dX5_undo_0 rfl jg0 ?_
  refine r_iconst hJ (v := nI 0) dX5_undo_1 (by decide) ?_
  refine r_p5_6 hJ m797 dX5_undo_2 ?_
  refine r_aload_n hJ dX5_undo_5 rfl jg0 ?_
  refine r_g5_3O hJ m794 dX5_undo_6 ?_
  rw [show (put T 0 2 (nI 0)) 0 0 = nI m from hm]
  refine r_if_ne hJ (tgt := 18) dX5_undo_9 (by decide) (fun c9 => ?_) (fun c9 => ?_)
  · have m0 : ¬ m = 0 := fun q => c9 (by rw [q]; rfl)
    refine r_aload_n hJ dX5_undo_18 rfl jg0 ?_
    refine r_dup hJ dX5_undo_19 rfl ?_
    refine r_g5_3O hJ m794 dX5_undo_20 ?_
    rw [show (put T 0 2 (nI 0)) 0 0 = nI m from hm]
    refine r_iconst hJ (v := nI 1) dX5_undo_23 (by decide) ?_
    refine r_isub hJ dX5_undo_24 ?_
    rw [nI_sub1 (by omega)]
    refine r_p5_3 hJ m794 dX5_undo_25 ?_
    refine r_iconst hJ (v := nI 0) dX5_undo_28 (by decide) ?_
    refine r_istore_n hJ dX5_undo_29 rfl (jp1 rfl rfl) ?_
    have h1 := loop m0 800 0 rfl
    rw [cpy_0] at h1
    rw [show putA (put (thr T (nI 0)) 0 0 (nI (m - 1))) 1 (T 1) = (put (thr T (nI 0)) 0 0 (nI (m - 1))) from putA_self _ 1] at h1
    exact h1
  · have m0 : m = 0 := by
      rw [show (0 : Int32) = nI 0 from rfl, nI_eq (by omega) (by decide)] at c9
      exact c9
    refine r_aload_n hJ dX5_undo_12 rfl jg0 ?_
    refine r_iconst hJ (v := nI 1) dX5_undo_13 (by decide) ?_
    refine r_V1v hJ kX5_36 (rcv5 E) (c5_fails l E _ x _ (nI 1)) dX5_undo_14 ⟨by decide, by decide⟩ (Nat.le_of_ble_eq_true rfl) ?_
    exact ret_i hF dX5_undo_17 (by rw [if_pos m0]) (by rw [if_pos m0]; rfl)
