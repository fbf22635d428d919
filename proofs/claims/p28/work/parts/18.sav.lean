/-! SAVES: the row of kept pools (x.1 : place → pool), object 9 (its field 0: how many) -/
theorem wld_K (E : jE) (S : jS) (K : Nat → Nat) (y : Int64 × Nat) (n o : Nat) :
    (wld E (S, (K, y))).set (bas 9 + 1) (ad E 9 1, .inl (E.2.2.1.2.2, 6, .inr (.inr (.inr (.inr (va_up (fun i => some (ad E (K i) 0)) n (some (ad E o 0)))))))) = wld E (S, (va_up K n o, y)) := by
  have hf : va_up (fun i => some (ad E (K i) 0)) n (some (ad E o 0)) = fun i => some (ad E (va_up K n o i) 0) := by
    funext i
    by_cases h : i = n <;> simp [va_up, h]
  obtain ⟨h1, h2⟩ := loc_off 9 (by decide) 1 (by decide)
  rw [hf]
  apply List.ext_getElem?
  intro i
  by_cases hi : i < 109
  · by_cases hq : i = bas 9 + 1
    · subst hq
      rw [List.getElem?_set_self (by rw [wld_len]; exact hi), wld_get E _ _ (by decide) (by decide)]
      rfl
    · rw [List.getElem?_set_ne (Ne.symm hq), wld_at E _ hi, wld_at E _ hi]
      have h5 := (loc_ok i hi).1
      have h6 := (loc_ok i hi).2
      generalize loc i = lk at h5 h6
      obtain ⟨o', j'⟩ := lk
      congr 2
      show cel E (K, y) o' (S o') j' = cel E (va_up K n o, y) o' (S o') j'
      unfold cel scal
      by_cases h3 : o' = 9
      · subst h3
        have h7 : j' = 0 := by
          have h8 : j' < 2 := h6
          have h9 : j' ≠ 1 := by
            intro q
            subst q
            exact hq h5.symm
          omega
        subst h7
        simp
      · simp [h3]
  · rw [List.getElem?_eq_none (by rw [List.length_set, wld_len]; omega), List.getElem?_eq_none (by rw [wld_len]; omega)]
section ROWS3
variable {l : Launch} {E : jE} {own : String} {cc : ByteArray} {nL d n0 cap : Nat} {J : jT} {pc : Nat} {L : List (Option Value)} {rest : List Value}
theorem kept_at (E : jE) (S : jS) (x : jX) : (wld E (S, x))[bas 9 + 1]? = some (ad E 9 1, .inl (E.2.2.1.2.2, 6, .inr (.inr (.inr (.inr fun i => some (ad E (x.1 i) 0)))))) := by
  rw [wld_get E S x (by decide) (by decide)]
  rfl
theorem r_aald (hJ : jR l E own cc nL d n0 cap J) {S : jS} {x : jX} {n : Nat} {i : Int32} (hn : n < 6) (hi : i = nI n) (hd : decode cc pc = .ok (.aaload, 1)) (k : J (S, x) (pc + 1) L (.ref (ad E (x.1 n) 0) :: rest)) : J (S, x) pc L (.int i :: .ref (ad E 9 1) :: rest) := by
  obtain ⟨p, e, R, s, m, args, below, meth, c, Q, cb, sb, rfl, ⟨hx, hb, hml, hown, hts⟩, hfr, hlo, hce, hsl, hB⟩ := hJ
  intro h1 h2 H locs ls hP hS hl
  subst hi
  refine va_aldq (D := E.2.1) (ws := wld E (S, x)) hx hb hB.1 hP (bas 9 + 1) 2 (kept_at E S x) rfl (vp_in_nI hn (by decide)) hd ?_
  rw [nI_clamp (by omega)]
  exact k h1 h2 H locs ls hP hS hl
theorem r_aast (hJ : jR l E own cc nL d n0 cap J) {S : jS} {K : Nat → Nat} {y : Int64 × Nat} {n o : Nat} {i : Int32} (ho : o < 8) (hn : n < 6) (hi : i = nI n) (hd : decode cc pc = .ok (.aastore, 1)) (k : J (S, (va_up K n o, y)) (pc + 1) L rest) : J (S, (K, y)) pc L (.ref (ad E o 0) :: .int i :: .ref (ad E 9 1) :: rest) := by
  obtain ⟨p, e, R, s, m, args, below, meth, c, Q, cb, sb, rfl, ⟨hx, hb, hml, hown, hts⟩, hfr, hlo, hce, hsl, hB⟩ := hJ
  intro h1 h2 H locs ls hP hS hl
  subst hi
  have hw : 0 < wid o := by simp [wid, ho]
  refine va_astq (D := E.2.1) (A := jA E) (r := (RX2, TX2, 16)) (ws := wld E (S, (K, y))) hx hb hB.1 hP (wld_D E _) hS (bas 9 + 1) 2 (bas o + 0) 1 (kept_at E S (K, y)) rfl (vs := poolF E o (S o)) (by rw [wld_get E S _ (by omega) hw, cel_0]; simp [scal, ho]) rfl (vp_in_nI hn (by decide)) hd (fun H1 locs1 hP1 _ hS1 => ?_)
  rw [nI_clamp (by omega), wld_K] at hP1
  exact k h1 h2 H1 locs1 ls hP1 hS1 hl
theorem r_V1ux (hJ : jR l E own cc nL d n0 cap J) {ix nL' d' a : Nat} {C : String} {y : MethodName} {cc' : ByteArray} {ret : Option FieldType} {S S' : jS} {x x' : jX} {x1 : Value} (hx : x'.2.2 = x.2.2) (w : wV own ix C y cc' nL' ret 1) (hrc : rcv E a C) (ct : Ct l E y cc' nL' ret d' [.ref a, x1] (S, x) none (S', x')) (hd : decode cc pc = .ok (.invokevirtual ix, 3)) (hdd : d' < d ∧ nL' ≤ 13) (hst : (rest.map fun v => v.category).sum ≤ 8) (k : J (S', x') (pc + 3) L rest) : J (S, x) pc L (x1 :: .ref a :: rest) :=
  r_callV hJ (As := [x1]) w hrc ct hd hdd rfl hst (fun h => by rw [hx]; exact h) k
theorem r_V0ux (hJ : jR l E own cc nL d n0 cap J) {ix nL' d' a : Nat} {C : String} {y : MethodName} {cc' : ByteArray} {ret : Option FieldType} {S S' : jS} {x x' : jX} (hx : x'.2.2 = x.2.2) (w : wV own ix C y cc' nL' ret 0) (hrc : rcv E a C) (ct : Ct l E y cc' nL' ret d' [.ref a] (S, x) none (S', x')) (hd : decode cc pc = .ok (.invokevirtual ix, 3)) (hdd : d' < d ∧ nL' ≤ 13) (hst : (rest.map fun v => v.category).sum ≤ 8) (k : J (S', x') (pc + 3) L rest) : J (S, x) pc L (.ref a :: rest) :=
  r_callV hJ (As := []) w hrc ct hd hdd rfl hst (fun h => by rw [hx]; exact h) k
end ROWS3
def rotF : Nat → Nat → (Nat → Nat) → (Nat → Nat)
  | 0, _, K => K
  | k + 1, i, K => rotF k (i + 1) (va_up K (i - 1) (K i))
def rotK (K : Nat → Nat) : Nat → Nat := va_up (rotF 5 1 K) 5 (K 0)
theorem rotK_at (K : Nat → Nat) (i : Nat) : rotK K i = if i < 5 then K (i + 1) else if i = 5 then K 0 else K i := by
  unfold rotK rotF rotF rotF rotF rotF rotF va_up
  by_cases h0 : i = 0
  · subst h0; simp
  by_cases h1 : i = 1
  · subst h1; simp
  by_cases h2 : i = 2
  · subst h2; simp
  by_cases h3 : i = 3
  · subst h3; simp
  by_cases h4 : i = 4
  · subst h4; simp
  by_cases h5 : i = 5
  · subst h5; simp
  have : ¬ i < 5 := by omega
  simp [h0, h1, h2, h3, h4, h5, this]
/-- the kept pools: six different ones, of 2..7 -/
def KI (K : Nat → Nat) : Prop := (∀ i, i < 6 → 2 ≤ K i ∧ K i < 8) ∧ ∀ i j, i < 6 → j < 6 → K i = K j → i = j
theorem KI_rot {K : Nat → Nat} (h : KI K) : KI (rotK K) := by
  refine ⟨fun i hi => ?_, fun i j hi hj => ?_⟩
  · rw [rotK_at]
    split
    · exact h.1 _ (by omega)
    · rw [if_pos (by omega)]
      exact h.1 0 (by decide)
  · rw [rotK_at, rotK_at]
    intro q
    by_cases h1 : i < 5 <;> by_cases h2 : j < 5
    · rw [if_pos h1, if_pos h2] at q
      have := h.2 _ _ (by omega) (by omega) q
      omega
    · rw [if_pos h1, if_neg h2, if_pos (by omega)] at q
      have := h.2 _ _ (by omega) (by omega) q
      omega
    · rw [if_neg h1, if_pos (by omega), if_pos h2] at q
      have := h.2 _ _ (by omega) (by omega) q
      omega
    · omega
set_option maxRecDepth 100000 in
set_option maxHeartbeats 1000000 in
theorem c3_dropOldest (l : Launch) (E : jE) (S : jS) (K : Nat → Nat) (y : Int64 × Nat) (V : jO) (hK : KI K) : Ct l E yX3_dropOldest cX3_dropOldest 3 none 1 [.ref (ad E 9 0)] (setO S 9 V, (K, y)) none (setO S 9 (put V 0 0 (V 0 0 - nI 1)), (rotK K, y)) := by
  refine Ct.of (by decide +kernel) (Nat.le_refl _) (Nat.le_of_ble_eq_true rfl) rfl (fun J hJ hF => ?_)
  have loop : ∀ (k i : Nat) (K' : Nat → Nat), i + k = 6 → 0 < i → (∀ j, i ≤ j → j < 6 → K' j = K j) → rotF k i K' = rotF 5 1 K → J (setO S 9 V, (K', y)) 9 [some (.ref (ad E 9 0)), some (.ref (ad E (K 0) 0)), some (.int (nI i))] [] := by
    intro k
    induction k with
    | zero =>
      intro i K' hi h0 hk he
      obtain rfl : i = 6 := by omega
      refine r_iload_n hJ dX3_dropOldest_9 rfl jg2 ?_
      refine r_bipush hJ (v := nI 6) dX3_dropOldest_10 (by decide) ?_
      refine r_icmp_ge hJ (tgt := 35) dX3_dropOldest_12 (by decide) (fun c12 => ?_) (fun c12 => ?_)
      · refine r_aload_n hJ dX3_dropOldest_35 rfl jg0 ?_
        refine r_g3_0 hJ m114 dX3_dropOldest_36 ?_
        refine r_iconst hJ (v := nI 5) dX3_dropOldest_39 (by decide) ?_
        refine r_aload_n hJ dX3_dropOldest_40 rfl jg1 ?_
        refine r_aast hJ (hK.1 0 (by decide)).2 (by decide) rfl dX3_dropOldest_41 ?_
        refine r_aload_n hJ dX3_dropOldest_42 rfl jg0 ?_
        refine r_dup hJ dX3_dropOldest_43 rfl ?_
        refine r_g3_1O hJ m115 dX3_dropOldest_44 ?_
        refine r_iconst hJ (v := nI 1) dX3_dropOldest_47 (by decide) ?_
        refine r_isub hJ dX3_dropOldest_48 ?_
        refine r_p3_1 hJ m115 dX3_dropOldest_49 ?_
        exact ret_v hF dX3_dropOldest_52 rfl (by rw [show K' = rotF 5 1 K from he]; rfl)
      · exact absurd (nI_le (by omega) (by omega)) c12
    | succ k ih =>
      intro i K' hi h0 hk he
      have hK8 : ∀ j, j < 6 → j = i → 2 ≤ K' j ∧ K' j < 8 := fun j hj q => by rw [hk j (by omega) hj]; exact hK.1 j hj
      refine r_iload_n hJ dX3_dropOldest_9 rfl jg2 ?_
      refine r_bipush hJ (v := nI 6) dX3_dropOldest_10 (by decide) ?_
      refine r_icmp_ge hJ (tgt := 35) dX3_dropOldest_12 (by decide) (fun c12 => ?_) (fun c12 => ?_)
      · exact absurd c12 (nI_ge (by omega) (by omega))
      · refine r_aload_n hJ dX3_dropOldest_15 rfl jg0 ?_
        refine r_g3_0 hJ m114 dX3_dropOldest_16 ?_
        refine r_iload_n hJ dX3_dropOldest_19 rfl jg2 ?_
        refine r_iconst hJ (v := nI 1) dX3_dropOldest_20 (by decide) ?_
        refine r_isub hJ dX3_dropOldest_21 ?_
        rw [show nI i - nI 1 = nI (i - 1) from pk_sub (by omega)]
        refine r_aload_n hJ dX3_dropOldest_22 rfl jg0 ?_
        refine r_g3_0 hJ m114 dX3_dropOldest_23 ?_
        refine r_iload_n hJ dX3_dropOldest_26 rfl jg2 ?_
        refine r_aald hJ (by omega) rfl dX3_dropOldest_27 ?_
        refine r_aast hJ (hK8 i (by omega) rfl).2 (by omega) rfl dX3_dropOldest_28 ?_
        refine r_iinc hJ dX3_dropOldest_29 jg2 (ii1 _) (jp2 rfl rfl) ?_
        refine r_goto hJ (tgt := 9) dX3_dropOldest_32 (by decide) ?_
        exact ih (i + 1) _ (by omega) (by omega) (fun j hj hj6 => by rw [va_up_ne _ _ (by omega)]; exact hk j (by omega) hj6) he
  refine r_aload_n hJ dX3_dropOldest_0 rfl jg0 ?_
  refine r_g3_0 hJ m114 dX3_dropOldest_1 ?_
  refine r_iconst hJ (v := nI 0) dX3_dropOldest_4 (by decide) ?_
  refine r_aald hJ (by decide) rfl dX3_dropOldest_5 ?_
  refine r_astore_n hJ dX3_dropOldest_6 rfl (jp1 rfl rfl) ?_
  refine r_iconst hJ (v := nI 1) dX3_dropOldest_7 (by decide) ?_
  refine r_istore_n hJ dX3_dropOldest_8 rfl (jp2 rfl rfl) ?_
  exact loop 5 1 K (by omega) (by omega) (fun _ _ _ => rfl) rfl

theorem setO_comm {S : jS} {o o' : Nat} {P P' : jO} (h : o ≠ o') : setO (setO S o P) o' P' = setO (setO S o' P') o P := by
  funext q
  by_cases h1 : q = o
  · subst h1
    simp [setO, h]
  · by_cases h2 : q = o'
    · subst h2
      simp [setO, h1]
    · simp [setO, h1, h2]
theorem c2_copyG (l : Launch) (E : jE) (S : jS) (x : jX) {o o1 : Nat} (ho : o < 8) (ho1 : o1 < 8) (hne : o1 ≠ o) : Ct l E yX2_copyFrom cX2_copyFrom 2 none 3 [.ref (ad E o 0), .ref (ad E o1 0)] (S, x) none (setO S o (S o1), x) := by
  have h := c2_copyFrom l E S x (S o) ho ho1 hne
  rwa [setO_self] at h
set_option maxRecDepth 100000 in
set_option maxHeartbeats 1000000 in
theorem c3_keep_a (l : Launch) (E : jE) (S : jS) (K : Nat → Nat) (y : Int64 × Nat) (V : jO) (hK : KI K) {m : Nat} (hV : V 0 0 = nI m) (hm : m < 6) : Ct l E yX3_keep cX3_keep 3 none 4 [.ref (ad E 9 0), .ref (ad E 0 0)] (setO S 9 V, (K, y)) none (setO (setO S (K m) (S 0)) 9 (put V 0 0 (V 0 0 + nI 1)), (K, y)) := by
  refine Ct.of (by decide +kernel) (Nat.le_refl _) (Nat.le_of_ble_eq_true rfl) rfl (fun J hJ hF => ?_)
  have hKm := hK.1 m hm
  have hV1 := hV
  refine r_aload_n hJ dX3_keep_0 rfl jg0 ?_
  refine r_g3_1O hJ m115 dX3_keep_1 ?_
  refine r_bipush hJ (v := nI 6) dX3_keep_4 (by decide) ?_
  refine r_icmp_ne hJ (tgt := 13) dX3_keep_6 (by decide) (fun c6 => ?_) (fun c6 => ?_)
  · refine r_aload_n hJ dX3_keep_13 rfl jg0 ?_
    refine r_g3_0 hJ m114 dX3_keep_14 ?_
    refine r_aload_n hJ dX3_keep_17 rfl jg0 ?_
    refine r_g3_1O hJ m115 dX3_keep_18 ?_
    refine r_aald hJ (n := m) (by omega) hV1 dX3_keep_21 ?_
    refine r_astore_n hJ dX3_keep_22 rfl (jp2 rfl rfl) ?_
    refine r_aload_n hJ dX3_keep_23 rfl jg2 ?_
    refine r_ifnull hJ dX3_keep_24 ?_
    refine r_aload_n hJ dX3_keep_27 rfl jg2 ?_
    refine r_aload_n hJ dX3_keep_28 rfl jg1 ?_
    refine r_V1u hJ kX3_25 (rcv2 E hKm.2) (c2_copyG l E _ _ (o := K m) (o1 := 0) (hKm.2) (by decide) (by omega)) dX3_keep_29 ⟨by decide, by decide⟩ (Nat.le_of_ble_eq_true rfl) ?_
    rw [setO_ne (show (0 : Nat) ≠ 9 by decide), setO_comm (show (9 : Nat) ≠ K m by omega)]
    refine r_aload_n hJ dX3_keep_32 rfl jg0 ?_
    refine r_dup hJ dX3_keep_33 rfl ?_
    refine r_g3_1O hJ m115 dX3_keep_34 ?_
    refine r_iconst hJ (v := nI 1) dX3_keep_37 (by decide) ?_
    refine r_iadd hJ dX3_keep_38 ?_
    refine r_p3_1 hJ m115 dX3_keep_39 ?_
    exact ret_v hF dX3_keep_42 rfl rfl
  · exact absurd c6 (by rw [hV, nI_eq (by omega) (by decide)]; omega)

set_option maxRecDepth 100000 in
set_option maxHeartbeats 1000000 in
theorem c3_keep_b (l : Launch) (E : jE) (S : jS) (K : Nat → Nat) (y : Int64 × Nat) (V : jO) (hK : KI K) (hV : V 0 0 = nI 6) : Ct l E yX3_keep cX3_keep 3 none 4 [.ref (ad E 9 0), .ref (ad E 0 0)] (setO S 9 V, (K, y)) none (setO (setO S (rotK K 5) (S 0)) 9 (put (put V 0 0 (V 0 0 - nI 1)) 0 0 (put V 0 0 (V 0 0 - nI 1) 0 0 + nI 1)), (rotK K, y)) := by
  refine Ct.of (by decide +kernel) (Nat.le_refl _) (Nat.le_of_ble_eq_true rfl) rfl (fun J hJ hF => ?_)
  have hKm := (KI_rot hK).1 5 (by decide)
  have hV1 : put V 0 0 (V 0 0 - nI 1) 0 0 = nI 5 := by rw [put_app, if_pos (by decide), hV]; decide
  refine r_aload_n hJ dX3_keep_0 rfl jg0 ?_
  refine r_g3_1O hJ m115 dX3_keep_1 ?_
  refine r_bipush hJ (v := nI 6) dX3_keep_4 (by decide) ?_
  refine r_icmp_ne hJ (tgt := 13) dX3_keep_6 (by decide) (fun c6 => ?_) (fun c6 => ?_)
  · exact absurd hV c6
  · refine r_aload_n hJ dX3_keep_9 rfl jg0 ?_
    refine r_V0ux hJ (x' := (rotK K, y)) rfl kX3_22 (rcv3 E) (c3_dropOldest l E S K y V hK) dX3_keep_10 ⟨by decide, by decide⟩ (Nat.le_of_ble_eq_true rfl) ?_
    refine r_aload_n hJ dX3_keep_13 rfl jg0 ?_
    refine r_g3_0 hJ m114 dX3_keep_14 ?_
    refine r_aload_n hJ dX3_keep_17 rfl jg0 ?_
    refine r_g3_1O hJ m115 dX3_keep_18 ?_
    refine r_aald hJ (n := 5) (by omega) hV1 dX3_keep_21 ?_
    refine r_astore_n hJ dX3_keep_22 rfl (jp2 rfl rfl) ?_
    refine r_aload_n hJ dX3_keep_23 rfl jg2 ?_
    refine r_ifnull hJ dX3_keep_24 ?_
    refine r_aload_n hJ dX3_keep_27 rfl jg2 ?_
    refine r_aload_n hJ dX3_keep_28 rfl jg1 ?_
    refine r_V1u hJ kX3_25 (rcv2 E hKm.2) (c2_copyG l E _ _ (o := rotK K 5) (o1 := 0) (hKm.2) (by decide) (by omega)) dX3_keep_29 ⟨by decide, by decide⟩ (Nat.le_of_ble_eq_true rfl) ?_
    rw [setO_ne (show (0 : Nat) ≠ 9 by decide), setO_comm (show (9 : Nat) ≠ rotK K 5 by omega)]
    refine r_aload_n hJ dX3_keep_32 rfl jg0 ?_
    refine r_dup hJ dX3_keep_33 rfl ?_
    refine r_g3_1O hJ m115 dX3_keep_34 ?_
    refine r_iconst hJ (v := nI 1) dX3_keep_37 (by decide) ?_
    refine r_iadd hJ dX3_keep_38 ?_
    refine r_p3_1 hJ m115 dX3_keep_39 ?_
    exact ret_v hF dX3_keep_42 rfl rfl

set_option maxRecDepth 100000 in
set_option maxHeartbeats 1000000 in
theorem c3_restore (l : Launch) (E : jE) (S : jS) (K : Nat → Nat) (y : Int64 × Nat) (V : jO) (hK : KI K) {m : Nat} (hV : V 0 0 = nI m) (hm : 0 < m) (hm6 : m ≤ 6) : Ct l E yX3_restore cX3_restore 3 none 4 [.ref (ad E 9 0), .ref (ad E 0 0)] (setO S 9 V, (K, y)) none (setO (setO S 9 (put V 0 0 (V 0 0 - nI 1))) 0 (S (K (m - 1))), (K, y)) := by
  refine Ct.of (by decide +kernel) (Nat.le_refl _) (Nat.le_of_ble_eq_true rfl) rfl (fun J hJ hF => ?_)
  have hKm := hK.1 (m - 1) (by omega)
  have hV1 : put V 0 0 (V 0 0 - nI 1) 0 0 = nI (m - 1) := by rw [put_app, if_pos (by decide), hV]; exact pk_sub (by omega)
  refine r_aload_n hJ dX3_restore_0 rfl jg0 ?_
  refine r_g3_1O hJ m115 dX3_restore_1 ?_
  refine r_if_ne hJ (tgt := 8) dX3_restore_4 (by decide) (fun c4 => ?_) (fun c4 => ?_)
  · refine r_aload_n hJ dX3_restore_8 rfl jg0 ?_
    refine r_dup hJ dX3_restore_9 rfl ?_
    refine r_g3_1O hJ m115 dX3_restore_10 ?_
    refine r_iconst hJ (v := nI 1) dX3_restore_13 (by decide) ?_
    refine r_isub hJ dX3_restore_14 ?_
    refine r_p3_1 hJ m115 dX3_restore_15 ?_
    refine r_aload_n hJ dX3_restore_18 rfl jg0 ?_
    refine r_g3_0 hJ m114 dX3_restore_19 ?_
    refine r_aload_n hJ dX3_restore_22 rfl jg0 ?_
    refine r_g3_1O hJ m115 dX3_restore_23 ?_
    refine r_aald hJ (n := m - 1) (by omega) hV1 dX3_restore_26 ?_
    refine r_astore_n hJ dX3_restore_27 rfl (jp2 rfl rfl) ?_
    refine r_aload_n hJ dX3_restore_28 rfl jg2 ?_
    refine r_ifnull hJ dX3_restore_29 ?_
    refine r_aload_n hJ dX3_restore_32 rfl jg1 ?_
    refine r_aload_n hJ dX3_restore_33 rfl jg2 ?_
    refine r_V1u hJ kX3_25 (rcv2 E (by decide)) (c2_copyG l E _ _ (o := 0) (o1 := K (m - 1)) (by decide) (hKm.2) (by omega)) dX3_restore_34 ⟨by decide, by decide⟩ (Nat.le_of_ble_eq_true rfl) ?_
    rw [setO_ne (show K (m - 1) ≠ 9 by omega)]
    exact ret_v hF dX3_restore_37 rfl rfl
  · exact absurd c4 (by rw [hV]; exact nI_ne0 hm (by omega))
