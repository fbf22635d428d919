/-! THE LAW'S METHODS THAT CATCH -/
/-- the words of a call of a catching static method -/
def wSH (own : String) (ix : Nat) (y : MethodName) (cc : ByteArray) (nL : Nat) (ret : Option FieldType) (hh : List (Nat × Nat × Nat × Nat)) (n : Nat) : Prop :=
  Cond.methodLink own ix y ∈ gw ∧ Cond.static y ∈ gw ∧ Cond.initialized own ∈ gw ∧ Cond.codeWith y cc nL ret hh ∈ gw ∧ (y.cls = own ∧ y.cls ≠ "java/lang/invoke/MethodHandle" ∧ y.cls ≠ "java/lang/invoke/VarHandle" ∧ (parseMethodDescriptor y.desc).map (fun d => d.parameters.length) = some n)
theorem gI_SH {own : String} {ix nL n : Nat} {y : MethodName} {cc : ByteArray} {ret : Option FieldType} {hh : List (Nat × Nat × Nat × Nat)} (w : wSH own ix y cc nL ret hh n) : GoodIn gw (va_wsS own ix y (.codeWith y cc nL ret hh :: gw)) := by
  obtain ⟨h1, h2, h3, h4, h5, -⟩ := w
  refine gI fun z hz => ?_
  simp only [va_wsS, List.cons_append, List.nil_append, List.mem_cons] at hz
  rcases hz with rfl | rfl | rfl | rfl | hz
  · exact h1
  · exact h2
  · rw [h5]
    exact h3
  · exact h4
  · exact hz
section CALLH
variable {l : Launch} {E : jE} {own : String} {cc : ByteArray} {nL d n0 cap : Nat} {J : jT} {pc : Nat} {L : List (Option Value)} {rest : List Value}
theorem r_callSH (hJ : jR l E own cc nL d n0 cap J) {ix nL' n d' : Nat} {y : MethodName} {cc' : ByteArray} {ret : Option FieldType} {hh : List (Nat × Nat × Nat × Nat)} {As : List Value} {G G' : jG} {r : Option Value} (w : wSH own ix y cc' nL' ret hh n) (ct : CtH l E y cc' nL' ret hh d' As G r G')
    (hd : decode cc pc = .ok (.invokestatic ix, 3)) (hdd : d' < d ∧ nL' ≤ 13) (hn : As.length = n) (hst : (rest.map fun v => v.category).sum ≤ 8) (hcap : G.2.2.2 ≤ n0 + cap → G'.2.2.2 ≤ n0 + cap) (k : J G' (pc + 3) L (r.toList ++ rest)) : J G pc L (As.reverse ++ rest) := by
  obtain ⟨p, e, R, s, m, args, below, meth, c, Q, cb, sb, rfl, hfix, hfr, hlo, hce, hsl, hB⟩ := hJ
  obtain ⟨kx, hkx, hM⟩ := ct
  intro h1 h2 H locs ls hP hS hl
  have hcp := hcap h2
  have hr := vx_runSW (e := e) (below := below) (meth := meth) (rest := rest) (g := F0 m pc ls (As.reverse ++ rest)) (cells := cb + (G.2.2.2 - n0)) (slots := sb + 6 * (G.2.2.2 - n0)) (locs := locs) (As := As) (H := H) hfix hM
    (vx_cwSW n hfix.2.2.2.2 (gI_SH w) rfl rfl rfl w.2.2.2.2.2 ⟨by show d' + 1 ≤ R.frames; omega, by show 8 + (nL' + 11) + 32 * d' ≤ R.locals; omega⟩)
    ⟨jPc_blind E _ G, fun U hU hW => ⟨rfl, by rw [hU]; exact hP, hB.go hS hW hU⟩⟩ rfl hn hl.1 rfl (lv_room hst) hd ⟨by omega, by omega⟩
  exact jAfter hB h1 hkx hcp hS hl hr k
end CALLH
theorem w_take {l : Launch} {E : jE} {S S1 : jS} {K K1 : Nat → Nat} {o : Int64} {n k : Nat} {v p0 p1 : Int32} (ho : Out l E yX4_take cX4_take 3 8 [.ref (ad E 11 0), .int p0, .int p1] (S, (K, (o, n))) [xO, xA, xS] k v (S1, (K1, (o, n)))) :
    ∃ o' n', n ≤ n' ∧ n' ≤ n + 1 ∧ (k = 0 → o' = v.toInt64) ∧ CtH l E yL_take cL_take 5 (some .int) [(0, 10, 13, 13), (0, 10, 17, 15), (0, 10, 21, 17)] 9 [.ref (ad E 11 0), .int p0, .int p1, .ref (ad E 12 0)] (S, (K, (o, n))) (some (.int (nI k))) (S1, (K1, (o', n'))) := by
  rcases ho with ⟨rfl, ct⟩ | ⟨j, c, rfl, hj, ct⟩
  · refine ⟨v.toInt64, n, Nat.le_refl _, Nat.le_succ _, fun _ => rfl, CtH.of (by decide) (Nat.le_refl _) (Nat.le_of_ble_eq_true rfl) rfl ?_⟩
    intro J hJ hF hC
    refine r_aload_n hJ dL_take_0 rfl jg3 ?_
    refine r_iconst hJ (v := nI 0) dL_take_1 (by decide) ?_
    refine r_aload_n hJ dL_take_2 rfl jg0 ?_
    refine r_iload_n hJ dL_take_3 rfl jg1 ?_
    refine r_iload_n hJ dL_take_4 rfl jg2 ?_
    refine r_V2vx hJ (x' := (K1, (o, n))) rfl kL_7 (rcv4 E) ct dL_take_5 ⟨by decide, by decide⟩ (Nat.le_of_ble_eq_true rfl) ?_
    refine r_i2l hJ dL_take_8 rfl ?_
    refine r_last hJ dL_take_9 ?_
    refine r_goto hJ (tgt := 25) dL_take_10 (by decide) ?_
    refine r_iconst hJ (v := nI 0) dL_take_25 (by decide) ?_
    exact hF.1 _ _ _ rfl rfl dL_take_26
  · refine ⟨o, n + 1, Nat.le_succ _, Nat.le_refl _, fun h => absurd h (Nat.succ_ne_zero _), CtH.of (by decide) (Nat.le_succ _) (Nat.le_of_ble_eq_true rfl) rfl ?_⟩
    intro J hJ hF hC
    refine r_aload_n hJ dL_take_0 rfl jg3 ?_
    refine r_iconst hJ (v := nI 0) dL_take_1 (by decide) ?_
    refine r_aload_n hJ dL_take_2 rfl jg0 ?_
    refine r_iload_n hJ dL_take_3 rfl jg1 ?_
    refine r_iload_n hJ dL_take_4 rfl jg2 ?_
    rcases j with _ | _ | _ | j
    · obtain rfl := Option.some.inj hj
      refine hC (S, (K, (o, n))) (S1, (K1, (o, n + 1))) 5 _ [.int (nI 0), .ref (ad E 12 0)] 7 3 2 8 _ RX4 yX4_take cX4_take (some .int) [.int p0, .int p1] xO [] (0, 10, 13, 13) [(0, 10, 17, 15), (0, 10, 21, 17)] rfl (fun _ h => absurd h List.not_mem_nil) ⟨by decide, by decide⟩ (by decide) m466 (List.mem_of_getElem? (i := 3) rfl) kL_7 (rcv4 E) ct dL_take_5 ⟨by decide, by decide⟩ rfl (Nat.le_of_ble_eq_true rfl) (Nat.le_refl _) (by show n + 1 ≤ n + (n + 1 - n); omega) (fun q => ?_)
      refine r_astore hJ dL_take_13 (jp4 rfl rfl) ?_
      refine r_iconst hJ (v := nI 1) dL_take_15 (by decide) ?_
      exact hF.1 _ _ _ rfl rfl dL_take_16
    · obtain rfl := Option.some.inj hj
      refine hC (S, (K, (o, n))) (S1, (K1, (o, n + 1))) 5 _ [.int (nI 0), .ref (ad E 12 0)] 7 3 2 8 _ RX4 yX4_take cX4_take (some .int) [.int p0, .int p1] xA [(0, 10, 13, 13)] (0, 10, 17, 15) [(0, 10, 21, 17)] rfl (List.forall_mem_cons.mpr ⟨⟨by decide, xO, m466, by decide +kernel⟩, fun _ h => absurd h List.not_mem_nil⟩) ⟨by decide, by decide⟩ (by decide) m467 (List.mem_of_getElem? (i := 4) rfl) kL_7 (rcv4 E) ct dL_take_5 ⟨by decide, by decide⟩ rfl (Nat.le_of_ble_eq_true rfl) (Nat.le_refl _) (by show n + 1 ≤ n + (n + 1 - n); omega) (fun q => ?_)
      refine r_astore hJ dL_take_17 (jp4 rfl rfl) ?_
      refine r_iconst hJ (v := nI 2) dL_take_19 (by decide) ?_
      exact hF.1 _ _ _ rfl rfl dL_take_20
    · obtain rfl := Option.some.inj hj
      refine hC (S, (K, (o, n))) (S1, (K1, (o, n + 1))) 5 _ [.int (nI 0), .ref (ad E 12 0)] 7 3 2 8 _ RX4 yX4_take cX4_take (some .int) [.int p0, .int p1] xS [(0, 10, 13, 13), (0, 10, 17, 15)] (0, 10, 21, 17) [] rfl (List.forall_mem_cons.mpr ⟨⟨by decide, xO, m466, by decide +kernel⟩, List.forall_mem_cons.mpr ⟨⟨by decide, xA, m467, by decide +kernel⟩, fun _ h => absurd h List.not_mem_nil⟩⟩) ⟨by decide, by decide⟩ (by decide) m468 (List.mem_of_getElem? (i := 5) rfl) kL_7 (rcv4 E) ct dL_take_5 ⟨by decide, by decide⟩ rfl (Nat.le_of_ble_eq_true rfl) (Nat.le_refl _) (by show n + 1 ≤ n + (n + 1 - n); omega) (fun q => ?_)
      refine r_astore hJ dL_take_21 (jp4 rfl rfl) ?_
      refine r_iconst hJ (v := nI 3) dL_take_23 (by decide) ?_
      exact hF.1 _ _ _ rfl rfl dL_take_24
    · exact absurd hj (by simp)
theorem kLH_80 : wSH RL 80 yL_take cL_take 5 (some .int) [(0, 10, 13, 13), (0, 10, 17, 15), (0, 10, 21, 17)] 4 := ⟨m463, m464, m63, m465, by decide +kernel⟩
theorem w_takeSpan {l : Launch} {E : jE} {S S1 : jS} {K K1 : Nat → Nat} {o : Int64} {n k : Nat} {v p0 p1 p2 : Int32} (ho : Out l E yX4_takeSpan cX4_takeSpan 4 8 [.ref (ad E 11 0), .int p0, .int p1, .int p2] (S, (K, (o, n))) [xO, xA, xS] k v (S1, (K1, (o, n)))) :
    ∃ o' n', n ≤ n' ∧ n' ≤ n + 1 ∧ (k = 0 → o' = v.toInt64) ∧ CtH l E yL_takeSpan cL_takeSpan 6 (some .int) [(0, 12, 15, 13), (0, 12, 19, 15), (0, 12, 23, 17)] 9 [.ref (ad E 11 0), .int p0, .int p1, .int p2, .ref (ad E 12 0)] (S, (K, (o, n))) (some (.int (nI k))) (S1, (K1, (o', n'))) := by
  rcases ho with ⟨rfl, ct⟩ | ⟨j, c, rfl, hj, ct⟩
  · refine ⟨v.toInt64, n, Nat.le_refl _, Nat.le_succ _, fun _ => rfl, CtH.of (by decide) (Nat.le_refl _) (Nat.le_of_ble_eq_true rfl) rfl ?_⟩
    intro J hJ hF hC
    refine r_aload hJ dL_takeSpan_0 jg4 ?_
    refine r_iconst hJ (v := nI 0) dL_takeSpan_2 (by decide) ?_
    refine r_aload_n hJ dL_takeSpan_3 rfl jg0 ?_
    refine r_iload_n hJ dL_takeSpan_4 rfl jg1 ?_
    refine r_iload_n hJ dL_takeSpan_5 rfl jg2 ?_
    refine r_iload_n hJ dL_takeSpan_6 rfl jg3 ?_
    refine r_V3vx hJ (x' := (K1, (o, n))) rfl kL_19 (rcv4 E) ct dL_takeSpan_7 ⟨by decide, by decide⟩ (Nat.le_of_ble_eq_true rfl) ?_
    refine r_i2l hJ dL_takeSpan_10 rfl ?_
    refine r_last hJ dL_takeSpan_11 ?_
    refine r_goto hJ (tgt := 27) dL_takeSpan_12 (by decide) ?_
    refine r_iconst hJ (v := nI 0) dL_takeSpan_27 (by decide) ?_
    exact hF.1 _ _ _ rfl rfl dL_takeSpan_28
  · refine ⟨o, n + 1, Nat.le_succ _, Nat.le_refl _, fun h => absurd h (Nat.succ_ne_zero _), CtH.of (by decide) (Nat.le_succ _) (Nat.le_of_ble_eq_true rfl) rfl ?_⟩
    intro J hJ hF hC
    refine r_aload hJ dL_takeSpan_0 jg4 ?_
    refine r_iconst hJ (v := nI 0) dL_takeSpan_2 (by decide) ?_
    refine r_aload_n hJ dL_takeSpan_3 rfl jg0 ?_
    refine r_iload_n hJ dL_takeSpan_4 rfl jg1 ?_
    refine r_iload_n hJ dL_takeSpan_5 rfl jg2 ?_
    refine r_iload_n hJ dL_takeSpan_6 rfl jg3 ?_
    rcases j with _ | _ | _ | j
    · obtain rfl := Option.some.inj hj
      refine hC (S, (K, (o, n))) (S1, (K1, (o, n + 1))) 7 _ [.int (nI 0), .ref (ad E 12 0)] 19 4 3 8 _ RX4 yX4_takeSpan cX4_takeSpan (some .int) [.int p0, .int p1, .int p2] xO [] (0, 12, 15, 13) [(0, 12, 19, 15), (0, 12, 23, 17)] rfl (fun _ h => absurd h List.not_mem_nil) ⟨by decide, by decide⟩ (by decide) m466 (List.mem_of_getElem? (i := 3) rfl) kL_19 (rcv4 E) ct dL_takeSpan_7 ⟨by decide, by decide⟩ rfl (Nat.le_of_ble_eq_true rfl) (Nat.le_refl _) (by show n + 1 ≤ n + (n + 1 - n); omega) (fun q => ?_)
      refine r_astore hJ dL_takeSpan_15 (jp5 rfl rfl) ?_
      refine r_iconst hJ (v := nI 1) dL_takeSpan_17 (by decide) ?_
      exact hF.1 _ _ _ rfl rfl dL_takeSpan_18
    · obtain rfl := Option.some.inj hj
      refine hC (S, (K, (o, n))) (S1, (K1, (o, n + 1))) 7 _ [.int (nI 0), .ref (ad E 12 0)] 19 4 3 8 _ RX4 yX4_takeSpan cX4_takeSpan (some .int) [.int p0, .int p1, .int p2] xA [(0, 12, 15, 13)] (0, 12, 19, 15) [(0, 12, 23, 17)] rfl (List.forall_mem_cons.mpr ⟨⟨by decide, xO, m466, by decide +kernel⟩, fun _ h => absurd h List.not_mem_nil⟩) ⟨by decide, by decide⟩ (by decide) m467 (List.mem_of_getElem? (i := 4) rfl) kL_19 (rcv4 E) ct dL_takeSpan_7 ⟨by decide, by decide⟩ rfl (Nat.le_of_ble_eq_true rfl) (Nat.le_refl _) (by show n + 1 ≤ n + (n + 1 - n); omega) (fun q => ?_)
      refine r_astore hJ dL_takeSpan_19 (jp5 rfl rfl) ?_
      refine r_iconst hJ (v := nI 2) dL_takeSpan_21 (by decide) ?_
      exact hF.1 _ _ _ rfl rfl dL_takeSpan_22
    · obtain rfl := Option.some.inj hj
      refine hC (S, (K, (o, n))) (S1, (K1, (o, n + 1))) 7 _ [.int (nI 0), .ref (ad E 12 0)] 19 4 3 8 _ RX4 yX4_takeSpan cX4_takeSpan (some .int) [.int p0, .int p1, .int p2] xS [(0, 12, 15, 13), (0, 12, 19, 15)] (0, 12, 23, 17) [] rfl (List.forall_mem_cons.mpr ⟨⟨by decide, xO, m466, by decide +kernel⟩, List.forall_mem_cons.mpr ⟨⟨by decide, xA, m467, by decide +kernel⟩, fun _ h => absurd h List.not_mem_nil⟩⟩) ⟨by decide, by decide⟩ (by decide) m468 (List.mem_of_getElem? (i := 5) rfl) kL_19 (rcv4 E) ct dL_takeSpan_7 ⟨by decide, by decide⟩ rfl (Nat.le_of_ble_eq_true rfl) (Nat.le_refl _) (by show n + 1 ≤ n + (n + 1 - n); omega) (fun q => ?_)
      refine r_astore hJ dL_takeSpan_23 (jp5 rfl rfl) ?_
      refine r_iconst hJ (v := nI 3) dL_takeSpan_25 (by decide) ?_
      exact hF.1 _ _ _ rfl rfl dL_takeSpan_26
    · exact absurd hj (by simp)
theorem kLH_89 : wSH RL 89 yL_takeSpan cL_takeSpan 6 (some .int) [(0, 12, 15, 13), (0, 12, 19, 15), (0, 12, 23, 17)] 5 := ⟨m600, m601, m63, m602, by decide +kernel⟩
theorem w_wish {l : Launch} {E : jE} {S S1 : jS} {K K1 : Nat → Nat} {o : Int64} {n k : Nat} {v p0 p1 p2 : Int32} (ho : Out l E yX4_wish cX4_wish 4 7 [.ref (ad E 11 0), .int p0, .int p1, .int p2] (S, (K, (o, n))) [xO, xA, xS] k v (S1, (K1, (o, n)))) :
    ∃ o' n', n ≤ n' ∧ n' ≤ n + 1 ∧ (k = 0 → o' = v.toInt64) ∧ CtH l E yL_wish cL_wish 6 (some .int) [(0, 12, 15, 13), (0, 12, 19, 15), (0, 12, 23, 17)] 9 [.ref (ad E 11 0), .int p0, .int p1, .int p2, .ref (ad E 12 0)] (S, (K, (o, n))) (some (.int (nI k))) (S1, (K1, (o', n'))) := by
  rcases ho with ⟨rfl, ct⟩ | ⟨j, c, rfl, hj, ct⟩
  · refine ⟨v.toInt64, n, Nat.le_refl _, Nat.le_succ _, fun _ => rfl, CtH.of (by decide) (Nat.le_refl _) (Nat.le_of_ble_eq_true rfl) rfl ?_⟩
    intro J hJ hF hC
    refine r_aload hJ dL_wish_0 jg4 ?_
    refine r_iconst hJ (v := nI 0) dL_wish_2 (by decide) ?_
    refine r_aload_n hJ dL_wish_3 rfl jg0 ?_
    refine r_iload_n hJ dL_wish_4 rfl jg1 ?_
    refine r_iload_n hJ dL_wish_5 rfl jg2 ?_
    refine r_iload_n hJ dL_wish_6 rfl jg3 ?_
    refine r_V3vx hJ (x' := (K1, (o, n))) rfl kL_23 (rcv4 E) ct dL_wish_7 ⟨by decide, by decide⟩ (Nat.le_of_ble_eq_true rfl) ?_
    refine r_i2l hJ dL_wish_10 rfl ?_
    refine r_last hJ dL_wish_11 ?_
    refine r_goto hJ (tgt := 27) dL_wish_12 (by decide) ?_
    refine r_iconst hJ (v := nI 0) dL_wish_27 (by decide) ?_
    exact hF.1 _ _ _ rfl rfl dL_wish_28
  · refine ⟨o, n + 1, Nat.le_succ _, Nat.le_refl _, fun h => absurd h (Nat.succ_ne_zero _), CtH.of (by decide) (Nat.le_succ _) (Nat.le_of_ble_eq_true rfl) rfl ?_⟩
    intro J hJ hF hC
    refine r_aload hJ dL_wish_0 jg4 ?_
    refine r_iconst hJ (v := nI 0) dL_wish_2 (by decide) ?_
    refine r_aload_n hJ dL_wish_3 rfl jg0 ?_
    refine r_iload_n hJ dL_wish_4 rfl jg1 ?_
    refine r_iload_n hJ dL_wish_5 rfl jg2 ?_
    refine r_iload_n hJ dL_wish_6 rfl jg3 ?_
    rcases j with _ | _ | _ | j
    · obtain rfl := Option.some.inj hj
      refine hC (S, (K, (o, n))) (S1, (K1, (o, n + 1))) 7 _ [.int (nI 0), .ref (ad E 12 0)] 23 4 3 7 _ RX4 yX4_wish cX4_wish (some .int) [.int p0, .int p1, .int p2] xO [] (0, 12, 15, 13) [(0, 12, 19, 15), (0, 12, 23, 17)] rfl (fun _ h => absurd h List.not_mem_nil) ⟨by decide, by decide⟩ (by decide) m466 (List.mem_of_getElem? (i := 3) rfl) kL_23 (rcv4 E) ct dL_wish_7 ⟨by decide, by decide⟩ rfl (Nat.le_of_ble_eq_true rfl) (Nat.le_refl _) (by show n + 1 ≤ n + (n + 1 - n); omega) (fun q => ?_)
      refine r_astore hJ dL_wish_15 (jp5 rfl rfl) ?_
      refine r_iconst hJ (v := nI 1) dL_wish_17 (by decide) ?_
      exact hF.1 _ _ _ rfl rfl dL_wish_18
    · obtain rfl := Option.some.inj hj
      refine hC (S, (K, (o, n))) (S1, (K1, (o, n + 1))) 7 _ [.int (nI 0), .ref (ad E 12 0)] 23 4 3 7 _ RX4 yX4_wish cX4_wish (some .int) [.int p0, .int p1, .int p2] xA [(0, 12, 15, 13)] (0, 12, 19, 15) [(0, 12, 23, 17)] rfl (List.forall_mem_cons.mpr ⟨⟨by decide, xO, m466, by decide +kernel⟩, fun _ h => absurd h List.not_mem_nil⟩) ⟨by decide, by decide⟩ (by decide) m467 (List.mem_of_getElem? (i := 4) rfl) kL_23 (rcv4 E) ct dL_wish_7 ⟨by decide, by decide⟩ rfl (Nat.le_of_ble_eq_true rfl) (Nat.le_refl _) (by show n + 1 ≤ n + (n + 1 - n); omega) (fun q => ?_)
      refine r_astore hJ dL_wish_19 (jp5 rfl rfl) ?_
      refine r_iconst hJ (v := nI 2) dL_wish_21 (by decide) ?_
      exact hF.1 _ _ _ rfl rfl dL_wish_22
    · obtain rfl := Option.some.inj hj
      refine hC (S, (K, (o, n))) (S1, (K1, (o, n + 1))) 7 _ [.int (nI 0), .ref (ad E 12 0)] 23 4 3 7 _ RX4 yX4_wish cX4_wish (some .int) [.int p0, .int p1, .int p2] xS [(0, 12, 15, 13), (0, 12, 19, 15)] (0, 12, 23, 17) [] rfl (List.forall_mem_cons.mpr ⟨⟨by decide, xO, m466, by decide +kernel⟩, List.forall_mem_cons.mpr ⟨⟨by decide, xA, m467, by decide +kernel⟩, fun _ h => absurd h List.not_mem_nil⟩⟩) ⟨by decide, by decide⟩ (by decide) m468 (List.mem_of_getElem? (i := 5) rfl) kL_23 (rcv4 E) ct dL_wish_7 ⟨by decide, by decide⟩ rfl (Nat.le_of_ble_eq_true rfl) (Nat.le_refl _) (by show n + 1 ≤ n + (n + 1 - n); omega) (fun q => ?_)
      refine r_astore hJ dL_wish_23 (jp5 rfl rfl) ?_
      refine r_iconst hJ (v := nI 3) dL_wish_25 (by decide) ?_
      exact hF.1 _ _ _ rfl rfl dL_wish_26
    · exact absurd hj (by simp)
theorem kLH_93 : wSH RL 93 yL_wish cL_wish 6 (some .int) [(0, 12, 15, 13), (0, 12, 19, 15), (0, 12, 23, 17)] 5 := ⟨m607, m608, m63, m609, by decide +kernel⟩
theorem w_unwish {l : Launch} {E : jE} {S S1 : jS} {K K1 : Nat → Nat} {o : Int64} {n k : Nat} {v p0 p1 : Int32} (ho : Out l E yX4_unwish cX4_unwish 4 7 [.ref (ad E 11 0), .int p0, .int p1] (S, (K, (o, n))) [xO, xS] k v (S1, (K1, (o, n)))) :
    ∃ o' n', n ≤ n' ∧ n' ≤ n + 1 ∧ (k = 0 → o' = v.toInt64) ∧ CtH l E yL_unwish cL_unwish 5 (some .int) [(0, 10, 13, 13), (0, 10, 17, 17)] 9 [.ref (ad E 11 0), .int p0, .int p1, .ref (ad E 12 0)] (S, (K, (o, n))) (some (.int (nI k))) (S1, (K1, (o', n'))) := by
  rcases ho with ⟨rfl, ct⟩ | ⟨j, c, rfl, hj, ct⟩
  · refine ⟨v.toInt64, n, Nat.le_refl _, Nat.le_succ _, fun _ => rfl, CtH.of (by decide) (Nat.le_refl _) (Nat.le_of_ble_eq_true rfl) rfl ?_⟩
    intro J hJ hF hC
    refine r_aload_n hJ dL_unwish_0 rfl jg3 ?_
    refine r_iconst hJ (v := nI 0) dL_unwish_1 (by decide) ?_
    refine r_aload_n hJ dL_unwish_2 rfl jg0 ?_
    refine r_iload_n hJ dL_unwish_3 rfl jg1 ?_
    refine r_iload_n hJ dL_unwish_4 rfl jg2 ?_
    refine r_V2vx hJ (x' := (K1, (o, n))) rfl kL_26 (rcv4 E) ct dL_unwish_5 ⟨by decide, by decide⟩ (Nat.le_of_ble_eq_true rfl) ?_
    refine r_i2l hJ dL_unwish_8 rfl ?_
    refine r_last hJ dL_unwish_9 ?_
    refine r_goto hJ (tgt := 21) dL_unwish_10 (by decide) ?_
    refine r_iconst hJ (v := nI 0) dL_unwish_21 (by decide) ?_
    exact hF.1 _ _ _ rfl rfl dL_unwish_22
  · refine ⟨o, n + 1, Nat.le_succ _, Nat.le_refl _, fun h => absurd h (Nat.succ_ne_zero _), CtH.of (by decide) (Nat.le_succ _) (Nat.le_of_ble_eq_true rfl) rfl ?_⟩
    intro J hJ hF hC
    refine r_aload_n hJ dL_unwish_0 rfl jg3 ?_
    refine r_iconst hJ (v := nI 0) dL_unwish_1 (by decide) ?_
    refine r_aload_n hJ dL_unwish_2 rfl jg0 ?_
    refine r_iload_n hJ dL_unwish_3 rfl jg1 ?_
    refine r_iload_n hJ dL_unwish_4 rfl jg2 ?_
    rcases j with _ | _ | j
    · obtain rfl := Option.some.inj hj
      refine hC (S, (K, (o, n))) (S1, (K1, (o, n + 1))) 5 _ [.int (nI 0), .ref (ad E 12 0)] 26 4 2 7 _ RX4 yX4_unwish cX4_unwish (some .int) [.int p0, .int p1] xO [] (0, 10, 13, 13) [(0, 10, 17, 17)] rfl (fun _ h => absurd h List.not_mem_nil) ⟨by decide, by decide⟩ (by decide) m466 (List.mem_of_getElem? (i := 3) rfl) kL_26 (rcv4 E) ct dL_unwish_5 ⟨by decide, by decide⟩ rfl (Nat.le_of_ble_eq_true rfl) (Nat.le_refl _) (by show n + 1 ≤ n + (n + 1 - n); omega) (fun q => ?_)
      refine r_astore hJ dL_unwish_13 (jp4 rfl rfl) ?_
      refine r_iconst hJ (v := nI 1) dL_unwish_15 (by decide) ?_
      exact hF.1 _ _ _ rfl rfl dL_unwish_16
    · obtain rfl := Option.some.inj hj
      refine hC (S, (K, (o, n))) (S1, (K1, (o, n + 1))) 5 _ [.int (nI 0), .ref (ad E 12 0)] 26 4 2 7 _ RX4 yX4_unwish cX4_unwish (some .int) [.int p0, .int p1] xS [(0, 10, 13, 13)] (0, 10, 17, 17) [] rfl (List.forall_mem_cons.mpr ⟨⟨by decide, xO, m466, by decide +kernel⟩, fun _ h => absurd h List.not_mem_nil⟩) ⟨by decide, by decide⟩ (by decide) m468 (List.mem_of_getElem? (i := 5) rfl) kL_26 (rcv4 E) ct dL_unwish_5 ⟨by decide, by decide⟩ rfl (Nat.le_of_ble_eq_true rfl) (Nat.le_refl _) (by show n + 1 ≤ n + (n + 1 - n); omega) (fun q => ?_)
      refine r_astore hJ dL_unwish_17 (jp4 rfl rfl) ?_
      refine r_iconst hJ (v := nI 2) dL_unwish_19 (by decide) ?_
      exact hF.1 _ _ _ rfl rfl dL_unwish_20
    · exact absurd hj (by simp)
theorem kLH_96 : wSH RL 96 yL_unwish cL_unwish 5 (some .int) [(0, 10, 13, 13), (0, 10, 17, 17)] 4 := ⟨m622, m623, m63, m624, by decide +kernel⟩
theorem w_renew {l : Launch} {E : jE} {S S1 : jS} {K K1 : Nat → Nat} {o : Int64} {n k : Nat} {v p0 p1 p2 : Int32} (ho : Out l E yX4_renew cX4_renew 4 7 [.ref (ad E 11 0), .int p0, .int p1, .int p2] (S, (K, (o, n))) [xO, xA, xS] k v (S1, (K1, (o, n)))) :
    ∃ o' n', n ≤ n' ∧ n' ≤ n + 1 ∧ (k = 0 → o' = v.toInt64) ∧ CtH l E yL_renew cL_renew 6 (some .int) [(0, 12, 15, 13), (0, 12, 19, 15), (0, 12, 23, 17)] 9 [.ref (ad E 11 0), .int p0, .int p1, .int p2, .ref (ad E 12 0)] (S, (K, (o, n))) (some (.int (nI k))) (S1, (K1, (o', n'))) := by
  rcases ho with ⟨rfl, ct⟩ | ⟨j, c, rfl, hj, ct⟩
  · refine ⟨v.toInt64, n, Nat.le_refl _, Nat.le_succ _, fun _ => rfl, CtH.of (by decide) (Nat.le_refl _) (Nat.le_of_ble_eq_true rfl) rfl ?_⟩
    intro J hJ hF hC
    refine r_aload hJ dL_renew_0 jg4 ?_
    refine r_iconst hJ (v := nI 0) dL_renew_2 (by decide) ?_
    refine r_aload_n hJ dL_renew_3 rfl jg0 ?_
    refine r_iload_n hJ dL_renew_4 rfl jg1 ?_
    refine r_iload_n hJ dL_renew_5 rfl jg2 ?_
    refine r_iload_n hJ dL_renew_6 rfl jg3 ?_
    refine r_V3vx hJ (x' := (K1, (o, n))) rfl kL_29 (rcv4 E) ct dL_renew_7 ⟨by decide, by decide⟩ (Nat.le_of_ble_eq_true rfl) ?_
    refine r_i2l hJ dL_renew_10 rfl ?_
    refine r_last hJ dL_renew_11 ?_
    refine r_goto hJ (tgt := 27) dL_renew_12 (by decide) ?_
    refine r_iconst hJ (v := nI 0) dL_renew_27 (by decide) ?_
    exact hF.1 _ _ _ rfl rfl dL_renew_28
  · refine ⟨o, n + 1, Nat.le_succ _, Nat.le_refl _, fun h => absurd h (Nat.succ_ne_zero _), CtH.of (by decide) (Nat.le_succ _) (Nat.le_of_ble_eq_true rfl) rfl ?_⟩
    intro J hJ hF hC
    refine r_aload hJ dL_renew_0 jg4 ?_
    refine r_iconst hJ (v := nI 0) dL_renew_2 (by decide) ?_
    refine r_aload_n hJ dL_renew_3 rfl jg0 ?_
    refine r_iload_n hJ dL_renew_4 rfl jg1 ?_
    refine r_iload_n hJ dL_renew_5 rfl jg2 ?_
    refine r_iload_n hJ dL_renew_6 rfl jg3 ?_
    rcases j with _ | _ | _ | j
    · obtain rfl := Option.some.inj hj
      refine hC (S, (K, (o, n))) (S1, (K1, (o, n + 1))) 7 _ [.int (nI 0), .ref (ad E 12 0)] 29 4 3 7 _ RX4 yX4_renew cX4_renew (some .int) [.int p0, .int p1, .int p2] xO [] (0, 12, 15, 13) [(0, 12, 19, 15), (0, 12, 23, 17)] rfl (fun _ h => absurd h List.not_mem_nil) ⟨by decide, by decide⟩ (by decide) m466 (List.mem_of_getElem? (i := 3) rfl) kL_29 (rcv4 E) ct dL_renew_7 ⟨by decide, by decide⟩ rfl (Nat.le_of_ble_eq_true rfl) (Nat.le_refl _) (by show n + 1 ≤ n + (n + 1 - n); omega) (fun q => ?_)
      refine r_astore hJ dL_renew_15 (jp5 rfl rfl) ?_
      refine r_iconst hJ (v := nI 1) dL_renew_17 (by decide) ?_
      exact hF.1 _ _ _ rfl rfl dL_renew_18
    · obtain rfl := Option.some.inj hj
      refine hC (S, (K, (o, n))) (S1, (K1, (o, n + 1))) 7 _ [.int (nI 0), .ref (ad E 12 0)] 29 4 3 7 _ RX4 yX4_renew cX4_renew (some .int) [.int p0, .int p1, .int p2] xA [(0, 12, 15, 13)] (0, 12, 19, 15) [(0, 12, 23, 17)] rfl (List.forall_mem_cons.mpr ⟨⟨by decide, xO, m466, by decide +kernel⟩, fun _ h => absurd h List.not_mem_nil⟩) ⟨by decide, by decide⟩ (by decide) m467 (List.mem_of_getElem? (i := 4) rfl) kL_29 (rcv4 E) ct dL_renew_7 ⟨by decide, by decide⟩ rfl (Nat.le_of_ble_eq_true rfl) (Nat.le_refl _) (by show n + 1 ≤ n + (n + 1 - n); omega) (fun q => ?_)
      refine r_astore hJ dL_renew_19 (jp5 rfl rfl) ?_
      refine r_iconst hJ (v := nI 2) dL_renew_21 (by decide) ?_
      exact hF.1 _ _ _ rfl rfl dL_renew_22
    · obtain rfl := Option.some.inj hj
      refine hC (S, (K, (o, n))) (S1, (K1, (o, n + 1))) 7 _ [.int (nI 0), .ref (ad E 12 0)] 29 4 3 7 _ RX4 yX4_renew cX4_renew (some .int) [.int p0, .int p1, .int p2] xS [(0, 12, 15, 13), (0, 12, 19, 15)] (0, 12, 23, 17) [] rfl (List.forall_mem_cons.mpr ⟨⟨by decide, xO, m466, by decide +kernel⟩, List.forall_mem_cons.mpr ⟨⟨by decide, xA, m467, by decide +kernel⟩, fun _ h => absurd h List.not_mem_nil⟩⟩) ⟨by decide, by decide⟩ (by decide) m468 (List.mem_of_getElem? (i := 5) rfl) kL_29 (rcv4 E) ct dL_renew_7 ⟨by decide, by decide⟩ rfl (Nat.le_of_ble_eq_true rfl) (Nat.le_refl _) (by show n + 1 ≤ n + (n + 1 - n); omega) (fun q => ?_)
      refine r_astore hJ dL_renew_23 (jp5 rfl rfl) ?_
      refine r_iconst hJ (v := nI 3) dL_renew_25 (by decide) ?_
      exact hF.1 _ _ _ rfl rfl dL_renew_26
    · exact absurd hj (by simp)
theorem kLH_99 : wSH RL 99 yL_renew cL_renew 6 (some .int) [(0, 12, 15, 13), (0, 12, 19, 15), (0, 12, 23, 17)] 5 := ⟨m631, m632, m63, m633, by decide +kernel⟩
theorem w_giveBack {l : Launch} {E : jE} {S S1 : jS} {K K1 : Nat → Nat} {o : Int64} {n k : Nat} {v p0 p1 p2 : Int32} (ho : Out l E yX4_giveBack cX4_giveBack 4 7 [.ref (ad E 11 0), .int p0, .int p1, .int p2] (S, (K, (o, n))) [xO, xA] k v (S1, (K1, (o, n)))) :
    ∃ o' n', n ≤ n' ∧ n' ≤ n + 1 ∧ (k = 0 → o' = v.toInt64) ∧ CtH l E yL_giveBack cL_giveBack 6 (some .int) [(0, 12, 15, 13), (0, 12, 19, 15)] 9 [.ref (ad E 11 0), .int p0, .int p1, .int p2, .ref (ad E 12 0)] (S, (K, (o, n))) (some (.int (nI k))) (S1, (K1, (o', n'))) := by
  rcases ho with ⟨rfl, ct⟩ | ⟨j, c, rfl, hj, ct⟩
  · refine ⟨v.toInt64, n, Nat.le_refl _, Nat.le_succ _, fun _ => rfl, CtH.of (by decide) (Nat.le_refl _) (Nat.le_of_ble_eq_true rfl) rfl ?_⟩
    intro J hJ hF hC
    refine r_aload hJ dL_giveBack_0 jg4 ?_
    refine r_iconst hJ (v := nI 0) dL_giveBack_2 (by decide) ?_
    refine r_aload_n hJ dL_giveBack_3 rfl jg0 ?_
    refine r_iload_n hJ dL_giveBack_4 rfl jg1 ?_
    refine r_iload_n hJ dL_giveBack_5 rfl jg2 ?_
    refine r_iload_n hJ dL_giveBack_6 rfl jg3 ?_
    refine r_V3vx hJ (x' := (K1, (o, n))) rfl kL_32 (rcv4 E) ct dL_giveBack_7 ⟨by decide, by decide⟩ (Nat.le_of_ble_eq_true rfl) ?_
    refine r_i2l hJ dL_giveBack_10 rfl ?_
    refine r_last hJ dL_giveBack_11 ?_
    refine r_goto hJ (tgt := 23) dL_giveBack_12 (by decide) ?_
    refine r_iconst hJ (v := nI 0) dL_giveBack_23 (by decide) ?_
    exact hF.1 _ _ _ rfl rfl dL_giveBack_24
  · refine ⟨o, n + 1, Nat.le_succ _, Nat.le_refl _, fun h => absurd h (Nat.succ_ne_zero _), CtH.of (by decide) (Nat.le_succ _) (Nat.le_of_ble_eq_true rfl) rfl ?_⟩
    intro J hJ hF hC
    refine r_aload hJ dL_giveBack_0 jg4 ?_
    refine r_iconst hJ (v := nI 0) dL_giveBack_2 (by decide) ?_
    refine r_aload_n hJ dL_giveBack_3 rfl jg0 ?_
    refine r_iload_n hJ dL_giveBack_4 rfl jg1 ?_
    refine r_iload_n hJ dL_giveBack_5 rfl jg2 ?_
    refine r_iload_n hJ dL_giveBack_6 rfl jg3 ?_
    rcases j with _ | _ | j
    · obtain rfl := Option.some.inj hj
      refine hC (S, (K, (o, n))) (S1, (K1, (o, n + 1))) 7 _ [.int (nI 0), .ref (ad E 12 0)] 32 4 3 7 _ RX4 yX4_giveBack cX4_giveBack (some .int) [.int p0, .int p1, .int p2] xO [] (0, 12, 15, 13) [(0, 12, 19, 15)] rfl (fun _ h => absurd h List.not_mem_nil) ⟨by decide, by decide⟩ (by decide) m466 (List.mem_of_getElem? (i := 3) rfl) kL_32 (rcv4 E) ct dL_giveBack_7 ⟨by decide, by decide⟩ rfl (Nat.le_of_ble_eq_true rfl) (Nat.le_refl _) (by show n + 1 ≤ n + (n + 1 - n); omega) (fun q => ?_)
      refine r_astore hJ dL_giveBack_15 (jp5 rfl rfl) ?_
      refine r_iconst hJ (v := nI 1) dL_giveBack_17 (by decide) ?_
      exact hF.1 _ _ _ rfl rfl dL_giveBack_18
    · obtain rfl := Option.some.inj hj
      refine hC (S, (K, (o, n))) (S1, (K1, (o, n + 1))) 7 _ [.int (nI 0), .ref (ad E 12 0)] 32 4 3 7 _ RX4 yX4_giveBack cX4_giveBack (some .int) [.int p0, .int p1, .int p2] xA [(0, 12, 15, 13)] (0, 12, 19, 15) [] rfl (List.forall_mem_cons.mpr ⟨⟨by decide, xO, m466, by decide +kernel⟩, fun _ h => absurd h List.not_mem_nil⟩) ⟨by decide, by decide⟩ (by decide) m467 (List.mem_of_getElem? (i := 4) rfl) kL_32 (rcv4 E) ct dL_giveBack_7 ⟨by decide, by decide⟩ rfl (Nat.le_of_ble_eq_true rfl) (Nat.le_refl _) (by show n + 1 ≤ n + (n + 1 - n); omega) (fun q => ?_)
      refine r_astore hJ dL_giveBack_19 (jp5 rfl rfl) ?_
      refine r_iconst hJ (v := nI 2) dL_giveBack_21 (by decide) ?_
      exact hF.1 _ _ _ rfl rfl dL_giveBack_22
    · exact absurd hj (by simp)
theorem kLH_102 : wSH RL 102 yL_giveBack cL_giveBack 6 (some .int) [(0, 12, 15, 13), (0, 12, 19, 15)] 5 := ⟨m646, m647, m63, m648, by decide +kernel⟩
theorem w_pass {l : Launch} {E : jE} {S S1 : jS} {K K1 : Nat → Nat} {o : Int64} {n k : Nat} {v p0 : Int32} (ho : Out l E yX4_pass cX4_pass 2 7 [.ref (ad E 11 0), .int p0] (S, (K, (o, n))) [xA, xS] k v (S1, (K1, (o, n)))) :
    ∃ o' n', n ≤ n' ∧ n' ≤ n + 1 ∧ (k = 0 → o' = v.toInt64) ∧ CtH l E yL_pass cL_pass 4 (some .int) [(0, 9, 12, 15), (0, 9, 15, 17)] 9 [.ref (ad E 11 0), .int p0, .ref (ad E 12 0)] (S, (K, (o, n))) (some (.int (nI k))) (S1, (K1, (o', n'))) := by
  rcases ho with ⟨rfl, ct⟩ | ⟨j, c, rfl, hj, ct⟩
  · refine ⟨v.toInt64, n, Nat.le_refl _, Nat.le_succ _, fun _ => rfl, CtH.of (by decide) (Nat.le_refl _) (Nat.le_of_ble_eq_true rfl) rfl ?_⟩
    intro J hJ hF hC
    refine r_aload_n hJ dL_pass_0 rfl jg2 ?_
    refine r_iconst hJ (v := nI 0) dL_pass_1 (by decide) ?_
    refine r_aload_n hJ dL_pass_2 rfl jg0 ?_
    refine r_iload_n hJ dL_pass_3 rfl jg1 ?_
    refine r_V1vx hJ (x' := (K1, (o, n))) rfl kL_35 (rcv4 E) ct dL_pass_4 ⟨by decide, by decide⟩ (Nat.le_of_ble_eq_true rfl) ?_
    refine r_i2l hJ dL_pass_7 rfl ?_
    refine r_last hJ dL_pass_8 ?_
    refine r_goto hJ (tgt := 18) dL_pass_9 (by decide) ?_
    refine r_iconst hJ (v := nI 0) dL_pass_18 (by decide) ?_
    exact hF.1 _ _ _ rfl rfl dL_pass_19
  · refine ⟨o, n + 1, Nat.le_succ _, Nat.le_refl _, fun h => absurd h (Nat.succ_ne_zero _), CtH.of (by decide) (Nat.le_succ _) (Nat.le_of_ble_eq_true rfl) rfl ?_⟩
    intro J hJ hF hC
    refine r_aload_n hJ dL_pass_0 rfl jg2 ?_
    refine r_iconst hJ (v := nI 0) dL_pass_1 (by decide) ?_
    refine r_aload_n hJ dL_pass_2 rfl jg0 ?_
    refine r_iload_n hJ dL_pass_3 rfl jg1 ?_
    rcases j with _ | _ | j
    · obtain rfl := Option.some.inj hj
      refine hC (S, (K, (o, n))) (S1, (K1, (o, n + 1))) 4 _ [.int (nI 0), .ref (ad E 12 0)] 35 2 1 7 _ RX4 yX4_pass cX4_pass (some .int) [.int p0] xA [] (0, 9, 12, 15) [(0, 9, 15, 17)] rfl (fun _ h => absurd h List.not_mem_nil) ⟨by decide, by decide⟩ (by decide) m467 (List.mem_of_getElem? (i := 4) rfl) kL_35 (rcv4 E) ct dL_pass_4 ⟨by decide, by decide⟩ rfl (Nat.le_of_ble_eq_true rfl) (Nat.le_refl _) (by show n + 1 ≤ n + (n + 1 - n); omega) (fun q => ?_)
      refine r_astore_n hJ dL_pass_12 rfl (jp3 rfl rfl) ?_
      refine r_iconst hJ (v := nI 1) dL_pass_13 (by decide) ?_
      exact hF.1 _ _ _ rfl rfl dL_pass_14
    · obtain rfl := Option.some.inj hj
      refine hC (S, (K, (o, n))) (S1, (K1, (o, n + 1))) 4 _ [.int (nI 0), .ref (ad E 12 0)] 35 2 1 7 _ RX4 yX4_pass cX4_pass (some .int) [.int p0] xS [(0, 9, 12, 15)] (0, 9, 15, 17) [] rfl (List.forall_mem_cons.mpr ⟨⟨by decide, xA, m467, by decide +kernel⟩, fun _ h => absurd h List.not_mem_nil⟩) ⟨by decide, by decide⟩ (by decide) m468 (List.mem_of_getElem? (i := 5) rfl) kL_35 (rcv4 E) ct dL_pass_4 ⟨by decide, by decide⟩ rfl (Nat.le_of_ble_eq_true rfl) (Nat.le_refl _) (by show n + 1 ≤ n + (n + 1 - n); omega) (fun q => ?_)
      refine r_astore_n hJ dL_pass_15 rfl (jp3 rfl rfl) ?_
      refine r_iconst hJ (v := nI 2) dL_pass_16 (by decide) ?_
      exact hF.1 _ _ _ rfl rfl dL_pass_17
    · exact absurd hj (by simp)
theorem kLH_105 : wSH RL 105 yL_pass cL_pass 4 (some .int) [(0, 9, 12, 15), (0, 9, 15, 17)] 3 := ⟨m657, m658, m63, m659, by decide +kernel⟩
theorem w_set {l : Launch} {E : jE} {S S1 : jS} {K K1 : Nat → Nat} {o : Int64} {n k : Nat} {v p0 p1 : Int32} (ho : Out l E yX4_set cX4_set 4 7 [.ref (ad E 11 0), .int p0, .int p1] (S, (K, (o, n))) [xO, xA, xS] k v (S1, (K1, (o, n)))) :
    ∃ o' n', n ≤ n' ∧ n' ≤ n + 1 ∧ (k = 0 → o' = v.toInt64) ∧ CtH l E yL_set cL_set 5 (some .int) [(0, 10, 13, 13), (0, 10, 17, 15), (0, 10, 21, 17)] 9 [.ref (ad E 11 0), .int p0, .int p1, .ref (ad E 12 0)] (S, (K, (o, n))) (some (.int (nI k))) (S1, (K1, (o', n'))) := by
  rcases ho with ⟨rfl, ct⟩ | ⟨j, c, rfl, hj, ct⟩
  · refine ⟨v.toInt64, n, Nat.le_refl _, Nat.le_succ _, fun _ => rfl, CtH.of (by decide) (Nat.le_refl _) (Nat.le_of_ble_eq_true rfl) rfl ?_⟩
    intro J hJ hF hC
    refine r_aload_n hJ dL_set_0 rfl jg3 ?_
    refine r_iconst hJ (v := nI 0) dL_set_1 (by decide) ?_
    refine r_aload_n hJ dL_set_2 rfl jg0 ?_
    refine r_iload_n hJ dL_set_3 rfl jg1 ?_
    refine r_iload_n hJ dL_set_4 rfl jg2 ?_
    refine r_V2vx hJ (x' := (K1, (o, n))) rfl kL_39 (rcv4 E) ct dL_set_5 ⟨by decide, by decide⟩ (Nat.le_of_ble_eq_true rfl) ?_
    refine r_i2l hJ dL_set_8 rfl ?_
    refine r_last hJ dL_set_9 ?_
    refine r_goto hJ (tgt := 25) dL_set_10 (by decide) ?_
    refine r_iconst hJ (v := nI 0) dL_set_25 (by decide) ?_
    exact hF.1 _ _ _ rfl rfl dL_set_26
  · refine ⟨o, n + 1, Nat.le_succ _, Nat.le_refl _, fun h => absurd h (Nat.succ_ne_zero _), CtH.of (by decide) (Nat.le_succ _) (Nat.le_of_ble_eq_true rfl) rfl ?_⟩
    intro J hJ hF hC
    refine r_aload_n hJ dL_set_0 rfl jg3 ?_
    refine r_iconst hJ (v := nI 0) dL_set_1 (by decide) ?_
    refine r_aload_n hJ dL_set_2 rfl jg0 ?_
    refine r_iload_n hJ dL_set_3 rfl jg1 ?_
    refine r_iload_n hJ dL_set_4 rfl jg2 ?_
    rcases j with _ | _ | _ | j
    · obtain rfl := Option.some.inj hj
      refine hC (S, (K, (o, n))) (S1, (K1, (o, n + 1))) 5 _ [.int (nI 0), .ref (ad E 12 0)] 39 4 2 7 _ RX4 yX4_set cX4_set (some .int) [.int p0, .int p1] xO [] (0, 10, 13, 13) [(0, 10, 17, 15), (0, 10, 21, 17)] rfl (fun _ h => absurd h List.not_mem_nil) ⟨by decide, by decide⟩ (by decide) m466 (List.mem_of_getElem? (i := 3) rfl) kL_39 (rcv4 E) ct dL_set_5 ⟨by decide, by decide⟩ rfl (Nat.le_of_ble_eq_true rfl) (Nat.le_refl _) (by show n + 1 ≤ n + (n + 1 - n); omega) (fun q => ?_)
      refine r_astore hJ dL_set_13 (jp4 rfl rfl) ?_
      refine r_iconst hJ (v := nI 1) dL_set_15 (by decide) ?_
      exact hF.1 _ _ _ rfl rfl dL_set_16
    · obtain rfl := Option.some.inj hj
      refine hC (S, (K, (o, n))) (S1, (K1, (o, n + 1))) 5 _ [.int (nI 0), .ref (ad E 12 0)] 39 4 2 7 _ RX4 yX4_set cX4_set (some .int) [.int p0, .int p1] xA [(0, 10, 13, 13)] (0, 10, 17, 15) [(0, 10, 21, 17)] rfl (List.forall_mem_cons.mpr ⟨⟨by decide, xO, m466, by decide +kernel⟩, fun _ h => absurd h List.not_mem_nil⟩) ⟨by decide, by decide⟩ (by decide) m467 (List.mem_of_getElem? (i := 4) rfl) kL_39 (rcv4 E) ct dL_set_5 ⟨by decide, by decide⟩ rfl (Nat.le_of_ble_eq_true rfl) (Nat.le_refl _) (by show n + 1 ≤ n + (n + 1 - n); omega) (fun q => ?_)
      refine r_astore hJ dL_set_17 (jp4 rfl rfl) ?_
      refine r_iconst hJ (v := nI 2) dL_set_19 (by decide) ?_
      exact hF.1 _ _ _ rfl rfl dL_set_20
    · obtain rfl := Option.some.inj hj
      refine hC (S, (K, (o, n))) (S1, (K1, (o, n + 1))) 5 _ [.int (nI 0), .ref (ad E 12 0)] 39 4 2 7 _ RX4 yX4_set cX4_set (some .int) [.int p0, .int p1] xS [(0, 10, 13, 13), (0, 10, 17, 15)] (0, 10, 21, 17) [] rfl (List.forall_mem_cons.mpr ⟨⟨by decide, xO, m466, by decide +kernel⟩, List.forall_mem_cons.mpr ⟨⟨by decide, xA, m467, by decide +kernel⟩, fun _ h => absurd h List.not_mem_nil⟩⟩) ⟨by decide, by decide⟩ (by decide) m468 (List.mem_of_getElem? (i := 5) rfl) kL_39 (rcv4 E) ct dL_set_5 ⟨by decide, by decide⟩ rfl (Nat.le_of_ble_eq_true rfl) (Nat.le_refl _) (by show n + 1 ≤ n + (n + 1 - n); omega) (fun q => ?_)
      refine r_astore hJ dL_set_21 (jp4 rfl rfl) ?_
      refine r_iconst hJ (v := nI 3) dL_set_23 (by decide) ?_
      exact hF.1 _ _ _ rfl rfl dL_set_24
    · exact absurd hj (by simp)
theorem kLH_109 : wSH RL 109 yL_set cL_set 5 (some .int) [(0, 10, 13, 13), (0, 10, 17, 15), (0, 10, 21, 17)] 4 := ⟨m676, m677, m63, m678, by decide +kernel⟩
theorem w_append {l : Launch} {E : jE} {S S1 : jS} {K K1 : Nat → Nat} {o : Int64} {n k : Nat} {v p0 : Int32} (ho : Out l E yX4_append cX4_append 2 7 [.ref (ad E 11 0), .int p0] (S, (K, (o, n))) [xA, xS] k v (S1, (K1, (o, n)))) :
    ∃ o' n', n ≤ n' ∧ n' ≤ n + 1 ∧ (k = 0 → o' = v.toInt64) ∧ CtH l E yL_append cL_append 4 (some .int) [(0, 9, 12, 15), (0, 9, 15, 17)] 9 [.ref (ad E 11 0), .int p0, .ref (ad E 12 0)] (S, (K, (o, n))) (some (.int (nI k))) (S1, (K1, (o', n'))) := by
  rcases ho with ⟨rfl, ct⟩ | ⟨j, c, rfl, hj, ct⟩
  · refine ⟨v.toInt64, n, Nat.le_refl _, Nat.le_succ _, fun _ => rfl, CtH.of (by decide) (Nat.le_refl _) (Nat.le_of_ble_eq_true rfl) rfl ?_⟩
    intro J hJ hF hC
    refine r_aload_n hJ dL_append_0 rfl jg2 ?_
    refine r_iconst hJ (v := nI 0) dL_append_1 (by decide) ?_
    refine r_aload_n hJ dL_append_2 rfl jg0 ?_
    refine r_iload_n hJ dL_append_3 rfl jg1 ?_
    refine r_V1vx hJ (x' := (K1, (o, n))) rfl kL_42 (rcv4 E) ct dL_append_4 ⟨by decide, by decide⟩ (Nat.le_of_ble_eq_true rfl) ?_
    refine r_i2l hJ dL_append_7 rfl ?_
    refine r_last hJ dL_append_8 ?_
    refine r_goto hJ (tgt := 18) dL_append_9 (by decide) ?_
    refine r_iconst hJ (v := nI 0) dL_append_18 (by decide) ?_
    exact hF.1 _ _ _ rfl rfl dL_append_19
  · refine ⟨o, n + 1, Nat.le_succ _, Nat.le_refl _, fun h => absurd h (Nat.succ_ne_zero _), CtH.of (by decide) (Nat.le_succ _) (Nat.le_of_ble_eq_true rfl) rfl ?_⟩
    intro J hJ hF hC
    refine r_aload_n hJ dL_append_0 rfl jg2 ?_
    refine r_iconst hJ (v := nI 0) dL_append_1 (by decide) ?_
    refine r_aload_n hJ dL_append_2 rfl jg0 ?_
    refine r_iload_n hJ dL_append_3 rfl jg1 ?_
    rcases j with _ | _ | j
    · obtain rfl := Option.some.inj hj
      refine hC (S, (K, (o, n))) (S1, (K1, (o, n + 1))) 4 _ [.int (nI 0), .ref (ad E 12 0)] 42 2 1 7 _ RX4 yX4_append cX4_append (some .int) [.int p0] xA [] (0, 9, 12, 15) [(0, 9, 15, 17)] rfl (fun _ h => absurd h List.not_mem_nil) ⟨by decide, by decide⟩ (by decide) m467 (List.mem_of_getElem? (i := 4) rfl) kL_42 (rcv4 E) ct dL_append_4 ⟨by decide, by decide⟩ rfl (Nat.le_of_ble_eq_true rfl) (Nat.le_refl _) (by show n + 1 ≤ n + (n + 1 - n); omega) (fun q => ?_)
      refine r_astore_n hJ dL_append_12 rfl (jp3 rfl rfl) ?_
      refine r_iconst hJ (v := nI 1) dL_append_13 (by decide) ?_
      exact hF.1 _ _ _ rfl rfl dL_append_14
    · obtain rfl := Option.some.inj hj
      refine hC (S, (K, (o, n))) (S1, (K1, (o, n + 1))) 4 _ [.int (nI 0), .ref (ad E 12 0)] 42 2 1 7 _ RX4 yX4_append cX4_append (some .int) [.int p0] xS [(0, 9, 12, 15)] (0, 9, 15, 17) [] rfl (List.forall_mem_cons.mpr ⟨⟨by decide, xA, m467, by decide +kernel⟩, fun _ h => absurd h List.not_mem_nil⟩) ⟨by decide, by decide⟩ (by decide) m468 (List.mem_of_getElem? (i := 5) rfl) kL_42 (rcv4 E) ct dL_append_4 ⟨by decide, by decide⟩ rfl (Nat.le_of_ble_eq_true rfl) (Nat.le_refl _) (by show n + 1 ≤ n + (n + 1 - n); omega) (fun q => ?_)
      refine r_astore_n hJ dL_append_15 rfl (jp3 rfl rfl) ?_
      refine r_iconst hJ (v := nI 2) dL_append_16 (by decide) ?_
      exact hF.1 _ _ _ rfl rfl dL_append_17
    · exact absurd hj (by simp)
theorem kLH_112 : wSH RL 112 yL_append cL_append 4 (some .int) [(0, 9, 12, 15), (0, 9, 15, 17)] 3 := ⟨m694, m695, m63, m696, by decide +kernel⟩
theorem w_run {l : Launch} {E : jE} {S S1 : jS} {K K1 : Nat → Nat} {o : Int64} {n k : Nat} {v : Int32} (ho : Out l E yX4_run cX4_run 4 7 [.ref (ad E 11 0)] (S, (K, (o, n))) [xA] k v (S1, (K1, (o, n)))) :
    ∃ o' n', n ≤ n' ∧ n' ≤ n + 1 ∧ (k = 0 → o' = v.toInt64) ∧ CtH l E yL_run cL_run 3 (some .int) [(0, 8, 11, 15)] 9 [.ref (ad E 11 0), .ref (ad E 12 0)] (S, (K, (o, n))) (some (.int (nI k))) (S1, (K1, (o', n'))) := by
  rcases ho with ⟨rfl, ct⟩ | ⟨j, c, rfl, hj, ct⟩
  · refine ⟨v.toInt64, n, Nat.le_refl _, Nat.le_succ _, fun _ => rfl, CtH.of (by decide) (Nat.le_refl _) (Nat.le_of_ble_eq_true rfl) rfl ?_⟩
    intro J hJ hF hC
    refine r_aload_n hJ dL_run_0 rfl jg1 ?_
    refine r_iconst hJ (v := nI 0) dL_run_1 (by decide) ?_
    refine r_aload_n hJ dL_run_2 rfl jg0 ?_
    refine r_V0vx hJ (x' := (K1, (o, n))) rfl kL_45 (rcv4 E) ct dL_run_3 ⟨by decide, by decide⟩ (Nat.le_of_ble_eq_true rfl) ?_
    refine r_i2l hJ dL_run_6 rfl ?_
    refine r_last hJ dL_run_7 ?_
    refine r_goto hJ (tgt := 14) dL_run_8 (by decide) ?_
    refine r_iconst hJ (v := nI 0) dL_run_14 (by decide) ?_
    exact hF.1 _ _ _ rfl rfl dL_run_15
  · refine ⟨o, n + 1, Nat.le_succ _, Nat.le_refl _, fun h => absurd h (Nat.succ_ne_zero _), CtH.of (by decide) (Nat.le_succ _) (Nat.le_of_ble_eq_true rfl) rfl ?_⟩
    intro J hJ hF hC
    refine r_aload_n hJ dL_run_0 rfl jg1 ?_
    refine r_iconst hJ (v := nI 0) dL_run_1 (by decide) ?_
    refine r_aload_n hJ dL_run_2 rfl jg0 ?_
    rcases j with _ | j
    · obtain rfl := Option.some.inj hj
      refine hC (S, (K, (o, n))) (S1, (K1, (o, n + 1))) 3 _ [.int (nI 0), .ref (ad E 12 0)] 45 4 0 7 _ RX4 yX4_run cX4_run (some .int) [] xA [] (0, 8, 11, 15) [] rfl (fun _ h => absurd h List.not_mem_nil) ⟨by decide, by decide⟩ (by decide) m467 (List.mem_of_getElem? (i := 4) rfl) kL_45 (rcv4 E) ct dL_run_3 ⟨by decide, by decide⟩ rfl (Nat.le_of_ble_eq_true rfl) (Nat.le_refl _) (by show n + 1 ≤ n + (n + 1 - n); omega) (fun q => ?_)
      refine r_astore_n hJ dL_run_11 rfl (jp2 rfl rfl) ?_
      refine r_iconst hJ (v := nI 1) dL_run_12 (by decide) ?_
      exact hF.1 _ _ _ rfl rfl dL_run_13
    · exact absurd hj (by simp)
theorem kLH_123 : wSH RL 123 yL_run cL_run 3 (some .int) [(0, 8, 11, 15)] 2 := ⟨m705, m706, m63, m707, by decide +kernel⟩
theorem w_undo {l : Launch} {E : jE} {S S1 : jS} {K K1 : Nat → Nat} {o : Int64} {n k : Nat} {v : Int32} (ho : Out l E yX4_undo cX4_undo 1 7 [.ref (ad E 11 0)] (S, (K, (o, n))) [xS] k v (S1, (K1, (o, n)))) :
    ∃ o' n', n ≤ n' ∧ n' ≤ n + 1 ∧ (k = 0 → o' = v.toInt64) ∧ CtH l E yL_undo cL_undo 3 (some .int) [(0, 8, 11, 17)] 9 [.ref (ad E 11 0), .ref (ad E 12 0)] (S, (K, (o, n))) (some (.int (nI k))) (S1, (K1, (o', n'))) := by
  rcases ho with ⟨rfl, ct⟩ | ⟨j, c, rfl, hj, ct⟩
  · refine ⟨v.toInt64, n, Nat.le_refl _, Nat.le_succ _, fun _ => rfl, CtH.of (by decide) (Nat.le_refl _) (Nat.le_of_ble_eq_true rfl) rfl ?_⟩
    intro J hJ hF hC
    refine r_aload_n hJ dL_undo_0 rfl jg1 ?_
    refine r_iconst hJ (v := nI 0) dL_undo_1 (by decide) ?_
    refine r_aload_n hJ dL_undo_2 rfl jg0 ?_
    refine r_V0vx hJ (x' := (K1, (o, n))) rfl kL_49 (rcv4 E) ct dL_undo_3 ⟨by decide, by decide⟩ (Nat.le_of_ble_eq_true rfl) ?_
    refine r_i2l hJ dL_undo_6 rfl ?_
    refine r_last hJ dL_undo_7 ?_
    refine r_goto hJ (tgt := 14) dL_undo_8 (by decide) ?_
    refine r_iconst hJ (v := nI 0) dL_undo_14 (by decide) ?_
    exact hF.1 _ _ _ rfl rfl dL_undo_15
  · refine ⟨o, n + 1, Nat.le_succ _, Nat.le_refl _, fun h => absurd h (Nat.succ_ne_zero _), CtH.of (by decide) (Nat.le_succ _) (Nat.le_of_ble_eq_true rfl) rfl ?_⟩
    intro J hJ hF hC
    refine r_aload_n hJ dL_undo_0 rfl jg1 ?_
    refine r_iconst hJ (v := nI 0) dL_undo_1 (by decide) ?_
    refine r_aload_n hJ dL_undo_2 rfl jg0 ?_
    rcases j with _ | j
    · obtain rfl := Option.some.inj hj
      refine hC (S, (K, (o, n))) (S1, (K1, (o, n + 1))) 3 _ [.int (nI 0), .ref (ad E 12 0)] 49 1 0 7 _ RX4 yX4_undo cX4_undo (some .int) [] xS [] (0, 8, 11, 17) [] rfl (fun _ h => absurd h List.not_mem_nil) ⟨by decide, by decide⟩ (by decide) m468 (List.mem_of_getElem? (i := 5) rfl) kL_49 (rcv4 E) ct dL_undo_3 ⟨by decide, by decide⟩ rfl (Nat.le_of_ble_eq_true rfl) (Nat.le_refl _) (by show n + 1 ≤ n + (n + 1 - n); omega) (fun q => ?_)
      refine r_astore_n hJ dL_undo_11 rfl (jp2 rfl rfl) ?_
      refine r_iconst hJ (v := nI 1) dL_undo_12 (by decide) ?_
      exact hF.1 _ _ _ rfl rfl dL_undo_13
    · exact absurd hj (by simp)
theorem kLH_127 : wSH RL 127 yL_undo cL_undo 3 (some .int) [(0, 8, 11, 17)] 2 := ⟨m718, m719, m63, m720, by decide +kernel⟩
theorem w_number {l : Launch} {E : jE} {S S1 : jS} {K K1 : Nat → Nat} {o : Int64} {n k : Nat} {v p0 p1 : Int32} (ho : Out l E yX4_number cX4_number 3 7 [.ref (ad E 11 0), .int p0, .int p1] (S, (K, (o, n))) [xO, xA] k v (S1, (K1, (o, n)))) :
    ∃ o' n', n ≤ n' ∧ n' ≤ n + 1 ∧ (k = 0 → o' = v.toInt64) ∧ CtH l E yL_number cL_number 5 (some .int) [(0, 10, 13, 13), (0, 10, 17, 15)] 9 [.ref (ad E 11 0), .int p0, .int p1, .ref (ad E 12 0)] (S, (K, (o, n))) (some (.int (nI k))) (S1, (K1, (o', n'))) := by
  rcases ho with ⟨rfl, ct⟩ | ⟨j, c, rfl, hj, ct⟩
  · refine ⟨v.toInt64, n, Nat.le_refl _, Nat.le_succ _, fun _ => rfl, CtH.of (by decide) (Nat.le_refl _) (Nat.le_of_ble_eq_true rfl) rfl ?_⟩
    intro J hJ hF hC
    refine r_aload_n hJ dL_number_0 rfl jg3 ?_
    refine r_iconst hJ (v := nI 0) dL_number_1 (by decide) ?_
    refine r_aload_n hJ dL_number_2 rfl jg0 ?_
    refine r_iload_n hJ dL_number_3 rfl jg1 ?_
    refine r_iload_n hJ dL_number_4 rfl jg2 ?_
    refine r_V2vx hJ (x' := (K1, (o, n))) rfl kL_52 (rcv4 E) ct dL_number_5 ⟨by decide, by decide⟩ (Nat.le_of_ble_eq_true rfl) ?_
    refine r_i2l hJ dL_number_8 rfl ?_
    refine r_last hJ dL_number_9 ?_
    refine r_goto hJ (tgt := 21) dL_number_10 (by decide) ?_
    refine r_iconst hJ (v := nI 0) dL_number_21 (by decide) ?_
    exact hF.1 _ _ _ rfl rfl dL_number_22
  · refine ⟨o, n + 1, Nat.le_succ _, Nat.le_refl _, fun h => absurd h (Nat.succ_ne_zero _), CtH.of (by decide) (Nat.le_succ _) (Nat.le_of_ble_eq_true rfl) rfl ?_⟩
    intro J hJ hF hC
    refine r_aload_n hJ dL_number_0 rfl jg3 ?_
    refine r_iconst hJ (v := nI 0) dL_number_1 (by decide) ?_
    refine r_aload_n hJ dL_number_2 rfl jg0 ?_
    refine r_iload_n hJ dL_number_3 rfl jg1 ?_
    refine r_iload_n hJ dL_number_4 rfl jg2 ?_
    rcases j with _ | _ | j
    · obtain rfl := Option.some.inj hj
      refine hC (S, (K, (o, n))) (S1, (K1, (o, n + 1))) 5 _ [.int (nI 0), .ref (ad E 12 0)] 52 3 2 7 _ RX4 yX4_number cX4_number (some .int) [.int p0, .int p1] xO [] (0, 10, 13, 13) [(0, 10, 17, 15)] rfl (fun _ h => absurd h List.not_mem_nil) ⟨by decide, by decide⟩ (by decide) m466 (List.mem_of_getElem? (i := 3) rfl) kL_52 (rcv4 E) ct dL_number_5 ⟨by decide, by decide⟩ rfl (Nat.le_of_ble_eq_true rfl) (Nat.le_refl _) (by show n + 1 ≤ n + (n + 1 - n); omega) (fun q => ?_)
      refine r_astore hJ dL_number_13 (jp4 rfl rfl) ?_
      refine r_iconst hJ (v := nI 1) dL_number_15 (by decide) ?_
      exact hF.1 _ _ _ rfl rfl dL_number_16
    · obtain rfl := Option.some.inj hj
      refine hC (S, (K, (o, n))) (S1, (K1, (o, n + 1))) 5 _ [.int (nI 0), .ref (ad E 12 0)] 52 3 2 7 _ RX4 yX4_number cX4_number (some .int) [.int p0, .int p1] xA [(0, 10, 13, 13)] (0, 10, 17, 15) [] rfl (List.forall_mem_cons.mpr ⟨⟨by decide, xO, m466, by decide +kernel⟩, fun _ h => absurd h List.not_mem_nil⟩) ⟨by decide, by decide⟩ (by decide) m467 (List.mem_of_getElem? (i := 4) rfl) kL_52 (rcv4 E) ct dL_number_5 ⟨by decide, by decide⟩ rfl (Nat.le_of_ble_eq_true rfl) (Nat.le_refl _) (by show n + 1 ≤ n + (n + 1 - n); omega) (fun q => ?_)
      refine r_astore hJ dL_number_17 (jp4 rfl rfl) ?_
      refine r_iconst hJ (v := nI 2) dL_number_19 (by decide) ?_
      exact hF.1 _ _ _ rfl rfl dL_number_20
    · exact absurd hj (by simp)
theorem kLH_130 : wSH RL 130 yL_number cL_number 5 (some .int) [(0, 10, 13, 13), (0, 10, 17, 15)] 4 := ⟨m729, m730, m63, m731, by decide +kernel⟩
theorem w_holder {l : Launch} {E : jE} {S S1 : jS} {K K1 : Nat → Nat} {o : Int64} {n k : Nat} {v p0 p1 : Int32} (ho : Out l E yX4_holder cX4_holder 3 7 [.ref (ad E 11 0), .int p0, .int p1] (S, (K, (o, n))) [xO, xA] k v (S1, (K1, (o, n)))) :
    ∃ o' n', n ≤ n' ∧ n' ≤ n + 1 ∧ (k = 0 → o' = v.toInt64) ∧ CtH l E yL_holder cL_holder 5 (some .int) [(0, 10, 13, 13), (0, 10, 17, 15)] 9 [.ref (ad E 11 0), .int p0, .int p1, .ref (ad E 12 0)] (S, (K, (o, n))) (some (.int (nI k))) (S1, (K1, (o', n'))) := by
  rcases ho with ⟨rfl, ct⟩ | ⟨j, c, rfl, hj, ct⟩
  · refine ⟨v.toInt64, n, Nat.le_refl _, Nat.le_succ _, fun _ => rfl, CtH.of (by decide) (Nat.le_refl _) (Nat.le_of_ble_eq_true rfl) rfl ?_⟩
    intro J hJ hF hC
    refine r_aload_n hJ dL_holder_0 rfl jg3 ?_
    refine r_iconst hJ (v := nI 0) dL_holder_1 (by decide) ?_
    refine r_aload_n hJ dL_holder_2 rfl jg0 ?_
    refine r_iload_n hJ dL_holder_3 rfl jg1 ?_
    refine r_iload_n hJ dL_holder_4 rfl jg2 ?_
    refine r_V2vx hJ (x' := (K1, (o, n))) rfl kL_55 (rcv4 E) ct dL_holder_5 ⟨by decide, by decide⟩ (Nat.le_of_ble_eq_true rfl) ?_
    refine r_i2l hJ dL_holder_8 rfl ?_
    refine r_last hJ dL_holder_9 ?_
    refine r_goto hJ (tgt := 21) dL_holder_10 (by decide) ?_
    refine r_iconst hJ (v := nI 0) dL_holder_21 (by decide) ?_
    exact hF.1 _ _ _ rfl rfl dL_holder_22
  · refine ⟨o, n + 1, Nat.le_succ _, Nat.le_refl _, fun h => absurd h (Nat.succ_ne_zero _), CtH.of (by decide) (Nat.le_succ _) (Nat.le_of_ble_eq_true rfl) rfl ?_⟩
    intro J hJ hF hC
    refine r_aload_n hJ dL_holder_0 rfl jg3 ?_
    refine r_iconst hJ (v := nI 0) dL_holder_1 (by decide) ?_
    refine r_aload_n hJ dL_holder_2 rfl jg0 ?_
    refine r_iload_n hJ dL_holder_3 rfl jg1 ?_
    refine r_iload_n hJ dL_holder_4 rfl jg2 ?_
    rcases j with _ | _ | j
    · obtain rfl := Option.some.inj hj
      refine hC (S, (K, (o, n))) (S1, (K1, (o, n + 1))) 5 _ [.int (nI 0), .ref (ad E 12 0)] 55 3 2 7 _ RX4 yX4_holder cX4_holder (some .int) [.int p0, .int p1] xO [] (0, 10, 13, 13) [(0, 10, 17, 15)] rfl (fun _ h => absurd h List.not_mem_nil) ⟨by decide, by decide⟩ (by decide) m466 (List.mem_of_getElem? (i := 3) rfl) kL_55 (rcv4 E) ct dL_holder_5 ⟨by decide, by decide⟩ rfl (Nat.le_of_ble_eq_true rfl) (Nat.le_refl _) (by show n + 1 ≤ n + (n + 1 - n); omega) (fun q => ?_)
      refine r_astore hJ dL_holder_13 (jp4 rfl rfl) ?_
      refine r_iconst hJ (v := nI 1) dL_holder_15 (by decide) ?_
      exact hF.1 _ _ _ rfl rfl dL_holder_16
    · obtain rfl := Option.some.inj hj
      refine hC (S, (K, (o, n))) (S1, (K1, (o, n + 1))) 5 _ [.int (nI 0), .ref (ad E 12 0)] 55 3 2 7 _ RX4 yX4_holder cX4_holder (some .int) [.int p0, .int p1] xA [(0, 10, 13, 13)] (0, 10, 17, 15) [] rfl (List.forall_mem_cons.mpr ⟨⟨by decide, xO, m466, by decide +kernel⟩, fun _ h => absurd h List.not_mem_nil⟩) ⟨by decide, by decide⟩ (by decide) m467 (List.mem_of_getElem? (i := 4) rfl) kL_55 (rcv4 E) ct dL_holder_5 ⟨by decide, by decide⟩ rfl (Nat.le_of_ble_eq_true rfl) (Nat.le_refl _) (by show n + 1 ≤ n + (n + 1 - n); omega) (fun q => ?_)
      refine r_astore hJ dL_holder_17 (jp4 rfl rfl) ?_
      refine r_iconst hJ (v := nI 2) dL_holder_19 (by decide) ?_
      exact hF.1 _ _ _ rfl rfl dL_holder_20
    · exact absurd hj (by simp)
theorem kLH_133 : wSH RL 133 yL_holder cL_holder 5 (some .int) [(0, 10, 13, 13), (0, 10, 17, 15)] 4 := ⟨m736, m737, m63, m738, by decide +kernel⟩
theorem w_span {l : Launch} {E : jE} {S S1 : jS} {K K1 : Nat → Nat} {o : Int64} {n k : Nat} {v p0 p1 : Int32} (ho : Out l E yX4_span cX4_span 3 7 [.ref (ad E 11 0), .int p0, .int p1] (S, (K, (o, n))) [xA] k v (S1, (K1, (o, n)))) :
    ∃ o' n', n ≤ n' ∧ n' ≤ n + 1 ∧ (k = 0 → o' = v.toInt64) ∧ CtH l E yL_span cL_span 5 (some .int) [(0, 10, 13, 15)] 9 [.ref (ad E 11 0), .int p0, .int p1, .ref (ad E 12 0)] (S, (K, (o, n))) (some (.int (nI k))) (S1, (K1, (o', n'))) := by
  rcases ho with ⟨rfl, ct⟩ | ⟨j, c, rfl, hj, ct⟩
  · refine ⟨v.toInt64, n, Nat.le_refl _, Nat.le_succ _, fun _ => rfl, CtH.of (by decide) (Nat.le_refl _) (Nat.le_of_ble_eq_true rfl) rfl ?_⟩
    intro J hJ hF hC
    refine r_aload_n hJ dL_span_0 rfl jg3 ?_
    refine r_iconst hJ (v := nI 0) dL_span_1 (by decide) ?_
    refine r_aload_n hJ dL_span_2 rfl jg0 ?_
    refine r_iload_n hJ dL_span_3 rfl jg1 ?_
    refine r_iload_n hJ dL_span_4 rfl jg2 ?_
    refine r_V2vx hJ (x' := (K1, (o, n))) rfl kL_58 (rcv4 E) ct dL_span_5 ⟨by decide, by decide⟩ (Nat.le_of_ble_eq_true rfl) ?_
    refine r_i2l hJ dL_span_8 rfl ?_
    refine r_last hJ dL_span_9 ?_
    refine r_goto hJ (tgt := 17) dL_span_10 (by decide) ?_
    refine r_iconst hJ (v := nI 0) dL_span_17 (by decide) ?_
    exact hF.1 _ _ _ rfl rfl dL_span_18
  · refine ⟨o, n + 1, Nat.le_succ _, Nat.le_refl _, fun h => absurd h (Nat.succ_ne_zero _), CtH.of (by decide) (Nat.le_succ _) (Nat.le_of_ble_eq_true rfl) rfl ?_⟩
    intro J hJ hF hC
    refine r_aload_n hJ dL_span_0 rfl jg3 ?_
    refine r_iconst hJ (v := nI 0) dL_span_1 (by decide) ?_
    refine r_aload_n hJ dL_span_2 rfl jg0 ?_
    refine r_iload_n hJ dL_span_3 rfl jg1 ?_
    refine r_iload_n hJ dL_span_4 rfl jg2 ?_
    rcases j with _ | j
    · obtain rfl := Option.some.inj hj
      refine hC (S, (K, (o, n))) (S1, (K1, (o, n + 1))) 5 _ [.int (nI 0), .ref (ad E 12 0)] 58 3 2 7 _ RX4 yX4_span cX4_span (some .int) [.int p0, .int p1] xA [] (0, 10, 13, 15) [] rfl (fun _ h => absurd h List.not_mem_nil) ⟨by decide, by decide⟩ (by decide) m467 (List.mem_of_getElem? (i := 4) rfl) kL_58 (rcv4 E) ct dL_span_5 ⟨by decide, by decide⟩ rfl (Nat.le_of_ble_eq_true rfl) (Nat.le_refl _) (by show n + 1 ≤ n + (n + 1 - n); omega) (fun q => ?_)
      refine r_astore hJ dL_span_13 (jp4 rfl rfl) ?_
      refine r_iconst hJ (v := nI 1) dL_span_15 (by decide) ?_
      exact hF.1 _ _ _ rfl rfl dL_span_16
    · exact absurd hj (by simp)
theorem kLH_136 : wSH RL 136 yL_span cL_span 5 (some .int) [(0, 10, 13, 15)] 4 := ⟨m743, m744, m63, m745, by decide +kernel⟩
theorem w_count {l : Launch} {E : jE} {S S1 : jS} {K K1 : Nat → Nat} {o : Int64} {n k : Nat} {v p0 : Int32} (ho : Out l E yX4_count cX4_count 2 7 [.ref (ad E 11 0), .int p0] (S, (K, (o, n))) [xA] k v (S1, (K1, (o, n)))) :
    ∃ o' n', n ≤ n' ∧ n' ≤ n + 1 ∧ (k = 0 → o' = v.toInt64) ∧ CtH l E yL_count cL_count 4 (some .int) [(0, 9, 12, 15)] 9 [.ref (ad E 11 0), .int p0, .ref (ad E 12 0)] (S, (K, (o, n))) (some (.int (nI k))) (S1, (K1, (o', n'))) := by
  rcases ho with ⟨rfl, ct⟩ | ⟨j, c, rfl, hj, ct⟩
  · refine ⟨v.toInt64, n, Nat.le_refl _, Nat.le_succ _, fun _ => rfl, CtH.of (by decide) (Nat.le_refl _) (Nat.le_of_ble_eq_true rfl) rfl ?_⟩
    intro J hJ hF hC
    refine r_aload_n hJ dL_count_0 rfl jg2 ?_
    refine r_iconst hJ (v := nI 0) dL_count_1 (by decide) ?_
    refine r_aload_n hJ dL_count_2 rfl jg0 ?_
    refine r_iload_n hJ dL_count_3 rfl jg1 ?_
    refine r_V1vx hJ (x' := (K1, (o, n))) rfl kL_61 (rcv4 E) ct dL_count_4 ⟨by decide, by decide⟩ (Nat.le_of_ble_eq_true rfl) ?_
    refine r_i2l hJ dL_count_7 rfl ?_
    refine r_last hJ dL_count_8 ?_
    refine r_goto hJ (tgt := 15) dL_count_9 (by decide) ?_
    refine r_iconst hJ (v := nI 0) dL_count_15 (by decide) ?_
    exact hF.1 _ _ _ rfl rfl dL_count_16
  · refine ⟨o, n + 1, Nat.le_succ _, Nat.le_refl _, fun h => absurd h (Nat.succ_ne_zero _), CtH.of (by decide) (Nat.le_succ _) (Nat.le_of_ble_eq_true rfl) rfl ?_⟩
    intro J hJ hF hC
    refine r_aload_n hJ dL_count_0 rfl jg2 ?_
    refine r_iconst hJ (v := nI 0) dL_count_1 (by decide) ?_
    refine r_aload_n hJ dL_count_2 rfl jg0 ?_
    refine r_iload_n hJ dL_count_3 rfl jg1 ?_
    rcases j with _ | j
    · obtain rfl := Option.some.inj hj
      refine hC (S, (K, (o, n))) (S1, (K1, (o, n + 1))) 4 _ [.int (nI 0), .ref (ad E 12 0)] 61 2 1 7 _ RX4 yX4_count cX4_count (some .int) [.int p0] xA [] (0, 9, 12, 15) [] rfl (fun _ h => absurd h List.not_mem_nil) ⟨by decide, by decide⟩ (by decide) m467 (List.mem_of_getElem? (i := 4) rfl) kL_61 (rcv4 E) ct dL_count_4 ⟨by decide, by decide⟩ rfl (Nat.le_of_ble_eq_true rfl) (Nat.le_refl _) (by show n + 1 ≤ n + (n + 1 - n); omega) (fun q => ?_)
      refine r_astore_n hJ dL_count_12 rfl (jp3 rfl rfl) ?_
      refine r_iconst hJ (v := nI 1) dL_count_13 (by decide) ?_
      exact hF.1 _ _ _ rfl rfl dL_count_14
    · exact absurd hj (by simp)
theorem kLH_139 : wSH RL 139 yL_count cL_count 4 (some .int) [(0, 9, 12, 15)] 3 := ⟨m750, m751, m63, m752, by decide +kernel⟩
theorem w_setting {l : Launch} {E : jE} {S S1 : jS} {K K1 : Nat → Nat} {o : Int64} {n k : Nat} {v p0 : Int32} (ho : Out l E yX4_setting cX4_setting 2 7 [.ref (ad E 11 0), .int p0] (S, (K, (o, n))) [xO] k v (S1, (K1, (o, n)))) :
    ∃ o' n', n ≤ n' ∧ n' ≤ n + 1 ∧ (k = 0 → o' = v.toInt64) ∧ CtH l E yL_setting cL_setting 4 (some .int) [(0, 9, 12, 13)] 9 [.ref (ad E 11 0), .int p0, .ref (ad E 12 0)] (S, (K, (o, n))) (some (.int (nI k))) (S1, (K1, (o', n'))) := by
  rcases ho with ⟨rfl, ct⟩ | ⟨j, c, rfl, hj, ct⟩
  · refine ⟨v.toInt64, n, Nat.le_refl _, Nat.le_succ _, fun _ => rfl, CtH.of (by decide) (Nat.le_refl _) (Nat.le_of_ble_eq_true rfl) rfl ?_⟩
    intro J hJ hF hC
    refine r_aload_n hJ dL_setting_0 rfl jg2 ?_
    refine r_iconst hJ (v := nI 0) dL_setting_1 (by decide) ?_
    refine r_aload_n hJ dL_setting_2 rfl jg0 ?_
    refine r_iload_n hJ dL_setting_3 rfl jg1 ?_
    refine r_V1vx hJ (x' := (K1, (o, n))) rfl kL_64 (rcv4 E) ct dL_setting_4 ⟨by decide, by decide⟩ (Nat.le_of_ble_eq_true rfl) ?_
    refine r_i2l hJ dL_setting_7 rfl ?_
    refine r_last hJ dL_setting_8 ?_
    refine r_goto hJ (tgt := 15) dL_setting_9 (by decide) ?_
    refine r_iconst hJ (v := nI 0) dL_setting_15 (by decide) ?_
    exact hF.1 _ _ _ rfl rfl dL_setting_16
  · refine ⟨o, n + 1, Nat.le_succ _, Nat.le_refl _, fun h => absurd h (Nat.succ_ne_zero _), CtH.of (by decide) (Nat.le_succ _) (Nat.le_of_ble_eq_true rfl) rfl ?_⟩
    intro J hJ hF hC
    refine r_aload_n hJ dL_setting_0 rfl jg2 ?_
    refine r_iconst hJ (v := nI 0) dL_setting_1 (by decide) ?_
    refine r_aload_n hJ dL_setting_2 rfl jg0 ?_
    refine r_iload_n hJ dL_setting_3 rfl jg1 ?_
    rcases j with _ | j
    · obtain rfl := Option.some.inj hj
      refine hC (S, (K, (o, n))) (S1, (K1, (o, n + 1))) 4 _ [.int (nI 0), .ref (ad E 12 0)] 64 2 1 7 _ RX4 yX4_setting cX4_setting (some .int) [.int p0] xO [] (0, 9, 12, 13) [] rfl (fun _ h => absurd h List.not_mem_nil) ⟨by decide, by decide⟩ (by decide) m466 (List.mem_of_getElem? (i := 3) rfl) kL_64 (rcv4 E) ct dL_setting_4 ⟨by decide, by decide⟩ rfl (Nat.le_of_ble_eq_true rfl) (Nat.le_refl _) (by show n + 1 ≤ n + (n + 1 - n); omega) (fun q => ?_)
      refine r_astore_n hJ dL_setting_12 rfl (jp3 rfl rfl) ?_
      refine r_iconst hJ (v := nI 1) dL_setting_13 (by decide) ?_
      exact hF.1 _ _ _ rfl rfl dL_setting_14
    · exact absurd hj (by simp)
theorem kLH_142 : wSH RL 142 yL_setting cL_setting 4 (some .int) [(0, 9, 12, 13)] 3 := ⟨m757, m758, m63, m759, by decide +kernel⟩
theorem w_whoAfter {l : Launch} {E : jE} {S S1 : jS} {K K1 : Nat → Nat} {o : Int64} {n k : Nat} {v p0 p1 : Int32} (ho : Out l E yX4_whoAfter cX4_whoAfter 3 7 [.ref (ad E 11 0), .int p0, .int p1] (S, (K, (o, n))) [xO, xA] k v (S1, (K1, (o, n)))) :
    ∃ o' n', n ≤ n' ∧ n' ≤ n + 1 ∧ (k = 0 → o' = v.toInt64) ∧ CtH l E yL_whoAfter cL_whoAfter 5 (some .int) [(0, 10, 13, 13), (0, 10, 17, 15)] 9 [.ref (ad E 11 0), .int p0, .int p1, .ref (ad E 12 0)] (S, (K, (o, n))) (some (.int (nI k))) (S1, (K1, (o', n'))) := by
  rcases ho with ⟨rfl, ct⟩ | ⟨j, c, rfl, hj, ct⟩
  · refine ⟨v.toInt64, n, Nat.le_refl _, Nat.le_succ _, fun _ => rfl, CtH.of (by decide) (Nat.le_refl _) (Nat.le_of_ble_eq_true rfl) rfl ?_⟩
    intro J hJ hF hC
    refine r_aload_n hJ dL_whoAfter_0 rfl jg3 ?_
    refine r_iconst hJ (v := nI 0) dL_whoAfter_1 (by decide) ?_
    refine r_aload_n hJ dL_whoAfter_2 rfl jg0 ?_
    refine r_iload_n hJ dL_whoAfter_3 rfl jg1 ?_
    refine r_iload_n hJ dL_whoAfter_4 rfl jg2 ?_
    refine r_V2vx hJ (x' := (K1, (o, n))) rfl kL_67 (rcv4 E) ct dL_whoAfter_5 ⟨by decide, by decide⟩ (Nat.le_of_ble_eq_true rfl) ?_
    refine r_i2l hJ dL_whoAfter_8 rfl ?_
    refine r_last hJ dL_whoAfter_9 ?_
    refine r_goto hJ (tgt := 21) dL_whoAfter_10 (by decide) ?_
    refine r_iconst hJ (v := nI 0) dL_whoAfter_21 (by decide) ?_
    exact hF.1 _ _ _ rfl rfl dL_whoAfter_22
  · refine ⟨o, n + 1, Nat.le_succ _, Nat.le_refl _, fun h => absurd h (Nat.succ_ne_zero _), CtH.of (by decide) (Nat.le_succ _) (Nat.le_of_ble_eq_true rfl) rfl ?_⟩
    intro J hJ hF hC
    refine r_aload_n hJ dL_whoAfter_0 rfl jg3 ?_
    refine r_iconst hJ (v := nI 0) dL_whoAfter_1 (by decide) ?_
    refine r_aload_n hJ dL_whoAfter_2 rfl jg0 ?_
    refine r_iload_n hJ dL_whoAfter_3 rfl jg1 ?_
    refine r_iload_n hJ dL_whoAfter_4 rfl jg2 ?_
    rcases j with _ | _ | j
    · obtain rfl := Option.some.inj hj
      refine hC (S, (K, (o, n))) (S1, (K1, (o, n + 1))) 5 _ [.int (nI 0), .ref (ad E 12 0)] 67 3 2 7 _ RX4 yX4_whoAfter cX4_whoAfter (some .int) [.int p0, .int p1] xO [] (0, 10, 13, 13) [(0, 10, 17, 15)] rfl (fun _ h => absurd h List.not_mem_nil) ⟨by decide, by decide⟩ (by decide) m466 (List.mem_of_getElem? (i := 3) rfl) kL_67 (rcv4 E) ct dL_whoAfter_5 ⟨by decide, by decide⟩ rfl (Nat.le_of_ble_eq_true rfl) (Nat.le_refl _) (by show n + 1 ≤ n + (n + 1 - n); omega) (fun q => ?_)
      refine r_astore hJ dL_whoAfter_13 (jp4 rfl rfl) ?_
      refine r_iconst hJ (v := nI 1) dL_whoAfter_15 (by decide) ?_
      exact hF.1 _ _ _ rfl rfl dL_whoAfter_16
    · obtain rfl := Option.some.inj hj
      refine hC (S, (K, (o, n))) (S1, (K1, (o, n + 1))) 5 _ [.int (nI 0), .ref (ad E 12 0)] 67 3 2 7 _ RX4 yX4_whoAfter cX4_whoAfter (some .int) [.int p0, .int p1] xA [(0, 10, 13, 13)] (0, 10, 17, 15) [] rfl (List.forall_mem_cons.mpr ⟨⟨by decide, xO, m466, by decide +kernel⟩, fun _ h => absurd h List.not_mem_nil⟩) ⟨by decide, by decide⟩ (by decide) m467 (List.mem_of_getElem? (i := 4) rfl) kL_67 (rcv4 E) ct dL_whoAfter_5 ⟨by decide, by decide⟩ rfl (Nat.le_of_ble_eq_true rfl) (Nat.le_refl _) (by show n + 1 ≤ n + (n + 1 - n); omega) (fun q => ?_)
      refine r_astore hJ dL_whoAfter_17 (jp4 rfl rfl) ?_
      refine r_iconst hJ (v := nI 2) dL_whoAfter_19 (by decide) ?_
      exact hF.1 _ _ _ rfl rfl dL_whoAfter_20
    · exact absurd hj (by simp)
theorem kLH_145 : wSH RL 145 yL_whoAfter cL_whoAfter 5 (some .int) [(0, 10, 13, 13), (0, 10, 17, 15)] 4 := ⟨m764, m765, m63, m766, by decide +kernel⟩
theorem w_freeIn {l : Launch} {E : jE} {S S1 : jS} {K K1 : Nat → Nat} {o : Int64} {n k : Nat} {v p0 : Int32} (ho : Out l E yX4_freeIn cX4_freeIn 2 7 [.ref (ad E 11 0), .int p0] (S, (K, (o, n))) [xA] k v (S1, (K1, (o, n)))) :
    ∃ o' n', n ≤ n' ∧ n' ≤ n + 1 ∧ (k = 0 → o' = v.toInt64) ∧ CtH l E yL_freeIn cL_freeIn 4 (some .int) [(0, 9, 12, 15)] 9 [.ref (ad E 11 0), .int p0, .ref (ad E 12 0)] (S, (K, (o, n))) (some (.int (nI k))) (S1, (K1, (o', n'))) := by
  rcases ho with ⟨rfl, ct⟩ | ⟨j, c, rfl, hj, ct⟩
  · refine ⟨v.toInt64, n, Nat.le_refl _, Nat.le_succ _, fun _ => rfl, CtH.of (by decide) (Nat.le_refl _) (Nat.le_of_ble_eq_true rfl) rfl ?_⟩
    intro J hJ hF hC
    refine r_aload_n hJ dL_freeIn_0 rfl jg2 ?_
    refine r_iconst hJ (v := nI 0) dL_freeIn_1 (by decide) ?_
    refine r_aload_n hJ dL_freeIn_2 rfl jg0 ?_
    refine r_iload_n hJ dL_freeIn_3 rfl jg1 ?_
    refine r_V1vx hJ (x' := (K1, (o, n))) rfl kL_70 (rcv4 E) ct dL_freeIn_4 ⟨by decide, by decide⟩ (Nat.le_of_ble_eq_true rfl) ?_
    refine r_i2l hJ dL_freeIn_7 rfl ?_
    refine r_last hJ dL_freeIn_8 ?_
    refine r_goto hJ (tgt := 15) dL_freeIn_9 (by decide) ?_
    refine r_iconst hJ (v := nI 0) dL_freeIn_15 (by decide) ?_
    exact hF.1 _ _ _ rfl rfl dL_freeIn_16
  · refine ⟨o, n + 1, Nat.le_succ _, Nat.le_refl _, fun h => absurd h (Nat.succ_ne_zero _), CtH.of (by decide) (Nat.le_succ _) (Nat.le_of_ble_eq_true rfl) rfl ?_⟩
    intro J hJ hF hC
    refine r_aload_n hJ dL_freeIn_0 rfl jg2 ?_
    refine r_iconst hJ (v := nI 0) dL_freeIn_1 (by decide) ?_
    refine r_aload_n hJ dL_freeIn_2 rfl jg0 ?_
    refine r_iload_n hJ dL_freeIn_3 rfl jg1 ?_
    rcases j with _ | j
    · obtain rfl := Option.some.inj hj
      refine hC (S, (K, (o, n))) (S1, (K1, (o, n + 1))) 4 _ [.int (nI 0), .ref (ad E 12 0)] 70 2 1 7 _ RX4 yX4_freeIn cX4_freeIn (some .int) [.int p0] xA [] (0, 9, 12, 15) [] rfl (fun _ h => absurd h List.not_mem_nil) ⟨by decide, by decide⟩ (by decide) m467 (List.mem_of_getElem? (i := 4) rfl) kL_70 (rcv4 E) ct dL_freeIn_4 ⟨by decide, by decide⟩ rfl (Nat.le_of_ble_eq_true rfl) (Nat.le_refl _) (by show n + 1 ≤ n + (n + 1 - n); omega) (fun q => ?_)
      refine r_astore_n hJ dL_freeIn_12 rfl (jp3 rfl rfl) ?_
      refine r_iconst hJ (v := nI 1) dL_freeIn_13 (by decide) ?_
      exact hF.1 _ _ _ rfl rfl dL_freeIn_14
    · exact absurd hj (by simp)
theorem kLH_148 : wSH RL 148 yL_freeIn cL_freeIn 4 (some .int) [(0, 9, 12, 15)] 3 := ⟨m771, m772, m63, m773, by decide +kernel⟩
theorem w_wishedIn {l : Launch} {E : jE} {S S1 : jS} {K K1 : Nat → Nat} {o : Int64} {n k : Nat} {v p0 p1 : Int32} (ho : Out l E yX4_wishedIn cX4_wishedIn 3 7 [.ref (ad E 11 0), .int p0, .int p1] (S, (K, (o, n))) [xO] k v (S1, (K1, (o, n)))) :
    ∃ o' n', n ≤ n' ∧ n' ≤ n + 1 ∧ (k = 0 → o' = v.toInt64) ∧ CtH l E yL_wishedIn cL_wishedIn 5 (some .int) [(0, 10, 13, 13)] 9 [.ref (ad E 11 0), .int p0, .int p1, .ref (ad E 12 0)] (S, (K, (o, n))) (some (.int (nI k))) (S1, (K1, (o', n'))) := by
  rcases ho with ⟨rfl, ct⟩ | ⟨j, c, rfl, hj, ct⟩
  · refine ⟨v.toInt64, n, Nat.le_refl _, Nat.le_succ _, fun _ => rfl, CtH.of (by decide) (Nat.le_refl _) (Nat.le_of_ble_eq_true rfl) rfl ?_⟩
    intro J hJ hF hC
    refine r_aload_n hJ dL_wishedIn_0 rfl jg3 ?_
    refine r_iconst hJ (v := nI 0) dL_wishedIn_1 (by decide) ?_
    refine r_aload_n hJ dL_wishedIn_2 rfl jg0 ?_
    refine r_iload_n hJ dL_wishedIn_3 rfl jg1 ?_
    refine r_iload_n hJ dL_wishedIn_4 rfl jg2 ?_
    refine r_V2vx hJ (x' := (K1, (o, n))) rfl kL_73 (rcv4 E) ct dL_wishedIn_5 ⟨by decide, by decide⟩ (Nat.le_of_ble_eq_true rfl) ?_
    refine r_i2l hJ dL_wishedIn_8 rfl ?_
    refine r_last hJ dL_wishedIn_9 ?_
    refine r_goto hJ (tgt := 17) dL_wishedIn_10 (by decide) ?_
    refine r_iconst hJ (v := nI 0) dL_wishedIn_17 (by decide) ?_
    exact hF.1 _ _ _ rfl rfl dL_wishedIn_18
  · refine ⟨o, n + 1, Nat.le_succ _, Nat.le_refl _, fun h => absurd h (Nat.succ_ne_zero _), CtH.of (by decide) (Nat.le_succ _) (Nat.le_of_ble_eq_true rfl) rfl ?_⟩
    intro J hJ hF hC
    refine r_aload_n hJ dL_wishedIn_0 rfl jg3 ?_
    refine r_iconst hJ (v := nI 0) dL_wishedIn_1 (by decide) ?_
    refine r_aload_n hJ dL_wishedIn_2 rfl jg0 ?_
    refine r_iload_n hJ dL_wishedIn_3 rfl jg1 ?_
    refine r_iload_n hJ dL_wishedIn_4 rfl jg2 ?_
    rcases j with _ | j
    · obtain rfl := Option.some.inj hj
      refine hC (S, (K, (o, n))) (S1, (K1, (o, n + 1))) 5 _ [.int (nI 0), .ref (ad E 12 0)] 73 3 2 7 _ RX4 yX4_wishedIn cX4_wishedIn (some .int) [.int p0, .int p1] xO [] (0, 10, 13, 13) [] rfl (fun _ h => absurd h List.not_mem_nil) ⟨by decide, by decide⟩ (by decide) m466 (List.mem_of_getElem? (i := 3) rfl) kL_73 (rcv4 E) ct dL_wishedIn_5 ⟨by decide, by decide⟩ rfl (Nat.le_of_ble_eq_true rfl) (Nat.le_refl _) (by show n + 1 ≤ n + (n + 1 - n); omega) (fun q => ?_)
      refine r_astore hJ dL_wishedIn_13 (jp4 rfl rfl) ?_
      refine r_iconst hJ (v := nI 1) dL_wishedIn_15 (by decide) ?_
      exact hF.1 _ _ _ rfl rfl dL_wishedIn_16
    · exact absurd hj (by simp)
theorem kLH_151 : wSH RL 151 yL_wishedIn cL_wishedIn 5 (some .int) [(0, 10, 13, 13)] 4 := ⟨m778, m779, m63, m780, by decide +kernel⟩
