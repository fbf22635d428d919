/-! THE LAW'S METHODS THAT CATCH -/
/-- the words of a call of a catching static method -/
def wSH (own : String) (ix : Nat) (y : MethodName) (cc : ByteArray) (nL : Nat) (ret : Option FieldType) (hh : List (Nat × Nat × Nat × Nat)) (n : Nat) : Prop :=
  Cond.methodLink own ix y ∈ gw ∧ Cond.static y ∈ gw ∧ Cond.initialized own ∈ gw ∧ Cond.codeWith y cc nL ret hh ∈ gw ∧ (y.cls = own ∧ y.cls ≠ "java/lang/invoke/MethodHandle" ∧ y.cls ≠ "java/lang/invoke/VarHandle" ∧ (parseMethodDescriptor y.desc).map (fun d => d.parameters.length) = some n)
theorem gI_SH {own : String} {ix nL n : Nat} {y : MethodName} {cc : ByteArray} {ret : Option FieldType} {hh : List (Nat × Nat × Nat × Nat)} (w : wSH own ix y cc nL ret hh n) : GoodIn gw (va_wsS own ix y (.codeWith y cc nL ret hh :: gw)) := by
  obtain ⟨h1, h2, h3, h4, h5, -⟩ := w
  refine gI fun z hz => ?_
  simp only [va_wsS, List.cons_append, List.nil_append, List.mem_cons] at hz
  rcases hz with rfl | rfl | rfl | rfl | hz
  · exact h1
  · exact h2
  · rw [h5]
    exact h3
  · exact h4
  · exact hz
section CALLH
variable {l : Launch} {E : jE} {own : String} {cc : ByteArray} {nL d n0 cap : Nat} {J : jT} {pc : Nat} {L : List (Option Value)} {rest : List Value}
theorem r_callSH (hJ : jR l E own cc nL d n0 cap J) {ix nL' n d' : Nat} {y : MethodName} {cc' : ByteArray} {ret : Option FieldType} {hh : List (Nat × Nat × Nat × Nat)} {As : List Value} {G G' : jG} {r : Option Value} (w : wSH own ix y cc' nL' ret hh n) (ct : CtH l E y cc' nL' ret hh d' As G r G')
    (hd : decode cc pc = .ok (.invokestatic ix, 3)) (hdd : d' < d ∧ nL' ≤ 13) (hn : As.length = n) (hst : (rest.map fun v => v.category).sum ≤ 8) (hcap : G.2.2.2 ≤ n0 + cap → G'.2.2.2 ≤ n0 + cap) (k : J G' (pc + 3) L (r.toList ++ rest)) : J G pc L (As.reverse ++ rest) := by
  obtain ⟨p, e, R, s, m, args, below, meth, c, Q, cb, sb, rfl, hfix, hfr, hlo, hce, hsl, hB⟩ := hJ
  obtain ⟨kx, hkx, hM⟩ := ct
  intro h1 h2 H locs ls hP hS hl
  have hcp := hcap h2
  have hr := vx_runSW (e := e) (below := below) (meth := meth) (rest := rest) (g := F0 m pc ls (As.reverse ++ rest)) (cells := cb + (G.2.2.2 - n0)) (slots := sb + 6 * (G.2.2.2 - n0)) (locs := locs) (As := As) (H := H) hfix hM
    (vx_cwSW n hfix.2.2.2.2 (gI_SH w) rfl rfl rfl w.2.2.2.2.2 ⟨by show d' + 1 ≤ R.frames; omega, by show 8 + (nL' + 11) + 32 * d' ≤ R.locals; omega⟩)
    ⟨jPc_blind E _ G, fun U hU hW => ⟨rfl, by rw [hU]; exact hP, hB.go hS hW hU⟩⟩ rfl hn hl.1 rfl (lv_room hst) hd ⟨by omega, by omega⟩
  exact jAfter hB h1 hkx hcp hS hl hr k
end CALLH
theorem w_take {l : Launch} {E : jE} {S S1 : jS} {K K1 : Nat → Nat} {o : Int64} {n : Nat} {v : Int32} {p0 p1 : Int32} (ct : Ct l E yX4_take cX4_take 3 (some .int) 8 [.ref (ad E 11 0), .int p0, .int p1] (S, (K, (o, n))) (some (.int v)) (S1, (K1, (o, n)))) : CtH l E yL_take cL_take 4 (some .int) [(0, 6, 7, 15)] 9 [.ref (ad E 11 0), .int p0, .int p1] (S, (K, (o, n))) (some (.int v)) (S1, (K1, (o, n))) := by
  refine CtH.of (by decide) (Nat.le_refl _) (Nat.le_of_ble_eq_true rfl) rfl ?_
  intro J hJ hF hC
  refine r_aload_n hJ dL_take_0 rfl jg0 ?_
  refine r_iload_n hJ dL_take_1 rfl jg1 ?_
  refine r_iload_n hJ dL_take_2 rfl jg2 ?_
  refine r_V2vx hJ (x' := (K1, (o, n))) rfl kL_9 (rcv4 E) ct dL_take_3 ⟨by decide, by decide⟩ (Nat.le_of_ble_eq_true rfl) ?_
  exact hF.1 _ _ _ rfl rfl dL_take_6
theorem w_take_0 {l : Launch} {E : jE} {S : jS} {K : Nat → Nat} {o : Int64} {n : Nat} {p0 p1 : Int32} (ct : CtT l E yX4_take cX4_take 3 (some .int) 8 [.ref (ad E 11 0), .int p0, .int p1] (S, (K, (o, n))) "java/lang/IllegalStateException" (nxt (S, (K, (o, n))))) : CtH l E yL_take cL_take 4 (some .int) [(0, 6, 7, 15)] 9 [.ref (ad E 11 0), .int p0, .int p1] (S, (K, (o, n))) (some (.int (-3))) (S, (K, (o, n + 1))) := by
  refine CtH.of (by decide) (Nat.le_succ _) (Nat.le_of_ble_eq_true rfl) rfl ?_
  intro J hJ hF hC
  refine r_aload_n hJ dL_take_0 rfl jg0 ?_
  refine r_iload_n hJ dL_take_1 rfl jg1 ?_
  refine r_iload_n hJ dL_take_2 rfl jg2 ?_
  refine hC (S, (K, (o, n))) (S, (K, (o, n + 1))) 3 _ [] 9 3 2 8 _ RX4 yX4_take cX4_take (some .int) [.int p0, .int p1] _ [] (0, 6, 7, 15) [] rfl (fun _ h => absurd h List.not_mem_nil) ⟨by decide, by decide⟩ (by decide) m294 (List.mem_of_getElem? (i := 5) rfl) kL_9 (rcv4 E) ct dL_take_3 ⟨by decide, by decide⟩ rfl (Nat.le_of_ble_eq_true rfl) (Nat.le_refl _) (by show n + 1 ≤ n + (n + 1 - n); omega) (fun q => ?_)
  refine r_astore_n hJ dL_take_7 rfl (jp3 rfl rfl) ?_
  refine r_bipush hJ (v := (-3)) dL_take_8 (by decide) ?_
  exact hF.1 _ _ _ rfl rfl dL_take_10
theorem kLH_50 : wSH RL 50 yL_take cL_take 4 (some .int) [(0, 6, 7, 15)] 3 := ⟨m291, m292, m24, m293, by decide +kernel⟩
theorem w_span {l : Launch} {E : jE} {S S1 : jS} {K K1 : Nat → Nat} {o : Int64} {n : Nat} {v : Int32} {p0 p1 p2 : Int32} (ct : Ct l E yX4_takeSpan cX4_takeSpan 4 (some .int) 8 [.ref (ad E 11 0), .int p0, .int p1, .int p2] (S, (K, (o, n))) (some (.int v)) (S1, (K1, (o, n)))) : CtH l E yL_span cL_span 5 (some .int) [(0, 7, 8, 15)] 9 [.ref (ad E 11 0), .int p0, .int p1, .int p2] (S, (K, (o, n))) (some (.int v)) (S1, (K1, (o, n))) := by
  refine CtH.of (by decide) (Nat.le_refl _) (Nat.le_of_ble_eq_true rfl) rfl ?_
  intro J hJ hF hC
  refine r_aload_n hJ dL_span_0 rfl jg0 ?_
  refine r_iload_n hJ dL_span_1 rfl jg1 ?_
  refine r_iload_n hJ dL_span_2 rfl jg2 ?_
  refine r_iload_n hJ dL_span_3 rfl jg3 ?_
  refine r_V3vx hJ (x' := (K1, (o, n))) rfl kL_17 (rcv4 E) ct dL_span_4 ⟨by decide, by decide⟩ (Nat.le_of_ble_eq_true rfl) ?_
  exact hF.1 _ _ _ rfl rfl dL_span_7
theorem w_span_0 {l : Launch} {E : jE} {S : jS} {K : Nat → Nat} {o : Int64} {n : Nat} {p0 p1 p2 : Int32} (ct : CtT l E yX4_takeSpan cX4_takeSpan 4 (some .int) 8 [.ref (ad E 11 0), .int p0, .int p1, .int p2] (S, (K, (o, n))) "java/lang/IllegalStateException" (nxt (S, (K, (o, n))))) : CtH l E yL_span cL_span 5 (some .int) [(0, 7, 8, 15)] 9 [.ref (ad E 11 0), .int p0, .int p1, .int p2] (S, (K, (o, n))) (some (.int (-3))) (S, (K, (o, n + 1))) := by
  refine CtH.of (by decide) (Nat.le_succ _) (Nat.le_of_ble_eq_true rfl) rfl ?_
  intro J hJ hF hC
  refine r_aload_n hJ dL_span_0 rfl jg0 ?_
  refine r_iload_n hJ dL_span_1 rfl jg1 ?_
  refine r_iload_n hJ dL_span_2 rfl jg2 ?_
  refine r_iload_n hJ dL_span_3 rfl jg3 ?_
  refine hC (S, (K, (o, n))) (S, (K, (o, n + 1))) 4 _ [] 17 4 3 8 _ RX4 yX4_takeSpan cX4_takeSpan (some .int) [.int p0, .int p1, .int p2] _ [] (0, 7, 8, 15) [] rfl (fun _ h => absurd h List.not_mem_nil) ⟨by decide, by decide⟩ (by decide) m294 (List.mem_of_getElem? (i := 5) rfl) kL_17 (rcv4 E) ct dL_span_4 ⟨by decide, by decide⟩ rfl (Nat.le_of_ble_eq_true rfl) (Nat.le_refl _) (by show n + 1 ≤ n + (n + 1 - n); omega) (fun q => ?_)
  refine r_astore hJ dL_span_8 (jp4 rfl rfl) ?_
  refine r_bipush hJ (v := (-3)) dL_span_10 (by decide) ?_
  exact hF.1 _ _ _ rfl rfl dL_span_12
theorem kLH_53 : wSH RL 53 yL_span cL_span 5 (some .int) [(0, 7, 8, 15)] 4 := ⟨m410, m411, m24, m412, by decide +kernel⟩
theorem w_wish {l : Launch} {E : jE} {S S1 : jS} {K K1 : Nat → Nat} {o : Int64} {n : Nat} {v : Int32} {p0 p1 p2 : Int32} (ct : Ct l E yX4_wish cX4_wish 4 (some .int) 7 [.ref (ad E 11 0), .int p0, .int p1, .int p2] (S, (K, (o, n))) (some (.int v)) (S1, (K1, (o, n)))) : CtH l E yL_wish cL_wish 5 (some .int) [(0, 7, 8, 24), (0, 7, 13, 15)] 9 [.ref (ad E 11 0), .int p0, .int p1, .int p2] (S, (K, (o, n))) (some (.int v)) (S1, (K1, (o, n))) := by
  refine CtH.of (by decide) (Nat.le_refl _) (Nat.le_of_ble_eq_true rfl) rfl ?_
  intro J hJ hF hC
  refine r_aload_n hJ dL_wish_0 rfl jg0 ?_
  refine r_iload_n hJ dL_wish_1 rfl jg1 ?_
  refine r_iload_n hJ dL_wish_2 rfl jg2 ?_
  refine r_iload_n hJ dL_wish_3 rfl jg3 ?_
  refine r_V3vx hJ (x' := (K1, (o, n))) rfl kL_21 (rcv4 E) ct dL_wish_4 ⟨by decide, by decide⟩ (Nat.le_of_ble_eq_true rfl) ?_
  exact hF.1 _ _ _ rfl rfl dL_wish_7
theorem w_wish_0 {l : Launch} {E : jE} {S : jS} {K : Nat → Nat} {o : Int64} {n : Nat} {p0 p1 p2 : Int32} (ct : CtT l E yX4_wish cX4_wish 4 (some .int) 7 [.ref (ad E 11 0), .int p0, .int p1, .int p2] (S, (K, (o, n))) "java/lang/IndexOutOfBoundsException" (nxt (S, (K, (o, n))))) : CtH l E yL_wish cL_wish 5 (some .int) [(0, 7, 8, 24), (0, 7, 13, 15)] 9 [.ref (ad E 11 0), .int p0, .int p1, .int p2] (S, (K, (o, n))) (some (.int (-4))) (S, (K, (o, n + 1))) := by
  refine CtH.of (by decide) (Nat.le_succ _) (Nat.le_of_ble_eq_true rfl) rfl ?_
  intro J hJ hF hC
  refine r_aload_n hJ dL_wish_0 rfl jg0 ?_
  refine r_iload_n hJ dL_wish_1 rfl jg1 ?_
  refine r_iload_n hJ dL_wish_2 rfl jg2 ?_
  refine r_iload_n hJ dL_wish_3 rfl jg3 ?_
  refine hC (S, (K, (o, n))) (S, (K, (o, n + 1))) 4 _ [] 21 4 3 7 _ RX4 yX4_wish cX4_wish (some .int) [.int p0, .int p1, .int p2] _ [] (0, 7, 8, 24) [(0, 7, 13, 15)] rfl (fun _ h => absurd h List.not_mem_nil) ⟨by decide, by decide⟩ (by decide) m420 (List.mem_of_getElem? (i := 3) rfl) kL_21 (rcv4 E) ct dL_wish_4 ⟨by decide, by decide⟩ rfl (Nat.le_of_ble_eq_true rfl) (Nat.le_refl _) (by show n + 1 ≤ n + (n + 1 - n); omega) (fun q => ?_)
  refine r_astore hJ dL_wish_8 (jp4 rfl rfl) ?_
  refine r_bipush hJ (v := (-4)) dL_wish_10 (by decide) ?_
  exact hF.1 _ _ _ rfl rfl dL_wish_12
theorem w_wish_1 {l : Launch} {E : jE} {S : jS} {K : Nat → Nat} {o : Int64} {n : Nat} {p0 p1 p2 : Int32} (ct : CtT l E yX4_wish cX4_wish 4 (some .int) 7 [.ref (ad E 11 0), .int p0, .int p1, .int p2] (S, (K, (o, n))) "java/lang/IllegalStateException" (nxt (S, (K, (o, n))))) : CtH l E yL_wish cL_wish 5 (some .int) [(0, 7, 8, 24), (0, 7, 13, 15)] 9 [.ref (ad E 11 0), .int p0, .int p1, .int p2] (S, (K, (o, n))) (some (.int (-3))) (S, (K, (o, n + 1))) := by
  refine CtH.of (by decide) (Nat.le_succ _) (Nat.le_of_ble_eq_true rfl) rfl ?_
  intro J hJ hF hC
  refine r_aload_n hJ dL_wish_0 rfl jg0 ?_
  refine r_iload_n hJ dL_wish_1 rfl jg1 ?_
  refine r_iload_n hJ dL_wish_2 rfl jg2 ?_
  refine r_iload_n hJ dL_wish_3 rfl jg3 ?_
  refine hC (S, (K, (o, n))) (S, (K, (o, n + 1))) 4 _ [] 21 4 3 7 _ RX4 yX4_wish cX4_wish (some .int) [.int p0, .int p1, .int p2] _ [(0, 7, 8, 24)] (0, 7, 13, 15) [] rfl (List.forall_mem_cons.mpr ⟨⟨by decide, _, m420, by decide +kernel⟩, fun _ h => absurd h List.not_mem_nil⟩) ⟨by decide, by decide⟩ (by decide) m294 (List.mem_of_getElem? (i := 5) rfl) kL_21 (rcv4 E) ct dL_wish_4 ⟨by decide, by decide⟩ rfl (Nat.le_of_ble_eq_true rfl) (Nat.le_refl _) (by show n + 1 ≤ n + (n + 1 - n); omega) (fun q => ?_)
  refine r_astore hJ dL_wish_13 (jp4 rfl rfl) ?_
  refine r_bipush hJ (v := (-3)) dL_wish_15 (by decide) ?_
  exact hF.1 _ _ _ rfl rfl dL_wish_17
theorem kLH_57 : wSH RL 57 yL_wish cL_wish 5 (some .int) [(0, 7, 8, 24), (0, 7, 13, 15)] 4 := ⟨m417, m418, m24, m419, by decide +kernel⟩
theorem w_unwish {l : Launch} {E : jE} {S S1 : jS} {K K1 : Nat → Nat} {o : Int64} {n : Nat} {v : Int32} {p0 p1 : Int32} (ct : Ct l E yX4_unwish cX4_unwish 4 (some .int) 7 [.ref (ad E 11 0), .int p0, .int p1] (S, (K, (o, n))) (some (.int v)) (S1, (K1, (o, n)))) : CtH l E yL_unwish cL_unwish 4 (some .int) [(0, 6, 7, 15)] 9 [.ref (ad E 11 0), .int p0, .int p1] (S, (K, (o, n))) (some (.int v)) (S1, (K1, (o, n))) := by
  refine CtH.of (by decide) (Nat.le_refl _) (Nat.le_of_ble_eq_true rfl) rfl ?_
  intro J hJ hF hC
  refine r_aload_n hJ dL_unwish_0 rfl jg0 ?_
  refine r_iload_n hJ dL_unwish_1 rfl jg1 ?_
  refine r_iload_n hJ dL_unwish_2 rfl jg2 ?_
  refine r_V2vx hJ (x' := (K1, (o, n))) rfl kL_26 (rcv4 E) ct dL_unwish_3 ⟨by decide, by decide⟩ (Nat.le_of_ble_eq_true rfl) ?_
  exact hF.1 _ _ _ rfl rfl dL_unwish_6
theorem w_unwish_0 {l : Launch} {E : jE} {S : jS} {K : Nat → Nat} {o : Int64} {n : Nat} {p0 p1 : Int32} (ct : CtT l E yX4_unwish cX4_unwish 4 (some .int) 7 [.ref (ad E 11 0), .int p0, .int p1] (S, (K, (o, n))) "java/lang/IllegalStateException" (nxt (S, (K, (o, n))))) : CtH l E yL_unwish cL_unwish 4 (some .int) [(0, 6, 7, 15)] 9 [.ref (ad E 11 0), .int p0, .int p1] (S, (K, (o, n))) (some (.int (-3))) (S, (K, (o, n + 1))) := by
  refine CtH.of (by decide) (Nat.le_succ _) (Nat.le_of_ble_eq_true rfl) rfl ?_
  intro J hJ hF hC
  refine r_aload_n hJ dL_unwish_0 rfl jg0 ?_
  refine r_iload_n hJ dL_unwish_1 rfl jg1 ?_
  refine r_iload_n hJ dL_unwish_2 rfl jg2 ?_
  refine hC (S, (K, (o, n))) (S, (K, (o, n + 1))) 3 _ [] 26 4 2 7 _ RX4 yX4_unwish cX4_unwish (some .int) [.int p0, .int p1] _ [] (0, 6, 7, 15) [] rfl (fun _ h => absurd h List.not_mem_nil) ⟨by decide, by decide⟩ (by decide) m294 (List.mem_of_getElem? (i := 5) rfl) kL_26 (rcv4 E) ct dL_unwish_3 ⟨by decide, by decide⟩ rfl (Nat.le_of_ble_eq_true rfl) (Nat.le_refl _) (by show n + 1 ≤ n + (n + 1 - n); omega) (fun q => ?_)
  refine r_astore_n hJ dL_unwish_7 rfl (jp3 rfl rfl) ?_
  refine r_bipush hJ (v := (-3)) dL_unwish_8 (by decide) ?_
  exact hF.1 _ _ _ rfl rfl dL_unwish_10
theorem kLH_64 : wSH RL 64 yL_unwish cL_unwish 4 (some .int) [(0, 6, 7, 15)] 3 := ⟨m476, m477, m24, m478, by decide +kernel⟩
theorem w_renew {l : Launch} {E : jE} {S S1 : jS} {K K1 : Nat → Nat} {o : Int64} {n : Nat} {v : Int32} {p0 p1 p2 : Int32} (ct : Ct l E yX4_renew cX4_renew 4 (some .int) 7 [.ref (ad E 11 0), .int p0, .int p1, .int p2] (S, (K, (o, n))) (some (.int v)) (S1, (K1, (o, n)))) : CtH l E yL_renew cL_renew 5 (some .int) [(0, 7, 8, 15)] 9 [.ref (ad E 11 0), .int p0, .int p1, .int p2] (S, (K, (o, n))) (some (.int v)) (S1, (K1, (o, n))) := by
  refine CtH.of (by decide) (Nat.le_refl _) (Nat.le_of_ble_eq_true rfl) rfl ?_
  intro J hJ hF hC
  refine r_aload_n hJ dL_renew_0 rfl jg0 ?_
  refine r_iload_n hJ dL_renew_1 rfl jg1 ?_
  refine r_iload_n hJ dL_renew_2 rfl jg2 ?_
  refine r_iload_n hJ dL_renew_3 rfl jg3 ?_
  refine r_V3vx hJ (x' := (K1, (o, n))) rfl kL_29 (rcv4 E) ct dL_renew_4 ⟨by decide, by decide⟩ (Nat.le_of_ble_eq_true rfl) ?_
  exact hF.1 _ _ _ rfl rfl dL_renew_7
theorem w_renew_0 {l : Launch} {E : jE} {S : jS} {K : Nat → Nat} {o : Int64} {n : Nat} {p0 p1 p2 : Int32} (ct : CtT l E yX4_renew cX4_renew 4 (some .int) 7 [.ref (ad E 11 0), .int p0, .int p1, .int p2] (S, (K, (o, n))) "java/lang/IllegalStateException" (nxt (S, (K, (o, n))))) : CtH l E yL_renew cL_renew 5 (some .int) [(0, 7, 8, 15)] 9 [.ref (ad E 11 0), .int p0, .int p1, .int p2] (S, (K, (o, n))) (some (.int (-3))) (S, (K, (o, n + 1))) := by
  refine CtH.of (by decide) (Nat.le_succ _) (Nat.le_of_ble_eq_true rfl) rfl ?_
  intro J hJ hF hC
  refine r_aload_n hJ dL_renew_0 rfl jg0 ?_
  refine r_iload_n hJ dL_renew_1 rfl jg1 ?_
  refine r_iload_n hJ dL_renew_2 rfl jg2 ?_
  refine r_iload_n hJ dL_renew_3 rfl jg3 ?_
  refine hC (S, (K, (o, n))) (S, (K, (o, n + 1))) 4 _ [] 29 4 3 7 _ RX4 yX4_renew cX4_renew (some .int) [.int p0, .int p1, .int p2] _ [] (0, 7, 8, 15) [] rfl (fun _ h => absurd h List.not_mem_nil) ⟨by decide, by decide⟩ (by decide) m294 (List.mem_of_getElem? (i := 5) rfl) kL_29 (rcv4 E) ct dL_renew_4 ⟨by decide, by decide⟩ rfl (Nat.le_of_ble_eq_true rfl) (Nat.le_refl _) (by show n + 1 ≤ n + (n + 1 - n); omega) (fun q => ?_)
  refine r_astore hJ dL_renew_8 (jp4 rfl rfl) ?_
  refine r_bipush hJ (v := (-3)) dL_renew_10 (by decide) ?_
  exact hF.1 _ _ _ rfl rfl dL_renew_12
theorem kLH_59 : wSH RL 59 yL_renew cL_renew 5 (some .int) [(0, 7, 8, 15)] 4 := ⟨m445, m446, m24, m447, by decide +kernel⟩
theorem w_set {l : Launch} {E : jE} {S S1 : jS} {K K1 : Nat → Nat} {o : Int64} {n : Nat} {v : Int32} {p0 p1 : Int32} (ct : Ct l E yX4_set cX4_set 4 (some .int) 7 [.ref (ad E 11 0), .int p0, .int p1] (S, (K, (o, n))) (some (.int v)) (S1, (K1, (o, n)))) : CtH l E yL_set cL_set 4 (some .int) [(0, 6, 7, 35), (0, 6, 11, 15)] 9 [.ref (ad E 11 0), .int p0, .int p1] (S, (K, (o, n))) (some (.int v)) (S1, (K1, (o, n))) := by
  refine CtH.of (by decide) (Nat.le_refl _) (Nat.le_of_ble_eq_true rfl) rfl ?_
  intro J hJ hF hC
  refine r_aload_n hJ dL_set_0 rfl jg0 ?_
  refine r_iload_n hJ dL_set_1 rfl jg1 ?_
  refine r_iload_n hJ dL_set_2 rfl jg2 ?_
  refine r_V2vx hJ (x' := (K1, (o, n))) rfl kL_32 (rcv4 E) ct dL_set_3 ⟨by decide, by decide⟩ (Nat.le_of_ble_eq_true rfl) ?_
  exact hF.1 _ _ _ rfl rfl dL_set_6
theorem w_set_0 {l : Launch} {E : jE} {S : jS} {K : Nat → Nat} {o : Int64} {n : Nat} {p0 p1 : Int32} (ct : CtT l E yX4_set cX4_set 4 (some .int) 7 [.ref (ad E 11 0), .int p0, .int p1] (S, (K, (o, n))) "java/lang/IllegalArgumentException" (nxt (S, (K, (o, n))))) : CtH l E yL_set cL_set 4 (some .int) [(0, 6, 7, 35), (0, 6, 11, 15)] 9 [.ref (ad E 11 0), .int p0, .int p1] (S, (K, (o, n))) (some (.int (-2))) (S, (K, (o, n + 1))) := by
  refine CtH.of (by decide) (Nat.le_succ _) (Nat.le_of_ble_eq_true rfl) rfl ?_
  intro J hJ hF hC
  refine r_aload_n hJ dL_set_0 rfl jg0 ?_
  refine r_iload_n hJ dL_set_1 rfl jg1 ?_
  refine r_iload_n hJ dL_set_2 rfl jg2 ?_
  refine hC (S, (K, (o, n))) (S, (K, (o, n + 1))) 3 _ [] 32 4 2 7 _ RX4 yX4_set cX4_set (some .int) [.int p0, .int p1] _ [] (0, 6, 7, 35) [(0, 6, 11, 15)] rfl (fun _ h => absurd h List.not_mem_nil) ⟨by decide, by decide⟩ (by decide) m387 (List.mem_of_getElem? (i := 4) rfl) kL_32 (rcv4 E) ct dL_set_3 ⟨by decide, by decide⟩ rfl (Nat.le_of_ble_eq_true rfl) (Nat.le_refl _) (by show n + 1 ≤ n + (n + 1 - n); omega) (fun q => ?_)
  refine r_astore_n hJ dL_set_7 rfl (jp3 rfl rfl) ?_
  refine r_bipush hJ (v := (-2)) dL_set_8 (by decide) ?_
  exact hF.1 _ _ _ rfl rfl dL_set_10
theorem w_set_1 {l : Launch} {E : jE} {S : jS} {K : Nat → Nat} {o : Int64} {n : Nat} {p0 p1 : Int32} (ct : CtT l E yX4_set cX4_set 4 (some .int) 7 [.ref (ad E 11 0), .int p0, .int p1] (S, (K, (o, n))) "java/lang/IllegalStateException" (nxt (S, (K, (o, n))))) : CtH l E yL_set cL_set 4 (some .int) [(0, 6, 7, 35), (0, 6, 11, 15)] 9 [.ref (ad E 11 0), .int p0, .int p1] (S, (K, (o, n))) (some (.int (-3))) (S, (K, (o, n + 1))) := by
  refine CtH.of (by decide) (Nat.le_succ _) (Nat.le_of_ble_eq_true rfl) rfl ?_
  intro J hJ hF hC
  refine r_aload_n hJ dL_set_0 rfl jg0 ?_
  refine r_iload_n hJ dL_set_1 rfl jg1 ?_
  refine r_iload_n hJ dL_set_2 rfl jg2 ?_
  refine hC (S, (K, (o, n))) (S, (K, (o, n + 1))) 3 _ [] 32 4 2 7 _ RX4 yX4_set cX4_set (some .int) [.int p0, .int p1] _ [(0, 6, 7, 35)] (0, 6, 11, 15) [] rfl (List.forall_mem_cons.mpr ⟨⟨by decide, _, m387, by decide +kernel⟩, fun _ h => absurd h List.not_mem_nil⟩) ⟨by decide, by decide⟩ (by decide) m294 (List.mem_of_getElem? (i := 5) rfl) kL_32 (rcv4 E) ct dL_set_3 ⟨by decide, by decide⟩ rfl (Nat.le_of_ble_eq_true rfl) (Nat.le_refl _) (by show n + 1 ≤ n + (n + 1 - n); omega) (fun q => ?_)
  refine r_astore_n hJ dL_set_11 rfl (jp3 rfl rfl) ?_
  refine r_bipush hJ (v := (-3)) dL_set_12 (by decide) ?_
  exact hF.1 _ _ _ rfl rfl dL_set_14
theorem kLH_94 : wSH RL 94 yL_set cL_set 4 (some .int) [(0, 6, 7, 35), (0, 6, 11, 15)] 3 := ⟨m384, m385, m24, m386, by decide +kernel⟩
theorem w_undo {l : Launch} {E : jE} {S S1 : jS} {K K1 : Nat → Nat} {o : Int64} {n : Nat} {v : Int32} (ct : Ct l E yX4_undo cX4_undo 1 (some .int) 7 [.ref (ad E 11 0)] (S, (K, (o, n))) (some (.int v)) (S1, (K1, (o, n)))) : CtH l E yL_undo cL_undo 2 (some .int) [(0, 4, 5, 15)] 9 [.ref (ad E 11 0)] (S, (K, (o, n))) (some (.int v)) (S1, (K1, (o, n))) := by
  refine CtH.of (by decide) (Nat.le_refl _) (Nat.le_of_ble_eq_true rfl) rfl ?_
  intro J hJ hF hC
  refine r_aload_n hJ dL_undo_0 rfl jg0 ?_
  refine r_V0vx hJ (x' := (K1, (o, n))) rfl kL_69 (rcv4 E) ct dL_undo_1 ⟨by decide, by decide⟩ (Nat.le_of_ble_eq_true rfl) ?_
  exact hF.1 _ _ _ rfl rfl dL_undo_4
theorem w_undo_0 {l : Launch} {E : jE} {S : jS} {K : Nat → Nat} {o : Int64} {n : Nat} (ct : CtT l E yX4_undo cX4_undo 1 (some .int) 7 [.ref (ad E 11 0)] (S, (K, (o, n))) "java/lang/IllegalStateException" (nxt (S, (K, (o, n))))) : CtH l E yL_undo cL_undo 2 (some .int) [(0, 4, 5, 15)] 9 [.ref (ad E 11 0)] (S, (K, (o, n))) (some (.int (-3))) (S, (K, (o, n + 1))) := by
  refine CtH.of (by decide) (Nat.le_succ _) (Nat.le_of_ble_eq_true rfl) rfl ?_
  intro J hJ hF hC
  refine r_aload_n hJ dL_undo_0 rfl jg0 ?_
  refine hC (S, (K, (o, n))) (S, (K, (o, n + 1))) 1 _ [] 69 1 0 7 _ RX4 yX4_undo cX4_undo (some .int) [] _ [] (0, 4, 5, 15) [] rfl (fun _ h => absurd h List.not_mem_nil) ⟨by decide, by decide⟩ (by decide) m294 (List.mem_of_getElem? (i := 5) rfl) kL_69 (rcv4 E) ct dL_undo_1 ⟨by decide, by decide⟩ rfl (Nat.le_of_ble_eq_true rfl) (Nat.le_refl _) (by show n + 1 ≤ n + (n + 1 - n); omega) (fun q => ?_)
  refine r_astore_n hJ dL_undo_5 rfl (jp1 rfl rfl) ?_
  refine r_bipush hJ (v := (-3)) dL_undo_6 (by decide) ?_
  exact hF.1 _ _ _ rfl rfl dL_undo_8
theorem kLH_96 : wSH RL 96 yL_undo cL_undo 2 (some .int) [(0, 4, 5, 15)] 1 := ⟨m505, m506, m24, m507, by decide +kernel⟩
section LAWROWS
variable {l : Launch} {E : jE} {own : String} {cc : ByteArray} {nL d n0 cap : Nat} {J : jT} {G : jG} {pc : Nat} {L : List (Option Value)} {rest : List Value}
theorem r_H1 (hJ : jR l E own cc nL d n0 cap J) {ix nL' d' : Nat} {y : MethodName} {cc' : ByteArray} {ret : Option FieldType} {hh : List (Nat × Nat × Nat × Nat)} {G' : jG} {x1 v : Value} (w : wSH own ix y cc' nL' ret hh 1) (ct : CtH l E y cc' nL' ret hh d' [x1] G (some v) G') (hd : decode cc pc = .ok (.invokestatic ix, 3)) (hdd : d' < d ∧ nL' ≤ 13) (hst : (rest.map fun v => v.category).sum ≤ 8) (hcap : G.2.2.2 ≤ n0 + cap → G'.2.2.2 ≤ n0 + cap) (k : J G' (pc + 3) L (v :: rest)) : J G pc L (x1 :: rest) :=
  r_callSH hJ (As := [x1]) w ct hd hdd rfl hst hcap k
theorem r_H2 (hJ : jR l E own cc nL d n0 cap J) {ix nL' d' : Nat} {y : MethodName} {cc' : ByteArray} {ret : Option FieldType} {hh : List (Nat × Nat × Nat × Nat)} {G' : jG} {x1 x2 v : Value} (w : wSH own ix y cc' nL' ret hh 2) (ct : CtH l E y cc' nL' ret hh d' [x1, x2] G (some v) G') (hd : decode cc pc = .ok (.invokestatic ix, 3)) (hdd : d' < d ∧ nL' ≤ 13) (hst : (rest.map fun v => v.category).sum ≤ 8) (hcap : G.2.2.2 ≤ n0 + cap → G'.2.2.2 ≤ n0 + cap) (k : J G' (pc + 3) L (v :: rest)) : J G pc L (x2 :: x1 :: rest) :=
  r_callSH hJ (As := [x1, x2]) w ct hd hdd rfl hst hcap k
theorem r_H3 (hJ : jR l E own cc nL d n0 cap J) {ix nL' d' : Nat} {y : MethodName} {cc' : ByteArray} {ret : Option FieldType} {hh : List (Nat × Nat × Nat × Nat)} {G' : jG} {x1 x2 x3 v : Value} (w : wSH own ix y cc' nL' ret hh 3) (ct : CtH l E y cc' nL' ret hh d' [x1, x2, x3] G (some v) G') (hd : decode cc pc = .ok (.invokestatic ix, 3)) (hdd : d' < d ∧ nL' ≤ 13) (hst : (rest.map fun v => v.category).sum ≤ 8) (hcap : G.2.2.2 ≤ n0 + cap → G'.2.2.2 ≤ n0 + cap) (k : J G' (pc + 3) L (v :: rest)) : J G pc L (x3 :: x2 :: x1 :: rest) :=
  r_callSH hJ (As := [x1, x2, x3]) w ct hd hdd rfl hst hcap k
theorem r_H4 (hJ : jR l E own cc nL d n0 cap J) {ix nL' d' : Nat} {y : MethodName} {cc' : ByteArray} {ret : Option FieldType} {hh : List (Nat × Nat × Nat × Nat)} {G' : jG} {x1 x2 x3 x4 v : Value} (w : wSH own ix y cc' nL' ret hh 4) (ct : CtH l E y cc' nL' ret hh d' [x1, x2, x3, x4] G (some v) G') (hd : decode cc pc = .ok (.invokestatic ix, 3)) (hdd : d' < d ∧ nL' ≤ 13) (hst : (rest.map fun v => v.category).sum ≤ 8) (hcap : G.2.2.2 ≤ n0 + cap → G'.2.2.2 ≤ n0 + cap) (k : J G' (pc + 3) L (v :: rest)) : J G pc L (x4 :: x3 :: x2 :: x1 :: rest) :=
  r_callSH hJ (As := [x1, x2, x3, x4]) w ct hd hdd rfl hst hcap k
end LAWROWS
