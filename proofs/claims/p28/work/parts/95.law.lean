/-! THE START STATE -/
def S0 : jS := fun o => if o < 8 then pool0 else obj0
def K0 : Nat → Nat := fun i => i + 2
theorem pool0_2 {n : Nat} (h : n < 64) : pool0 2 n = -1 := by
  show pW 64 n = -1
  unfold pW
  rw [if_pos h]
theorem PI_0 : PI pool0 := by
  refine ⟨⟨32, by decide, by decide, rfl⟩, fun n hn => Or.inl (pool0_2 hn), fun n hn => ?_⟩
  exact ⟨0, by decide, rfl, fun k hk => absurd hk (Nat.not_lt_zero _)⟩
theorem XV_0 : XV pool0 32 0 64 0 0 := by
  refine ⟨PI_0, ⟨rfl, ⟨rfl, by decide, by decide⟩, fun q hq => ?_⟩, fun n hn => ⟨⟨0, by decide, rfl, fun k hk => absurd hk (Nat.not_lt_zero _), fun i k _ hk => absurd hk (Nat.not_lt_zero _)⟩, Or.inl ⟨pool0_2 hn, rfl⟩⟩, fun n hn => ⟨0, Nat.le_refl _, rfl⟩, ?_, 0, 0, Nat.le_refl _, Nat.le_refl _, rfl, rfl⟩
  · rcases (by omega : q = 0 ∨ q = 1 ∨ q = 2) with h | h | h <;> subst h
    · exact ⟨5, by decide, rfl⟩
    · exact ⟨16, by decide, rfl⟩
    · exact ⟨0, by decide, rfl⟩
  · unfold LG
    rw [cnt_zero (p := fun n => !frP pool0 n) (fun i hi => by rw [frP_t (pool0_2 hi)]; rfl)]
    rfl
theorem INV_0 : INV S0 K0 0 := ⟨⟨32, 0, Nat.le_refl _, XV_0⟩, ⟨fun i hi => ⟨by show 2 ≤ i + 2; omega, by show i + 2 < 8; omega⟩, fun i j _ _ h => by
  have h1 : i + 2 = j + 2 := h
  omega⟩, 0, by decide, rfl, fun i hi => absurd hi (Nat.not_lt_zero _)⟩
theorem lcs_len : lcs.length = 109 := by decide +kernel
theorem wE_lcs (E : jE) (G : jG) : wE E (lcs.map fun p => cel E G.2 p.1 (G.1 p.1) p.2) = wld E G := by
  apply List.ext_getElem?
  intro i
  rw [wE_get, List.getElem?_map]
  by_cases hi : i < 109
  · rw [wld_at E G hi]
    have h : lcs[i]? = some (loc i) := by
      unfold loc
      rw [List.getD_eq_getElem?_getD, List.getElem?_eq_getElem (by rw [lcs_len]; exact hi)]
      rfl
    rw [h]
    rfl
  · rw [List.getElem?_eq_none (by rw [lcs_len]; omega), List.getElem?_eq_none (by rw [wld_len]; omega)]
    rfl
theorem lcs_blk (E : jE) (G : jG) : (lcs.map fun p => cel E G.2 p.1 (G.1 p.1) p.2) = [11, 0, 1, 9, 2, 3, 4, 5, 6, 7, 8].flatMap fun o => blk E G.2 o (G.1 o) := by
  unfold lcs blk
  rw [List.map_flatMap]
  congr 1
  funext o
  rw [List.map_map]
  rfl
theorem wld_0 (E : jE) : wE E (blk E (K0, (0, 0)) 11 obj0 ++ blk E (K0, (0, 0)) 0 pool0 ++ blk E (K0, (0, 0)) 1 pool0 ++ (blk E (K0, (0, 0)) 9 obj0 ++ blk E (K0, (0, 0)) 2 pool0 ++ blk E (K0, (0, 0)) 3 pool0 ++ blk E (K0, (0, 0)) 4 pool0 ++ blk E (K0, (0, 0)) 5 pool0 ++ blk E (K0, (0, 0)) 6 pool0 ++ blk E (K0, (0, 0)) 7 pool0) ++ blk E (K0, (0, 0)) 8 obj0) = wld E (S0, (K0, (0, 0))) := by
  rw [← wE_lcs, lcs_blk]
  congr 1
/-! THE LAW'S LOOP -/
section LOOP
variable {l : Launch} {E : jE} {J : jT}
theorem r_S3g {own : String} {cc : ByteArray} {nL d n0 cap : Nat} {G G' : jG} {pc : Nat} {L : List (Option Value)} {rest : List Value} (hJ : jR l E own cc nL d n0 cap J) {ix nL' d' : Nat} {y : MethodName} {cc' : ByteArray} {ret : Option FieldType} {x1 x2 x3 v : Value} (w : wS own ix y cc' nL' ret 3) (ct : Ct l E y cc' nL' ret d' [x1, x2, x3] G (some v) G') (hd : decode cc pc = .ok (.invokestatic ix, 3)) (hdd : d' < d ∧ nL' ≤ 13) (hst : (rest.map fun v => v.category).sum ≤ 8) (hcap : G.2.2.2 ≤ n0 + cap → G'.2.2.2 ≤ n0 + cap) (k : J G' (pc + 3) L (v :: rest)) : J G pc L (x3 :: x2 :: x1 :: rest) :=
  r_callS hJ (As := [x1, x2, x3]) w ct hd hdd rfl hst hcap k
theorem law_tail (hJ : jR l E RL cL_law 10 12 0 100 J) {S : jS} {K : Nat → Nat} {o : Int64} {n k T i : Nat} {v sv : Int32} (hI : INV S K i) (hi : i ≤ 60) (hv : ¬ v < 0 ∨ S 9 0 0 = sv)
    (kk : ∀ S', INV S' K i → J (S', (K, (o, n))) 67 [some (.ref (sB E)), some (.ref (ad E 11 0)), some (.int (nI 1)), some (.int (nI T)), some (.int (nI (k + 1))), none, none, none, none, none] []) : J (S, (K, (o, n))) 270 [some (.ref (sB E)), some (.ref (ad E 11 0)), some (.int (nI 1)), some (.int (nI T)), some (.int (nI k)), none, none, some (.int (sv)), some (.int (v)), none] [] := by
  obtain ⟨z, t, ht, hX⟩ := id hI.1
  obtain ⟨hz, hz4, hz6⟩ := hX.2.1.2.1
  have cn := c_numbers (l := l) (E := E) (A := S 1) (K := K) (y := (o, n)) (by omega) (by omega) (by omega) hX
  rw [setO_self] at cn
  have ch := c_holders (l := l) (E := E) (A := S 0) (K := K) (y := (o, n)) (by omega) hX
  obtain ⟨B, cs⟩ := c_spans (l := l) (E := E) (A := S 0) (K := K) (y := (o, n)) (by omega) (by omega) hX
  have cc := c4_count l E S K (o, n) hz hz6 (q := 12) (by decide)
  have e12 : cntA S z 12 = S 9 0 0 := rfl
  rw [e12] at cc
  by_cases h0 : ¬ v < 0
  · refine r_iload_n hJ dL_law_270 rfl jg2 ?_
    refine r_if_eq_f hJ (tgt := 315) (by decide) dL_law_271 (by decide) ?_
    refine r_iload hJ dL_law_274 jg8 ?_
    refine r_if_ge_t hJ (tgt := 290) (Int32.not_lt.mp h0) dL_law_276 (by decide) ?_
    refine r_aload_n hJ dL_law_290 rfl jg1 ?_
    refine r_S1v hJ kL_103 (cn) dL_law_291 ⟨by decide, by decide⟩ (Nat.le_of_ble_eq_true rfl) ?_
    refine r_if_eq_f hJ (tgt := 315) (by decide) dL_law_294 (by decide) ?_
    refine r_aload_n hJ dL_law_297 rfl jg1 ?_
    refine r_S1v hJ kL_107 (ch) dL_law_298 ⟨by decide, by decide⟩ (Nat.le_of_ble_eq_true rfl) ?_
    refine r_if_eq_f hJ (tgt := 315) (by decide) dL_law_301 (by decide) ?_
    refine r_aload_n hJ dL_law_304 rfl jg1 ?_
    refine r_S1v hJ kL_110 (cs) dL_law_305 ⟨by decide, by decide⟩ (Nat.le_of_ble_eq_true rfl) ?_
    refine r_if_eq_f hJ (tgt := 315) (by decide) dL_law_308 (by decide) ?_
    refine r_iconst hJ (v := nI 1) dL_law_311 (by decide) ?_
    refine r_goto hJ (tgt := 316) dL_law_312 (by decide) ?_
    refine r_istore_n hJ dL_law_316 rfl (jp2 rfl rfl) ?_
    refine r_iinc hJ dL_law_317 jg4 (ii1 _) (jp4 rfl rfl) ?_
    refine r_goto hJ (tgt := 67) dL_law_320 (by decide) ?_
    exact r_fgt hJ (lless_s (lless_s (lless_s (lless_s (lless_s (lless_s (lless_s (lless_n (lless_n (lless_s lless_0)))))))))) (kk (setO S 1 B) (INV_1 B hI))
  · refine r_iload_n hJ dL_law_270 rfl jg2 ?_
    refine r_if_eq_f hJ (tgt := 315) (by decide) dL_law_271 (by decide) ?_
    refine r_iload hJ dL_law_274 jg8 ?_
    refine r_if_ge_f hJ (tgt := 290) (Int32.not_le.mpr (Decidable.not_not.mp h0)) dL_law_276 (by decide) ?_
    refine r_aload_n hJ dL_law_279 rfl jg1 ?_
    refine r_bipush hJ (v := nI 12) dL_law_280 (by decide) ?_
    refine r_V1v hJ kL_73 (rcv4 E) (cc) dL_law_282 ⟨by decide, by decide⟩ (Nat.le_of_ble_eq_true rfl) ?_
    refine r_iload hJ dL_law_285 jg7 ?_
    refine r_icmp_ne_f hJ (tgt := 315) (hv.resolve_left h0) dL_law_287 (by decide) ?_
    refine r_aload_n hJ dL_law_290 rfl jg1 ?_
    refine r_S1v hJ kL_103 (cn) dL_law_291 ⟨by decide, by decide⟩ (Nat.le_of_ble_eq_true rfl) ?_
    refine r_if_eq_f hJ (tgt := 315) (by decide) dL_law_294 (by decide) ?_
    refine r_aload_n hJ dL_law_297 rfl jg1 ?_
    refine r_S1v hJ kL_107 (ch) dL_law_298 ⟨by decide, by decide⟩ (Nat.le_of_ble_eq_true rfl) ?_
    refine r_if_eq_f hJ (tgt := 315) (by decide) dL_law_301 (by decide) ?_
    refine r_aload_n hJ dL_law_304 rfl jg1 ?_
    refine r_S1v hJ kL_110 (cs) dL_law_305 ⟨by decide, by decide⟩ (Nat.le_of_ble_eq_true rfl) ?_
    refine r_if_eq_f hJ (tgt := 315) (by decide) dL_law_308 (by decide) ?_
    refine r_iconst hJ (v := nI 1) dL_law_311 (by decide) ?_
    refine r_goto hJ (tgt := 316) dL_law_312 (by decide) ?_
    refine r_istore_n hJ dL_law_316 rfl (jp2 rfl rfl) ?_
    refine r_iinc hJ dL_law_317 jg4 (ii1 _) (jp4 rfl rfl) ?_
    refine r_goto hJ (tgt := 67) dL_law_320 (by decide) ?_
    exact r_fgt hJ (lless_s (lless_s (lless_s (lless_s (lless_s (lless_s (lless_s (lless_n (lless_n (lless_s lless_0)))))))))) (kk (setO S 1 B) (INV_1 B hI))

theorem nI_m3 {n : Nat} (h : n < 2 ^ 31) : ¬ nI n = -3 := by
  intro q
  have h1 := nI_toInt h
  rw [q] at h1
  have h2 : (-3 : Int32).toInt = -3 := by decide
  omega
theorem law_step (hst : l.stackTraces = false) (hJ : jR l E RL cL_law 10 12 0 100 J) {S : jS} {K : Nat → Nat} {o : Int64} {n k T i : Nat} (hI : INV S K i) (hi : i < 60) (hk : k < T) (hT : T ≤ 26) (hn : n ≤ 90)
    (next : ∀ S' K' n', INV S' K' (i + 1) → n' ≤ n + 1 → J (S', (K', (o, n'))) 67 [some (.ref (sB E)), some (.ref (ad E 11 0)), some (.int (nI 1)), some (.int (nI T)), some (.int (nI (k + 1))), none, none, none, none, none] []) : J (S, (K, (o, n))) 67 [some (.ref (sB E)), some (.ref (ad E 11 0)), some (.int (nI 1)), some (.int (nI T)), some (.int (nI k)), none, none, none, none, none] [] := by
  obtain ⟨z, t, ht, hX⟩ := id hI.1
  obtain ⟨hz, hz4, hz6⟩ := hX.2.1.2.1
  obtain ⟨v0, c0⟩ := c_cell l E (S, (K, (o, n))) (k := 4 * k) (by omega)
  obtain ⟨v1, c1⟩ := c_cell l E (S, (K, (o, n))) (k := 4 * k + 1) (by omega)
  obtain ⟨v2, c2⟩ := c_cell l E (S, (K, (o, n))) (k := 4 * k + 2) (by omega)
  obtain ⟨q, hq, l0⟩ := c_low l E (S, (K, (o, n))) v0 (n := 12) (by decide) (by decide)
  have csp := c4_span l E S K (o, n) hz hz6 (s := nI 0) (w := nI 0) (by decide) (by decide) (by decide)
  have ccn := c4_count l E S K (o, n) hz hz6 (q := 12) (by decide)
  have cb := c4_count l E S K (o, n) hz hz6 (q := 1) (by decide)
  have e12 : cntA S z 12 = S 9 0 0 := rfl
  rw [e12] at ccn
  by_cases q9 : q = 9
  · subst q9
    obtain ⟨v, S', K', n', hD, ct⟩ := o_undo (E := E) (o := o) (n := n) hst hI
    have hn1 := hD.2.1
    refine r_iload hJ dL_law_67 jg4 ?_
    refine r_iload_n hJ dL_law_69 rfl jg3 ?_
    refine r_icmp_ge_f hJ (tgt := 323) (nI_ge hk (by omega)) dL_law_70 (by decide) ?_
    refine r_iload_n hJ dL_law_73 rfl jg2 ?_
    refine r_if_eq_f hJ (tgt := 323) (by decide) dL_law_74 (by decide) ?_
    refine r_aload_n hJ dL_law_77 rfl jg0 ?_
    refine r_iconst hJ (v := nI 4) dL_law_78 (by decide) ?_
    refine r_iload hJ dL_law_79 jg4 ?_
    refine r_imulN hJ dL_law_81 ?_
    refine r_S2v hJ kL_41 (c0) dL_law_82 ⟨by decide, by decide⟩ (Nat.le_of_ble_eq_true rfl) ?_
    refine r_bipush hJ (v := nI 12) dL_law_85 (by decide) ?_
    refine r_S2v hJ kL_47 (l0) dL_law_87 ⟨by decide, by decide⟩ (Nat.le_of_ble_eq_true rfl) ?_
    refine r_istore hJ dL_law_90 (jp5 rfl rfl) ?_
    refine r_aload_n hJ dL_law_92 rfl jg1 ?_
    refine r_iconst hJ (v := nI 0) dL_law_93 (by decide) ?_
    refine r_iconst hJ (v := nI 0) dL_law_94 (by decide) ?_
    refine r_V2v hJ kL_88 (rcv4 E) (csp) dL_law_95 ⟨by decide, by decide⟩ (Nat.le_of_ble_eq_true rfl) ?_
    refine r_istore hJ dL_law_98 (jp6 rfl rfl) ?_
    refine r_aload_n hJ dL_law_100 rfl jg1 ?_
    refine r_bipush hJ (v := nI 12) dL_law_101 (by decide) ?_
    refine r_V1v hJ kL_73 (rcv4 E) (ccn) dL_law_103 ⟨by decide, by decide⟩ (Nat.le_of_ble_eq_true rfl) ?_
    refine r_istore hJ dL_law_106 (jp7 rfl rfl) ?_
    refine r_iconst hJ (v := nI 0) dL_law_108 (by decide) ?_
    refine r_istore hJ dL_law_109 (jp8 rfl rfl) ?_
    refine r_iload hJ dL_law_111 jg5 ?_
    refine r_bipush hJ (v := nI 9) dL_law_113 (by decide) ?_
    refine r_icmp_ne_f hJ (tgt := 127) (rfl) dL_law_115 (by decide) ?_
    refine r_aload_n hJ dL_law_118 rfl jg1 ?_
    refine r_H1 hJ kLH_96 ct dL_law_119 ⟨by decide, by decide⟩ (Nat.le_of_ble_eq_true rfl) (fun _ => by show n' ≤ 0 + 100; omega) ?_
    refine r_istore hJ dL_law_122 (jp8 rfl rfl) ?_
    refine r_goto hJ (tgt := 270) dL_law_124 (by decide) ?_
    exact r_fgt hJ (lless_s (lless_s (lless_s (lless_s (lless_s (lless_n (lless_n (lless_s (lless_s (lless_s lless_0)))))))))) (law_tail hJ hD.2.2.1 (by omega) hD.2.2.2 (fun S2 h2 => next S2 K' n' h2 (by omega)))
  by_cases q10 : q = 10
  · subst q10
    obtain ⟨a, ha, la⟩ := c_low l E (S, (K, (o, n))) v1 (n := 3) (by decide) (by decide)
    obtain ⟨b, hb, lb⟩ := c_low l E (S, (K, (o, n))) v2 (n := 8) (by decide) (by decide)
    obtain ⟨v, S', K', n', hD, ct⟩ := o_set (E := E) (o := o) (n := n) hst hI (q := a) (r := b) ha (by omega)
    have hn1 := hD.2.1
    refine r_iload hJ dL_law_67 jg4 ?_
    refine r_iload_n hJ dL_law_69 rfl jg3 ?_
    refine r_icmp_ge_f hJ (tgt := 323) (nI_ge hk (by omega)) dL_law_70 (by decide) ?_
    refine r_iload_n hJ dL_law_73 rfl jg2 ?_
    refine r_if_eq_f hJ (tgt := 323) (by decide) dL_law_74 (by decide) ?_
    refine r_aload_n hJ dL_law_77 rfl jg0 ?_
    refine r_iconst hJ (v := nI 4) dL_law_78 (by decide) ?_
    refine r_iload hJ dL_law_79 jg4 ?_
    refine r_imulN hJ dL_law_81 ?_
    refine r_S2v hJ kL_41 (c0) dL_law_82 ⟨by decide, by decide⟩ (Nat.le_of_ble_eq_true rfl) ?_
    refine r_bipush hJ (v := nI 12) dL_law_85 (by decide) ?_
    refine r_S2v hJ kL_47 (l0) dL_law_87 ⟨by decide, by decide⟩ (Nat.le_of_ble_eq_true rfl) ?_
    refine r_istore hJ dL_law_90 (jp5 rfl rfl) ?_
    refine r_aload_n hJ dL_law_92 rfl jg1 ?_
    refine r_iconst hJ (v := nI 0) dL_law_93 (by decide) ?_
    refine r_iconst hJ (v := nI 0) dL_law_94 (by decide) ?_
    refine r_V2v hJ kL_88 (rcv4 E) (csp) dL_law_95 ⟨by decide, by decide⟩ (Nat.le_of_ble_eq_true rfl) ?_
    refine r_istore hJ dL_law_98 (jp6 rfl rfl) ?_
    refine r_aload_n hJ dL_law_100 rfl jg1 ?_
    refine r_bipush hJ (v := nI 12) dL_law_101 (by decide) ?_
    refine r_V1v hJ kL_73 (rcv4 E) (ccn) dL_law_103 ⟨by decide, by decide⟩ (Nat.le_of_ble_eq_true rfl) ?_
    refine r_istore hJ dL_law_106 (jp7 rfl rfl) ?_
    refine r_iconst hJ (v := nI 0) dL_law_108 (by decide) ?_
    refine r_istore hJ dL_law_109 (jp8 rfl rfl) ?_
    refine r_iload hJ dL_law_111 jg5 ?_
    refine r_bipush hJ (v := nI 9) dL_law_113 (by decide) ?_
    refine r_icmp_ne_t hJ (tgt := 127) (fun w => q9 ((nI_eq (by omega) (by omega)).mp w)) dL_law_115 (by decide) ?_
    refine r_iload hJ dL_law_127 jg5 ?_
    refine r_bipush hJ (v := nI 10) dL_law_129 (by decide) ?_
    refine r_icmp_ne_f hJ (tgt := 172) (rfl) dL_law_131 (by decide) ?_
    refine r_aload_n hJ dL_law_134 rfl jg1 ?_
    refine r_aload_n hJ dL_law_135 rfl jg0 ?_
    refine r_iconst hJ (v := nI 4) dL_law_136 (by decide) ?_
    refine r_iload hJ dL_law_137 jg4 ?_
    refine r_imulN hJ dL_law_139 ?_
    refine r_iconst hJ (v := nI 1) dL_law_140 (by decide) ?_
    refine r_iaddN hJ dL_law_141 ?_
    refine r_S2v hJ kL_41 (c1) dL_law_142 ⟨by decide, by decide⟩ (Nat.le_of_ble_eq_true rfl) ?_
    refine r_iconst hJ (v := nI 3) dL_law_145 (by decide) ?_
    refine r_S2v hJ kL_47 (la) dL_law_146 ⟨by decide, by decide⟩ (Nat.le_of_ble_eq_true rfl) ?_
    refine r_aload_n hJ dL_law_149 rfl jg0 ?_
    refine r_iconst hJ (v := nI 4) dL_law_150 (by decide) ?_
    refine r_iload hJ dL_law_151 jg4 ?_
    refine r_imulN hJ dL_law_153 ?_
    refine r_iconst hJ (v := nI 2) dL_law_154 (by decide) ?_
    refine r_iaddN hJ dL_law_155 ?_
    refine r_S2v hJ kL_41 (c2) dL_law_156 ⟨by decide, by decide⟩ (Nat.le_of_ble_eq_true rfl) ?_
    refine r_bipush hJ (v := nI 8) dL_law_159 (by decide) ?_
    refine r_S2v hJ kL_47 (lb) dL_law_161 ⟨by decide, by decide⟩ (Nat.le_of_ble_eq_true rfl) ?_
    refine r_H3 hJ kLH_94 ct dL_law_164 ⟨by decide, by decide⟩ (Nat.le_of_ble_eq_true rfl) (fun _ => by show n' ≤ 0 + 100; omega) ?_
    refine r_istore hJ dL_law_167 (jp8 rfl rfl) ?_
    refine r_goto hJ (tgt := 270) dL_law_169 (by decide) ?_
    exact r_fgt hJ (lless_s (lless_s (lless_s (lless_s (lless_s (lless_n (lless_n (lless_s (lless_s (lless_s lless_0)))))))))) (law_tail hJ hD.2.2.1 (by omega) hD.2.2.2 (fun S2 h2 => next S2 K' n' h2 (by omega)))
  by_cases q11 : q = 11
  · subst q11
    obtain ⟨a, ha, la⟩ := c_low l E (S, (K, (o, n))) v1 (n := 8) (by decide) (by decide)
    obtain ⟨b, hb, lb⟩ := c_low l E (S, (K, (o, n))) v2 (n := 40) (by decide) (by decide)
    obtain ⟨v, S', K', n', hD, hc, ct⟩ := o_take (E := E) (o := o) (n := n) hst hi hI (h := a) (u := 1 + b) ha (by omega) (by omega) hz hz6
    have hn1 := hD.2.1
    rcases hc with ⟨rfl, hS, hK⟩ | ⟨fr, hl, rfl, rfl, rfl, hnn⟩
    · refine r_iload hJ dL_law_67 jg4 ?_
      refine r_iload_n hJ dL_law_69 rfl jg3 ?_
      refine r_icmp_ge_f hJ (tgt := 323) (nI_ge hk (by omega)) dL_law_70 (by decide) ?_
      refine r_iload_n hJ dL_law_73 rfl jg2 ?_
      refine r_if_eq_f hJ (tgt := 323) (by decide) dL_law_74 (by decide) ?_
      refine r_aload_n hJ dL_law_77 rfl jg0 ?_
      refine r_iconst hJ (v := nI 4) dL_law_78 (by decide) ?_
      refine r_iload hJ dL_law_79 jg4 ?_
      refine r_imulN hJ dL_law_81 ?_
      refine r_S2v hJ kL_41 (c0) dL_law_82 ⟨by decide, by decide⟩ (Nat.le_of_ble_eq_true rfl) ?_
      refine r_bipush hJ (v := nI 12) dL_law_85 (by decide) ?_
      refine r_S2v hJ kL_47 (l0) dL_law_87 ⟨by decide, by decide⟩ (Nat.le_of_ble_eq_true rfl) ?_
      refine r_istore hJ dL_law_90 (jp5 rfl rfl) ?_
      refine r_aload_n hJ dL_law_92 rfl jg1 ?_
      refine r_iconst hJ (v := nI 0) dL_law_93 (by decide) ?_
      refine r_iconst hJ (v := nI 0) dL_law_94 (by decide) ?_
      refine r_V2v hJ kL_88 (rcv4 E) (csp) dL_law_95 ⟨by decide, by decide⟩ (Nat.le_of_ble_eq_true rfl) ?_
      refine r_istore hJ dL_law_98 (jp6 rfl rfl) ?_
      refine r_aload_n hJ dL_law_100 rfl jg1 ?_
      refine r_bipush hJ (v := nI 12) dL_law_101 (by decide) ?_
      refine r_V1v hJ kL_73 (rcv4 E) (ccn) dL_law_103 ⟨by decide, by decide⟩ (Nat.le_of_ble_eq_true rfl) ?_
      refine r_istore hJ dL_law_106 (jp7 rfl rfl) ?_
      refine r_iconst hJ (v := nI 0) dL_law_108 (by decide) ?_
      refine r_istore hJ dL_law_109 (jp8 rfl rfl) ?_
      refine r_iload hJ dL_law_111 jg5 ?_
      refine r_bipush hJ (v := nI 9) dL_law_113 (by decide) ?_
      refine r_icmp_ne_t hJ (tgt := 127) (fun w => q9 ((nI_eq (by omega) (by omega)).mp w)) dL_law_115 (by decide) ?_
      refine r_iload hJ dL_law_127 jg5 ?_
      refine r_bipush hJ (v := nI 10) dL_law_129 (by decide) ?_
      refine r_icmp_ne_t hJ (tgt := 172) (fun w => q10 ((nI_eq (by omega) (by omega)).mp w)) dL_law_131 (by decide) ?_
      refine r_iload hJ dL_law_172 jg5 ?_
      refine r_bipush hJ (v := nI 11) dL_law_174 (by decide) ?_
      refine r_icmp_ne_f hJ (tgt := 259) (rfl) dL_law_176 (by decide) ?_
      refine r_aload_n hJ dL_law_179 rfl jg1 ?_
      refine r_iconst hJ (v := nI 1) dL_law_180 (by decide) ?_
      refine r_V1v hJ kL_73 (rcv4 E) (cb) dL_law_181 ⟨by decide, by decide⟩ (Nat.le_of_ble_eq_true rfl) ?_
      refine r_istore hJ dL_law_184 (jp9 rfl rfl) ?_
      refine r_aload_n hJ dL_law_186 rfl jg1 ?_
      refine r_aload_n hJ dL_law_187 rfl jg0 ?_
      refine r_iconst hJ (v := nI 4) dL_law_188 (by decide) ?_
      refine r_iload hJ dL_law_189 jg4 ?_
      refine r_imulN hJ dL_law_191 ?_
      refine r_iconst hJ (v := nI 1) dL_law_192 (by decide) ?_
      refine r_iaddN hJ dL_law_193 ?_
      refine r_S2v hJ kL_41 (c1) dL_law_194 ⟨by decide, by decide⟩ (Nat.le_of_ble_eq_true rfl) ?_
      refine r_bipush hJ (v := nI 8) dL_law_197 (by decide) ?_
      refine r_S2v hJ kL_47 (la) dL_law_199 ⟨by decide, by decide⟩ (Nat.le_of_ble_eq_true rfl) ?_
      refine r_iconst hJ (v := nI 1) dL_law_202 (by decide) ?_
      refine r_aload_n hJ dL_law_203 rfl jg0 ?_
      refine r_iconst hJ (v := nI 4) dL_law_204 (by decide) ?_
      refine r_iload hJ dL_law_205 jg4 ?_
      refine r_imulN hJ dL_law_207 ?_
      refine r_iconst hJ (v := nI 2) dL_law_208 (by decide) ?_
      refine r_iaddN hJ dL_law_209 ?_
      refine r_S2v hJ kL_41 (c2) dL_law_210 ⟨by decide, by decide⟩ (Nat.le_of_ble_eq_true rfl) ?_
      refine r_bipush hJ (v := nI 40) dL_law_213 (by decide) ?_
      refine r_S2v hJ kL_47 (lb) dL_law_215 ⟨by decide, by decide⟩ (Nat.le_of_ble_eq_true rfl) ?_
      refine r_iaddN hJ dL_law_218 ?_
      refine r_H3 hJ kLH_50 ct dL_law_219 ⟨by decide, by decide⟩ (Nat.le_of_ble_eq_true rfl) (fun _ => by show n' ≤ 0 + 100; omega) ?_
      refine r_istore hJ dL_law_222 (jp8 rfl rfl) ?_
      refine r_iload hJ dL_law_224 jg8 ?_
      refine r_bipush hJ (v := (-3)) dL_law_226 (by decide) ?_
      refine r_icmp_eq_t hJ (tgt := 250) (rfl) dL_law_228 (by decide) ?_
      refine r_iconst hJ (v := nI 1) dL_law_250 (by decide) ?_
      refine r_goto hJ (tgt := 255) dL_law_251 (by decide) ?_
      refine r_istore_n hJ dL_law_255 rfl (jp2 rfl rfl) ?_
      refine r_goto hJ (tgt := 270) dL_law_256 (by decide) ?_
      exact r_fgt hJ (lless_s (lless_s (lless_s (lless_s (lless_s (lless_n (lless_n (lless_s (lless_s (lless_n lless_0)))))))))) (law_tail hJ hD.2.2.1 (by omega) hD.2.2.2 (fun S2 h2 => next S2 K' n' h2 (by omega)))
    · obtain ⟨x1, x2, lf⟩ := low_first hz6 hl
      have hz' : setO (kpS S K) 0 (leaseRowP (S 0) z a 1 (nI (1 + b))) 0 1 3 = nI z := by
        rw [setO_at, r1_leaseRow]
        exact hz
      have ca := c4_count l E (setO (kpS S K) 0 (leaseRowP (S 0) z a 1 (nI (1 + b)))) (kpK S K) (o, n') hz' hz6 (q := 1) (by decide)
      have eca : cntA (setO (kpS S K) 0 (leaseRowP (S 0) z a 1 (nI (1 + b)))) z 1 = nI (cS (leaseRowP (S 0) z a 1 (nI (1 + b))) 0 z) := by
        show nI (cS (setO (kpS S K) 0 (leaseRowP (S 0) z a 1 (nI (1 + b))) 0) 0 z) = _
        rw [setO_at]
      rw [eca] at ca
      have hcnt : cntA S z 1 = nI (cS (leaseRowP (S 0) z a 1 (nI (1 + b))) 0 z + 1) := congrArg nI (take_free (P := S 0) (h := a) (u := nI (1 + b)) ha hz6 hl)
      have hcl : cS (leaseRowP (S 0) z a 1 (nI (1 + b))) 0 z ≤ z := cnt_le _ _
      refine r_iload hJ dL_law_67 jg4 ?_
      refine r_iload_n hJ dL_law_69 rfl jg3 ?_
      refine r_icmp_ge_f hJ (tgt := 323) (nI_ge hk (by omega)) dL_law_70 (by decide) ?_
      refine r_iload_n hJ dL_law_73 rfl jg2 ?_
      refine r_if_eq_f hJ (tgt := 323) (by decide) dL_law_74 (by decide) ?_
      refine r_aload_n hJ dL_law_77 rfl jg0 ?_
      refine r_iconst hJ (v := nI 4) dL_law_78 (by decide) ?_
      refine r_iload hJ dL_law_79 jg4 ?_
      refine r_imulN hJ dL_law_81 ?_
      refine r_S2v hJ kL_41 (c0) dL_law_82 ⟨by decide, by decide⟩ (Nat.le_of_ble_eq_true rfl) ?_
      refine r_bipush hJ (v := nI 12) dL_law_85 (by decide) ?_
      refine r_S2v hJ kL_47 (l0) dL_law_87 ⟨by decide, by decide⟩ (Nat.le_of_ble_eq_true rfl) ?_
      refine r_istore hJ dL_law_90 (jp5 rfl rfl) ?_
      refine r_aload_n hJ dL_law_92 rfl jg1 ?_
      refine r_iconst hJ (v := nI 0) dL_law_93 (by decide) ?_
      refine r_iconst hJ (v := nI 0) dL_law_94 (by decide) ?_
      refine r_V2v hJ kL_88 (rcv4 E) (csp) dL_law_95 ⟨by decide, by decide⟩ (Nat.le_of_ble_eq_true rfl) ?_
      refine r_istore hJ dL_law_98 (jp6 rfl rfl) ?_
      refine r_aload_n hJ dL_law_100 rfl jg1 ?_
      refine r_bipush hJ (v := nI 12) dL_law_101 (by decide) ?_
      refine r_V1v hJ kL_73 (rcv4 E) (ccn) dL_law_103 ⟨by decide, by decide⟩ (Nat.le_of_ble_eq_true rfl) ?_
      refine r_istore hJ dL_law_106 (jp7 rfl rfl) ?_
      refine r_iconst hJ (v := nI 0) dL_law_108 (by decide) ?_
      refine r_istore hJ dL_law_109 (jp8 rfl rfl) ?_
      refine r_iload hJ dL_law_111 jg5 ?_
      refine r_bipush hJ (v := nI 9) dL_law_113 (by decide) ?_
      refine r_icmp_ne_t hJ (tgt := 127) (fun w => q9 ((nI_eq (by omega) (by omega)).mp w)) dL_law_115 (by decide) ?_
      refine r_iload hJ dL_law_127 jg5 ?_
      refine r_bipush hJ (v := nI 10) dL_law_129 (by decide) ?_
      refine r_icmp_ne_t hJ (tgt := 172) (fun w => q10 ((nI_eq (by omega) (by omega)).mp w)) dL_law_131 (by decide) ?_
      refine r_iload hJ dL_law_172 jg5 ?_
      refine r_bipush hJ (v := nI 11) dL_law_174 (by decide) ?_
      refine r_icmp_ne_f hJ (tgt := 259) (rfl) dL_law_176 (by decide) ?_
      refine r_aload_n hJ dL_law_179 rfl jg1 ?_
      refine r_iconst hJ (v := nI 1) dL_law_180 (by decide) ?_
      refine r_V1v hJ kL_73 (rcv4 E) (cb) dL_law_181 ⟨by decide, by decide⟩ (Nat.le_of_ble_eq_true rfl) ?_
      refine r_istore hJ dL_law_184 (jp9 rfl rfl) ?_
      refine r_aload_n hJ dL_law_186 rfl jg1 ?_
      refine r_aload_n hJ dL_law_187 rfl jg0 ?_
      refine r_iconst hJ (v := nI 4) dL_law_188 (by decide) ?_
      refine r_iload hJ dL_law_189 jg4 ?_
      refine r_imulN hJ dL_law_191 ?_
      refine r_iconst hJ (v := nI 1) dL_law_192 (by decide) ?_
      refine r_iaddN hJ dL_law_193 ?_
      refine r_S2v hJ kL_41 (c1) dL_law_194 ⟨by decide, by decide⟩ (Nat.le_of_ble_eq_true rfl) ?_
      refine r_bipush hJ (v := nI 8) dL_law_197 (by decide) ?_
      refine r_S2v hJ kL_47 (la) dL_law_199 ⟨by decide, by decide⟩ (Nat.le_of_ble_eq_true rfl) ?_
      refine r_iconst hJ (v := nI 1) dL_law_202 (by decide) ?_
      refine r_aload_n hJ dL_law_203 rfl jg0 ?_
      refine r_iconst hJ (v := nI 4) dL_law_204 (by decide) ?_
      refine r_iload hJ dL_law_205 jg4 ?_
      refine r_imulN hJ dL_law_207 ?_
      refine r_iconst hJ (v := nI 2) dL_law_208 (by decide) ?_
      refine r_iaddN hJ dL_law_209 ?_
      refine r_S2v hJ kL_41 (c2) dL_law_210 ⟨by decide, by decide⟩ (Nat.le_of_ble_eq_true rfl) ?_
      refine r_bipush hJ (v := nI 40) dL_law_213 (by decide) ?_
      refine r_S2v hJ kL_47 (lb) dL_law_215 ⟨by decide, by decide⟩ (Nat.le_of_ble_eq_true rfl) ?_
      refine r_iaddN hJ dL_law_218 ?_
      refine r_H3 hJ kLH_50 ct dL_law_219 ⟨by decide, by decide⟩ (Nat.le_of_ble_eq_true rfl) (fun _ => by show n' ≤ 0 + 100; omega) ?_
      refine r_istore hJ dL_law_222 (jp8 rfl rfl) ?_
      refine r_iload hJ dL_law_224 jg8 ?_
      refine r_bipush hJ (v := (-3)) dL_law_226 (by decide) ?_
      refine r_icmp_eq_f hJ (tgt := 250) (nI_m3 (by omega)) dL_law_228 (by decide) ?_
      refine r_iload hJ dL_law_231 jg8 ?_
      refine r_iload hJ dL_law_233 jg6 ?_
      refine r_icmp_ne_f hJ (tgt := 254) (lf.symm) dL_law_235 (by decide) ?_
      refine r_aload_n hJ dL_law_238 rfl jg1 ?_
      refine r_iconst hJ (v := nI 1) dL_law_239 (by decide) ?_
      refine r_V1v hJ kL_73 (rcv4 E) (ca) dL_law_240 ⟨by decide, by decide⟩ (Nat.le_of_ble_eq_true rfl) ?_
      refine r_iload hJ dL_law_243 jg9 ?_
      refine r_iconst hJ (v := nI 1) dL_law_245 (by decide) ?_
      refine r_isub hJ dL_law_246 ?_
      rw [hcnt, pk_sub (by omega)]
      refine r_icmp_ne_f hJ (tgt := 254) (rfl) dL_law_247 (by decide) ?_
      refine r_iconst hJ (v := nI 1) dL_law_250 (by decide) ?_
      refine r_goto hJ (tgt := 255) dL_law_251 (by decide) ?_
      refine r_istore_n hJ dL_law_255 rfl (jp2 rfl rfl) ?_
      refine r_goto hJ (tgt := 270) dL_law_256 (by decide) ?_
      exact r_fgt hJ (lless_s (lless_s (lless_s (lless_s (lless_s (lless_n (lless_n (lless_s (lless_s (lless_n lless_0)))))))))) (law_tail hJ hD.2.2.1 (by omega) hD.2.2.2 (fun S2 h2 => next S2 (kpK S K) n' h2 (by omega)))
  · obtain ⟨v, S', K', n', hD, ct⟩ := c_act (E := E) (o := o) (n := n) hst hi hI (k := 4 * k) (by omega)
    have hn1 := hD.2.1
    refine r_iload hJ dL_law_67 jg4 ?_
    refine r_iload_n hJ dL_law_69 rfl jg3 ?_
    refine r_icmp_ge_f hJ (tgt := 323) (nI_ge hk (by omega)) dL_law_70 (by decide) ?_
    refine r_iload_n hJ dL_law_73 rfl jg2 ?_
    refine r_if_eq_f hJ (tgt := 323) (by decide) dL_law_74 (by decide) ?_
    refine r_aload_n hJ dL_law_77 rfl jg0 ?_
    refine r_iconst hJ (v := nI 4) dL_law_78 (by decide) ?_
    refine r_iload hJ dL_law_79 jg4 ?_
    refine r_imulN hJ dL_law_81 ?_
    refine r_S2v hJ kL_41 (c0) dL_law_82 ⟨by decide, by decide⟩ (Nat.le_of_ble_eq_true rfl) ?_
    refine r_bipush hJ (v := nI 12) dL_law_85 (by decide) ?_
    refine r_S2v hJ kL_47 (l0) dL_law_87 ⟨by decide, by decide⟩ (Nat.le_of_ble_eq_true rfl) ?_
    refine r_istore hJ dL_law_90 (jp5 rfl rfl) ?_
    refine r_aload_n hJ dL_law_92 rfl jg1 ?_
    refine r_iconst hJ (v := nI 0) dL_law_93 (by decide) ?_
    refine r_iconst hJ (v := nI 0) dL_law_94 (by decide) ?_
    refine r_V2v hJ kL_88 (rcv4 E) (csp) dL_law_95 ⟨by decide, by decide⟩ (Nat.le_of_ble_eq_true rfl) ?_
    refine r_istore hJ dL_law_98 (jp6 rfl rfl) ?_
    refine r_aload_n hJ dL_law_100 rfl jg1 ?_
    refine r_bipush hJ (v := nI 12) dL_law_101 (by decide) ?_
    refine r_V1v hJ kL_73 (rcv4 E) (ccn) dL_law_103 ⟨by decide, by decide⟩ (Nat.le_of_ble_eq_true rfl) ?_
    refine r_istore hJ dL_law_106 (jp7 rfl rfl) ?_
    refine r_iconst hJ (v := nI 0) dL_law_108 (by decide) ?_
    refine r_istore hJ dL_law_109 (jp8 rfl rfl) ?_
    refine r_iload hJ dL_law_111 jg5 ?_
    refine r_bipush hJ (v := nI 9) dL_law_113 (by decide) ?_
    refine r_icmp_ne_t hJ (tgt := 127) (fun w => q9 ((nI_eq (by omega) (by omega)).mp w)) dL_law_115 (by decide) ?_
    refine r_iload hJ dL_law_127 jg5 ?_
    refine r_bipush hJ (v := nI 10) dL_law_129 (by decide) ?_
    refine r_icmp_ne_t hJ (tgt := 172) (fun w => q10 ((nI_eq (by omega) (by omega)).mp w)) dL_law_131 (by decide) ?_
    refine r_iload hJ dL_law_172 jg5 ?_
    refine r_bipush hJ (v := nI 11) dL_law_174 (by decide) ?_
    refine r_icmp_ne_t hJ (tgt := 259) (fun w => q11 ((nI_eq (by omega) (by omega)).mp w)) dL_law_176 (by decide) ?_
    refine r_aload_n hJ dL_law_259 rfl jg1 ?_
    refine r_aload_n hJ dL_law_260 rfl jg0 ?_
    refine r_iconst hJ (v := nI 4) dL_law_261 (by decide) ?_
    refine r_iload hJ dL_law_262 jg4 ?_
    refine r_imulN hJ dL_law_264 ?_
    refine r_S3g hJ kL_99 ct dL_law_265 ⟨by decide, by decide⟩ (Nat.le_of_ble_eq_true rfl) (fun _ => by show n' ≤ 0 + 100; omega) ?_
    refine r_istore hJ dL_law_268 (jp8 rfl rfl) ?_
    exact r_fgt hJ (lless_s (lless_s (lless_s (lless_s (lless_s (lless_n (lless_n (lless_s (lless_s (lless_s lless_0)))))))))) (law_tail hJ hD.2.2.1 (by omega) hD.2.2.2 (fun S2 h2 => next S2 K' n' h2 (by omega)))

theorem law_loop (hst : l.stackTraces = false) (hJ : jR l E RL cL_law 10 12 0 100 J) (hret : ∀ (G : jG) (pc : Nat) (L : List (Option Value)), decode cL_law pc = .ok (.ireturn, 1) → J G pc L [.int (nI 1)]) {T : Nat} (hT : T ≤ 26) :
    ∀ (r : Nat) (S : jS) (K : Nat → Nat) (o : Int64) (n k : Nat), T ≤ k + r → k ≤ 27 → n ≤ k + 1 → INV S K (k + 1) → J (S, (K, (o, n))) 67 [some (.ref (sB E)), some (.ref (ad E 11 0)), some (.int (nI 1)), some (.int (nI T)), some (.int (nI k)), none, none, none, none, none] [] := by
  have exit : ∀ (S : jS) (K : Nat → Nat) (o : Int64) (n k : Nat), T ≤ k → k ≤ 27 → J (S, (K, (o, n))) 67 [some (.ref (sB E)), some (.ref (ad E 11 0)), some (.int (nI 1)), some (.int (nI T)), some (.int (nI k)), none, none, none, none, none] [] := by
    intro S K o n k hTk hk
    refine r_iload hJ dL_law_67 jg4 ?_
    refine r_iload_n hJ dL_law_69 rfl jg3 ?_
    refine r_icmp_ge_t hJ (tgt := 323) (nI_le hTk (by omega)) dL_law_70 (by decide) ?_
    refine r_iload_n hJ dL_law_323 rfl jg2 ?_
    exact hret _ _ _ dL_law_324
  intro r
  induction r with
  | zero =>
    intro S K o n k h1 h2 h3 hI
    exact exit S K o n k (by omega) h2
  | succ r ih =>
    intro S K o n k h1 h2 h3 hI
    rcases Nat.lt_or_ge k T with q | q
    · exact law_step hst hJ hI (by omega) q hT (by omega) (fun S' K' n' x y => ih S' K' o n' (k + 1) (by omega) (by omega) (by omega) x)
    · exact exit S K o n k q h2

theorem law_pre (hst : l.stackTraces = false) (hJ : jR l E RL cL_law 10 12 0 100 J) (hret : ∀ (G : jG) (pc : Nat) (L : List (Option Value)), decode cL_law pc = .ok (.ireturn, 1) → J G pc L [.int (nI 1)]) {o : Int64} : J (S0, (K0, (o, 0))) 8 [some (.ref (sB E)), some (.ref (ad E 11 0)), none, none, none, none, none, none, none, none] [] := by
  have hL5 := jR_L hJ
  obtain ⟨v0, c0⟩ := c_cell l E (S0, (K0, (o, 0))) (k := 0) (by decide)
  obtain ⟨a, ha, l0⟩ := c_low l E (S0, (K0, (o, 0))) v0 (n := 9) (by decide) (by decide)
  obtain ⟨hI1, ct3⟩ := o_size (l := l) (E := E) (o := o) (n := 0) INV_0 (r := 4 + a) (by omega) (by omega) (fun n hn => pool0_2 hn)
  generalize setO (kpS S0 K0) 0 (put (S0 0) 1 3 (nI (4 + a))) = S1 at hI1 ct3
  generalize kpK S0 K0 = K1 at hI1 ct3
  obtain ⟨v1, c1⟩ := c_cell l E (S1, (K1, (o, 0))) (k := 1) (by decide)
  obtain ⟨b, hb, l1⟩ := c_low l E (S1, (K1, (o, 0))) v1 (n := 5) (by decide) (by decide)
  obtain ⟨v, S2, K2, n1, hD, ct⟩ := o_set (l := l) (E := E) (o := o) (n := 0) hst hI1 (q := 1) (r := 1 + b) (by decide) (by omega)
  have hn1 := hD.2.1
  obtain ⟨T, hT⟩ : ∃ T, T = if sL E / 4 ≤ 26 then sL E / 4 else 26 := ⟨_, rfl⟩
  have hT26 : T ≤ 26 := by
    rw [hT]
    split <;> omega
  have lp := law_loop hst hJ hret hT26 26 S2 K2 o n1 1 (by omega) (by omega) (by omega) hD.2.2.1
  have tail : J (S2, (K2, (o, n1))) 63 [some (.ref (sB E)), some (.ref (ad E 11 0)), some (.int (nI 1)), none, none, none, none, none, none, none] [.int (nI T)] := by
    refine r_istore_n hJ dL_law_63 rfl (jp3 rfl rfl) ?_
    refine r_iconst hJ (v := nI 1) dL_law_64 (by decide) ?_
    refine r_istore hJ dL_law_65 (jp4 rfl rfl) ?_
    exact lp
  refine r_aload_n hJ dL_law_8 rfl jg1 ?_
  refine r_iconst hJ (v := nI 3) dL_law_9 (by decide) ?_
  refine r_iconst hJ (v := nI 4) dL_law_10 (by decide) ?_
  refine r_aload_n hJ dL_law_11 rfl jg0 ?_
  refine r_iconst hJ (v := nI 0) dL_law_12 (by decide) ?_
  refine r_S2v hJ kL_41 (c0) dL_law_13 ⟨by decide, by decide⟩ (Nat.le_of_ble_eq_true rfl) ?_
  refine r_bipush hJ (v := nI 9) dL_law_16 (by decide) ?_
  refine r_S2v hJ kL_47 (l0) dL_law_18 ⟨by decide, by decide⟩ (Nat.le_of_ble_eq_true rfl) ?_
  refine r_iaddN hJ dL_law_21 ?_
  refine r_H3 hJ kLH_94 ct3 dL_law_22 ⟨by decide, by decide⟩ (Nat.le_of_ble_eq_true rfl) (fun _ => by show 0 ≤ 0 + 100; omega) ?_
  refine r_pop hJ dL_law_25 rfl ?_
  refine r_aload_n hJ dL_law_26 rfl jg1 ?_
  refine r_iconst hJ (v := nI 1) dL_law_27 (by decide) ?_
  refine r_iconst hJ (v := nI 1) dL_law_28 (by decide) ?_
  refine r_aload_n hJ dL_law_29 rfl jg0 ?_
  refine r_iconst hJ (v := nI 1) dL_law_30 (by decide) ?_
  refine r_S2v hJ kL_41 (c1) dL_law_31 ⟨by decide, by decide⟩ (Nat.le_of_ble_eq_true rfl) ?_
  refine r_iconst hJ (v := nI 5) dL_law_34 (by decide) ?_
  refine r_S2v hJ kL_47 (l1) dL_law_35 ⟨by decide, by decide⟩ (Nat.le_of_ble_eq_true rfl) ?_
  refine r_iaddN hJ dL_law_38 ?_
  refine r_H3 hJ kLH_94 ct dL_law_39 ⟨by decide, by decide⟩ (Nat.le_of_ble_eq_true rfl) (fun _ => by show n1 ≤ 0 + 100; omega) ?_
  refine r_pop hJ dL_law_42 rfl ?_
  refine r_iconst hJ (v := nI 1) dL_law_43 (by decide) ?_
  refine r_istore_n hJ dL_law_44 rfl (jp2 rfl rfl) ?_
  refine r_aload_n hJ dL_law_45 rfl jg0 ?_
  refine r_slen hJ dL_law_46 ?_
  refine r_iconst hJ (v := nI 4) dL_law_47 (by decide) ?_
  refine r_idiv hJ (by omega) (by decide) (by decide) dL_law_48 ?_
  refine r_bipush hJ (v := nI 26) dL_law_49 (by decide) ?_
  refine r_icmp_le hJ (tgt := 59) dL_law_51 (by decide) (fun c51 => ?_) (fun c51 => ?_)
  · have e : T = sL E / 4 := by
      rw [nI_leI (by omega) (by decide)] at c51
      rw [hT, if_pos c51]
    rw [e] at tail
    refine r_aload_n hJ dL_law_59 rfl jg0 ?_
    refine r_slen hJ dL_law_60 ?_
    refine r_iconst hJ (v := nI 4) dL_law_61 (by decide) ?_
    refine r_idiv hJ (by omega) (by decide) (by decide) dL_law_62 ?_
    exact tail
  · have e : T = 26 := by
      rw [nI_leI (by omega) (by decide)] at c51
      rw [hT, if_neg c51]
    rw [e] at tail
    refine r_bipush hJ (v := nI 26) dL_law_54 (by decide) ?_
    refine r_goto hJ (tgt := 63) dL_law_56 (by decide) ?_
    exact tail
end LOOP
