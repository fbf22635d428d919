/-! THE LAW'S LOOP -/
section LOOP
variable {l : Launch} {E : jE} {b Ls : Nat} {xs : Nat → Int32} {J : jT}
theorem law_step (hst : l.stackTraces = false) (hJ : jRX l E RL cL_law 9 12 0 512 b Ls xs J) (hret : ∀ (G : jG) (pc : Nat) (L : List (Option Value)), decode cL_law pc = .ok (.ireturn, 1) → J G pc L [.int 1]) (hL : Ls ≤ 2048) {S : jS} {K : Nat → Nat} {o : Int64} {n i : Nat} (hc : COUP S K (400000 * i)) (hn : n ≤ i)
    (hnext : 4 * i + 4 ≤ Ls → ∀ (S' : jS) (K' : Nat → Nat) (o' : Int64) (n' : Nat) (a5 a6 a7 a8 : Option Value), COUP S' K' (400000 * i + 400000) → n ≤ n' → n' ≤ n + 1 → J (S', (K', (o', n'))) 23 (lawL E b (i + 1) a5 a6 a7 a8) []) (a5 a6 a7 a8 : Option Value) (hi4 : 4 * i ≤ 4096) : J (S, (K, (o, n))) 23 (lawL E b i a5 a6 a7 a8) [] := by
  have hJr := hJ.r
  refine r_iload hJr dL_law_23 jg4 ?_
  refine r_aload_n hJr dL_law_25 rfl jg0 ?_
  refine r_slen hJ dL_law_26 ?_
  refine r_iconst hJr (v := nI 4) dL_law_27 (by decide) ?_
  refine r_isub hJr dL_law_28 ?_
  refine r_icmp_gt hJr (tgt := 1497) dL_law_29 (by decide) (fun _ => ?_) (fun c => ?_)
  · refine r_iconst hJr (v := 1) dL_law_1497 (by decide) ?_
    exact hret _ _ _ dL_law_1498
  have h4 : 4 * i + 4 ≤ Ls := by
    rw [Int32.lt_iff_toInt_lt, pk_sub_toInt (by omega) (by omega), nI_toInt (by omega)] at c
    omega
  have hK : lawK E J b i n (400000 * i) := by
    intro S' K' o' n' a5 a6 a7 a8 hC hn1 hn2
    refine r_iinc hJr dL_law_1491 jg4 (show nI (4 * i) + Int32.ofInt 4 = nI (4 * (i + 1)) from nI_add (4 * i) 4) (jp4 rfl rfl) ?_
    refine r_goto hJr (tgt := 23) dL_law_1494 (by decide) ?_
    exact hnext h4 S' K' o' n' a5 a6 a7 a8 hC hn1 hn2
  refine r_aload_n hJr dL_law_32 rfl jg0 ?_
  refine r_iload hJr dL_law_33 jg4 ?_
  refine r_sld hJ (by omega) (by omega) dL_law_35 ?_
  refine r_bipush hJr (v := 31) dL_law_36 (by decide) ?_
  refine r_iand hJr dL_law_38 ?_
  obtain ⟨k, hk, e⟩ := pk_andE (xs (4 * i)) (m := 31) 5 (by decide)
  rw [e]
  by_cases h0 : k = 0
  · subst h0
    refine r_tableIn hJr (off := 113) (tgt := 152) dL_law_39 (by decide) (by decide) (by decide +kernel) (by decide) ?_
    exact q_take hJ hst hc (by omega) (by omega) (by omega) hK a5 a6 a7 a8
  by_cases h1 : k = 1
  · subst h1
    refine r_tableIn hJr (off := 181) (tgt := 220) dL_law_39 (by decide) (by decide) (by decide +kernel) (by decide) ?_
    exact q_takeSpan hJ hst hc (by omega) (by omega) (by omega) hK a5 a6 a7 a8
  by_cases h2 : k = 2
  · subst h2
    refine r_tableIn hJr (off := 261) (tgt := 300) dL_law_39 (by decide) (by decide) (by decide +kernel) (by decide) ?_
    exact q_wish hJ hst hc (by omega) (by omega) (by omega) hK a5 a6 a7 a8
  by_cases h3 : k = 3
  · subst h3
    refine r_tableIn hJr (off := 341) (tgt := 380) dL_law_39 (by decide) (by decide) (by decide +kernel) (by decide) ?_
    exact q_unwish hJ hst hc (by omega) (by omega) (by omega) hK a5 a6 a7 a8
  by_cases h4 : k = 4
  · subst h4
    refine r_tableIn hJr (off := 409) (tgt := 448) dL_law_39 (by decide) (by decide) (by decide +kernel) (by decide) ?_
    exact q_renew hJ hst hc (by omega) (by omega) (by omega) hK a5 a6 a7 a8
  by_cases h5 : k = 5
  · subst h5
    refine r_tableIn hJr (off := 489) (tgt := 528) dL_law_39 (by decide) (by decide) (by decide +kernel) (by decide) ?_
    exact q_giveBack hJ hst hc (by omega) (by omega) (by omega) hK a5 a6 a7 a8
  by_cases h6 : k = 6
  · subst h6
    refine r_tableIn hJr (off := 569) (tgt := 608) dL_law_39 (by decide) (by decide) (by decide +kernel) (by decide) ?_
    exact q_pass hJ hst hc (by omega) (by omega) (by omega) hK a5 a6 a7 a8
  by_cases h7 : k = 7
  · subst h7
    refine r_tableIn hJr (off := 625) (tgt := 664) dL_law_39 (by decide) (by decide) (by decide +kernel) (by decide) ?_
    exact q_set hJ hst hc (by omega) (by omega) (by omega) hK a5 a6 a7 a8
  by_cases h8 : k = 8
  · subst h8
    refine r_tableIn hJr (off := 693) (tgt := 732) dL_law_39 (by decide) (by decide) (by decide +kernel) (by decide) ?_
    exact q_append hJ hst hc (by omega) (by omega) (by omega) hK a5 a6 a7 a8
  by_cases h9 : k = 9
  · subst h9
    refine r_tableIn hJr (off := 749) (tgt := 788) dL_law_39 (by decide) (by decide) (by decide +kernel) (by decide) ?_
    exact q_clearBuffer hJ hc (by omega) hK a5 a6 a7 a8
  by_cases h10 : k = 10
  · subst h10
    refine r_tableIn hJr (off := 762) (tgt := 801) dL_law_39 (by decide) (by decide) (by decide +kernel) (by decide) ?_
    exact q_firstError hJ hc (by omega) hK a5 a6 a7 a8
  by_cases h11 : k = 11
  · subst h11
    refine r_tableIn hJr (off := 775) (tgt := 814) dL_law_39 (by decide) (by decide) (by decide +kernel) (by decide) ?_
    exact q_run hJ hst hc (by omega) hK a5 a6 a7 a8
  by_cases h12 : k = 12
  · subst h12
    refine r_tableIn hJr (off := 819) (tgt := 858) dL_law_39 (by decide) (by decide) (by decide +kernel) (by decide) ?_
    exact q_undo hJ hst hc (by omega) hK a5 a6 a7 a8
  by_cases h13 : k = 13
  · subst h13
    refine r_tableIn hJr (off := 863) (tgt := 902) dL_law_39 (by decide) (by decide) (by decide +kernel) (by decide) ?_
    exact q_number hJ hst hc (by omega) (by omega) (by omega) hK a5 a6 a7 a8
  by_cases h14 : k = 14
  · subst h14
    refine r_tableIn hJr (off := 931) (tgt := 970) dL_law_39 (by decide) (by decide) (by decide +kernel) (by decide) ?_
    exact q_holder hJ hst hc (by omega) (by omega) (by omega) hK a5 a6 a7 a8
  by_cases h15 : k = 15
  · subst h15
    refine r_tableIn hJr (off := 999) (tgt := 1038) dL_law_39 (by decide) (by decide) (by decide +kernel) (by decide) ?_
    exact q_span hJ hst hc (by omega) (by omega) (by omega) hK a5 a6 a7 a8
  by_cases h16 : k = 16
  · subst h16
    refine r_tableIn hJr (off := 1067) (tgt := 1106) dL_law_39 (by decide) (by decide) (by decide +kernel) (by decide) ?_
    exact q_count hJ hst hc (by omega) (by omega) (by omega) hK a5 a6 a7 a8
  by_cases h17 : k = 17
  · subst h17
    refine r_tableIn hJr (off := 1123) (tgt := 1162) dL_law_39 (by decide) (by decide) (by decide +kernel) (by decide) ?_
    exact q_setting hJ hst hc (by omega) (by omega) (by omega) hK a5 a6 a7 a8
  by_cases h18 : k = 18
  · subst h18
    refine r_tableIn hJr (off := 1179) (tgt := 1218) dL_law_39 (by decide) (by decide) (by decide +kernel) (by decide) ?_
    exact q_whoAfter hJ hst hc (by omega) (by omega) (by omega) hK a5 a6 a7 a8
  by_cases h19 : k = 19
  · subst h19
    refine r_tableIn hJr (off := 1247) (tgt := 1286) dL_law_39 (by decide) (by decide) (by decide +kernel) (by decide) ?_
    exact q_freeIn hJ hst hc (by omega) (by omega) (by omega) hK a5 a6 a7 a8
  by_cases h20 : k = 20
  · subst h20
    refine r_tableIn hJr (off := 1303) (tgt := 1342) dL_law_39 (by decide) (by decide) (by decide +kernel) (by decide) ?_
    exact q_wishedIn hJ hst hc (by omega) (by omega) (by omega) hK a5 a6 a7 a8
  by_cases h21 : k = 21
  · subst h21
    refine r_tableIn hJr (off := 1371) (tgt := 1410) dL_law_39 (by decide) (by decide) (by decide +kernel) (by decide) ?_
    exact q_fullness hJ hc (by omega) (by omega) hK a5 a6 a7 a8
  by_cases h22 : k = 22
  · subst h22
    refine r_tableIn hJr (off := 1384) (tgt := 1423) dL_law_39 (by decide) (by decide) (by decide +kernel) (by decide) ?_
    exact q_scatter hJ hc (by omega) (by omega) hK a5 a6 a7 a8
  by_cases h23 : k = 23
  · subst h23
    refine r_tableIn hJr (off := 1397) (tgt := 1436) dL_law_39 (by decide) (by decide) (by decide +kernel) (by decide) ?_
    exact q_meanHeld hJ hc (by omega) (by omega) hK a5 a6 a7 a8
  by_cases h24 : k = 24
  · subst h24
    refine r_tableIn hJr (off := 1438) (tgt := 1477) dL_law_39 (by decide) (by decide) (by decide +kernel) (by decide) ?_
    exact q_digest hJ hc (by omega) (by omega) hK a5 a6 a7 a8
  refine r_tableOut hJr (tgt := 1491) dL_law_39 (Or.inr (by rw [nI_toInt (by omega)]; omega)) (by decide) ?_
  exact hK _ _ _ _ _ _ _ _ (COUP_mono (by omega) hc) (Nat.le_refl _) (Nat.le_succ _)
theorem law_loop (hst : l.stackTraces = false) (hJ : jRX l E RL cL_law 9 12 0 512 b Ls xs J) (hret : ∀ (G : jG) (pc : Nat) (L : List (Option Value)), decode cL_law pc = .ok (.ireturn, 1) → J G pc L [.int 1]) (hL : Ls ≤ 2048) : ∀ (r : Nat) (S : jS) (K : Nat → Nat) (o : Int64) (n i : Nat) (a5 a6 a7 a8 : Option Value), COUP S K (400000 * i) → n ≤ i → i + r = 513 → J (S, (K, (o, n))) 23 (lawL E b i a5 a6 a7 a8) [] := by
  intro r
  induction r with
  | zero =>
    intro S K o n i a5 a6 a7 a8 hc hn hi
    exact law_step hst hJ hret hL hc hn (fun h => by omega) a5 a6 a7 a8 (by omega)
  | succ r ih =>
    intro S K o n i a5 a6 a7 a8 hc hn hi
    exact law_step hst hJ hret hL hc hn (fun h S' K' o' n' b5 b6 b7 b8 hC hn1 hn2 => ih S' K' o' n' (i + 1) b5 b6 b7 b8 hC (by omega) (by omega)) a5 a6 a7 a8 (by omega)
end LOOP
