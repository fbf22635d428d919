/-! THE START OF THE LAW -/
theorem tM {b : Nat} {s : State} (hts : ∀ w ∈ lw_tbl, w.before #[Value.ref b] s = true) (i : Nat) {w : Cond} (h : lw_tbl[i]? = some w) : w.before #[Value.ref b] s = true := hts w (List.mem_of_getElem? h)
/-- the world that the law finds: classes, tables, statics, the script -/
theorem law_base {s : State} {b L : Nat} {xs : Nat → Int32} (hL : L ≤ 260) (hX : va_X b L xs s s.heap) (hbl : b < s.heap.size) (hts : ∀ w ∈ lw_tbl, w.before #[Value.ref b] s = true) (hgv : (Jvm.Cond.and given_1 narrow_1).before #[Value.ref b] s = true) : ∃ E : jE, E.1 = s.heap.size ∧ E.2.2.1.2.1 = (b, L, xs) ∧ iB E s s.heap := by
  have htg : ∀ w ∈ gw, w.before #[Value.ref b] s = true := fun w hw => hts w (gw_tbl w hw)
  have hs := flat_of_before _ hgv
  have hA : ∀ a : Nat, a < s.heap.size → ¬ (s.heap.size ≤ a) := fun a h => Nat.not_le.mpr h
  obtain ⟨c0, i0, k0⟩ := u_known htg iX1 (htg _ m123)
  obtain ⟨c1, i1, k1⟩ := u_known htg iX2 (htg _ m46)
  obtain ⟨c2, i2, k2⟩ := u_known htg iX3 (htg _ m106)
  obtain ⟨c3, i3, k3⟩ := u_known htg iX4 (htg _ m38)
  obtain ⟨cI, kI, pI, a1, a2, a3⟩ := Cond.arrayClass_spec (htg _ m104)
  have hAO : va_AO RX2 s := va_AO.of (tM hts 112 (by decide +kernel))
  obtain ⟨pP, cP, kP, d1, -, d2, d3, d4⟩ := Cond.arrayOver_spec (va_AO.use (A := #[Value.ref b]) hAO)
  obtain ⟨tL, hLs, tTL⟩ := va_Tof (tm := .static "NumberLeases" "LEAST_SETTING" "[I") (ty := .int) (N := 4) (f := fun j => .int (lsS j)) (A := fun q => s.heap.size ≤ q) (by decide) (hs _ (by decide +kernel)) (va_eqt (hs _ (by decide +kernel))) (fun j hj => by
    rcases j with _ | _ | _ | _ | j
    · exact va_eqt (hs _ (by decide +kernel))
    · exact va_eqt (hs _ (by decide +kernel))
    · exact va_eqt (hs _ (by decide +kernel))
    · exact va_eqt (hs _ (by decide +kernel))
    · exfalso; omega) hA
  obtain ⟨tN, hN, tTN⟩ := va_Tof (tm := .static "NumberLeases" "MOST_SETTING" "[I") (ty := .int) (N := 4) (f := fun j => .int (msS j)) (A := fun q => s.heap.size ≤ q) (by decide) (hs _ (by decide +kernel)) (va_eqt (hs _ (by decide +kernel))) (fun j hj => by
    rcases j with _ | _ | _ | _ | j
    · exact va_eqt (hs _ (by decide +kernel))
    · exact va_eqt (hs _ (by decide +kernel))
    · exact va_eqt (hs _ (by decide +kernel))
    · exact va_eqt (hs _ (by decide +kernel))
    · exfalso; omega) hA
  refine ⟨(s.heap.size, (fun c => match c with | 0 => c0 | 1 => c1 | 2 => c2 | _ => c3, fun c => match c with | 0 => i0 | 1 => i1 | 2 => i2 | _ => i3), (cI, (b, L, xs), cP), (tL, tN)), rfl, rfl, ⟨⟨?_, ?_⟩, ?_, ?_, ?_, ?_, tTL, tTN, ⟨Nat.le_refl _, hbl, (by show L ≤ 5000; omega), hX⟩, ?_, ?_, ?_⟩, ?_, hAO⟩
  · intro c q hq
    rcases c with _ | _ | _ | _ | c
    · cases hq; exact k0
    · cases hq; exact k1
    · cases hq; exact k2
    · cases hq; exact k3
    · cases hq
  · intro k q hq
    rcases k with _ | _ | _ | k
    · cases hq
      exact ⟨fun N z => ⟨fun k h => (by cases h), kI, a2, pI, a3⟩, a1⟩
    · cases hq
      exact ⟨fun N z => ⟨fun k h => (by cases h), kI, a2, pI, a3⟩, a1⟩
    · cases hq
      exact ⟨fun N z => ⟨fun k h => (by cases h), kP, d2, pP, d3⟩, kP, pP, d2, d3, d1, d4⟩
    · cases hq
  · exact vx_Zqof (tM hts 190 (by decide +kernel)) (htg _ m29) (hs _ (by decide +kernel)) hA
  · exact vx_Zqof (tM hts 192 (by decide +kernel)) (htg _ m29) (hs _ (by decide +kernel)) hA
  · exact va_Zof (tM hts 396 (by decide +kernel)) (htg _ m25) hLs hA
  · exact va_Zof (tM hts 398 (by decide +kernel)) (htg _ m25) hN hA
  · exact va_Nw.of rfl (tM hts 269 (by decide +kernel))
  · intro w hw
    simp only [xw, List.mem_cons, List.not_mem_nil, or_false] at hw
    rcases hw with rfl | rfl | rfl | rfl | rfl | rfl
    · exact va_Nw.of rfl (tM hts 166 (by decide +kernel))
    · exact va_Nw.of rfl (tM hts 168 (by decide +kernel))
    · exact va_Nw.of rfl (tM hts 170 (by decide +kernel))
    · exact va_Nw.of rfl (tM hts 308 (by decide +kernel))
    · exact va_Nw.of rfl (tM hts 165 (by decide +kernel))
    · exact va_Nw.of rfl (tM hts 342 (by decide +kernel))
  · intro q hq
    simp only [ncs, List.mem_cons, List.not_mem_nil, or_false] at hq
    rcases hq with rfl | rfl | rfl | rfl | rfl | rfl
    · exact va_Nc.of (hs _ (by decide +kernel))
    · exact va_Nc.of (hs _ (by decide +kernel))
    · exact va_Nc.of (hs _ (by decide +kernel))
    · exact va_Nc.of (hs _ (by decide +kernel))
    · exact va_Nc.of (hs _ (by decide +kernel))
    · exact va_Nc.of (hs _ (by decide +kernel))
  · exact va_Nw.of rfl (tM hts 124 (by decide +kernel))
/-- the class is made -/
theorem law_made {l : Launch} {E : jE} {b : Nat} {J : iT} (hJ : iR l E RL cL_law 10 12 0 109 6576 false [] J)
    (k : J (blk E (K0, (0, 0)) 11 obj0 ++ blk E (K0, (0, 0)) 0 pool0 ++ blk E (K0, (0, 0)) 1 pool0 ++ (blk E (K0, (0, 0)) 9 obj0 ++ blk E (K0, (0, 0)) 2 pool0 ++ blk E (K0, (0, 0)) 3 pool0 ++ blk E (K0, (0, 0)) 4 pool0 ++ blk E (K0, (0, 0)) 5 pool0 ++ blk E (K0, (0, 0)) 6 pool0 ++ blk E (K0, (0, 0)) 7 pool0) ++ blk E (K0, (0, 0)) 8 obj0) 109 6576 8 [some (.ref b), some (.ref (ad E 11 0)), none, none, none, none, none, none, none, none] []) : J [] 0 0 0 [some (.ref b), none, none, none, none, none, none, none, none, none] [] := by
  refine i_new hJ (ci := 3) (C := RX4) (T := TX4) (N := 4) (ty := tyX4) (fs := [.null, .null, .null, .null]) rfl iX4 tyX4_ok m37 m38 m25 (by decide +kernel) (Nat.le_of_ble_eq_true rfl) (Nat.le_of_ble_eq_true rfl) (a := ad E 11 0) rfl dL_law_0 ?_
  refine i_dup hJ dL_law_3 rfl ?_
  refine i_call hJ kIL_93 (i_nul l E (K0, (0, 0)) rfl (pre := [] ++ []) rfl) rfl (by simp [blk_len, wid]) (Nat.le_of_ble_eq_true rfl) (Nat.le_of_ble_eq_true rfl) ⟨by decide, by decide⟩ (Nat.le_of_ble_eq_true rfl) dL_law_4 ?_
  refine i_astore_n hJ dL_law_7 rfl (jp1 rfl rfl) ?_
  exact k
