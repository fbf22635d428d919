def rs (S : jS) (Q P : jO) : jS := setO (setO S 8 Q) 0 P
theorem rs_8 (S : jS) (Q P : jO) : rs S Q P 8 = Q := by unfold rs; rw [setO_ne (by decide), setO_at]
theorem rs_0 (S : jS) (Q P : jO) : rs S Q P 0 = P := by unfold rs; rw [setO_at]
theorem rs_set8 (S : jS) (Q P Q' : jO) : setO (rs S Q P) 8 Q' = rs S Q' P := by
  unfold rs
  rw [setO_comm (show (0 : Nat) ≠ 8 by decide), setO_two]
theorem rs_set0 (S : jS) (Q P P' : jO) : setO (rs S Q P) 0 P' = rs S Q P' := by
  unfold rs
  rw [setO_two]
theorem rs_of (S : jS) (Q : jO) : setO S 8 Q = rs S Q (S 0) := by
  unfold rs
  rw [show S 0 = (setO S 8 Q) 0 from (setO_ne (by decide)).symm, setO_self]
/-- what a run leaves: the reading, the pool, how many are done -/
def runR (S : jS) (z : Nat) : jO × jO × Nat := runL z 60 (rewQ (rdAll (S 8))) (S 0) 0
def runS (S : jS) (K : Nat → Nat) (z : Nat) : jS := rs (kpS (setO S 8 (rdAll (S 8))) K) (put (runR S z).1 0 0 (nI 0)) (runR S z).2.1
set_option maxRecDepth 100000 in
set_option maxHeartbeats 1000000 in
theorem c4_run (l : Launch) (E : jE) (S : jS) (K : Nat → Nat) (y : Int64 × Nat) (hQ : OI (S 8)) (hP : PI (S 0)) (hSI : SI S K) {z : Nat} (hz : S 0 1 3 = nI z) (hz4 : z ≤ 64) (h0 : rdAll (S 8) 0 2 = 0) (hok : okRun z 60 (rewQ (rdAll (S 8))) (S 0)) : Ct l E yX4_run cX4_run 4 (some .int) 7 [.ref (ad E 11 0)] (S, (K, y)) (some (.int (nI (runR S z).2.2))) (runS S K z, (kpK (setO S 8 (rdAll (S 8))) K, y)) := by
  have hSI1 : SI (setO S 8 (rdAll (S 8))) K := ⟨hSI.1, by rw [setO_ne (by decide)]; exact hSI.2⟩
  refine Ct.of (by decide +kernel) (Nat.le_refl _) (Nat.le_of_ble_eq_true rfl) rfl (fun J hJ hF => ?_)
  obtain ⟨S2, hS2⟩ : ∃ S2, kpS (setO S 8 (rdAll (S 8))) K = S2 := ⟨_, rfl⟩
  obtain ⟨x2, hx2⟩ : ∃ x2 : jX, (kpK (setO S 8 (rdAll (S 8))) K, y) = x2 := ⟨_, rfl⟩
  obtain ⟨F, hFF⟩ : ∃ F, runR S z = F := ⟨_, rfl⟩
  have e8 : S2 8 = rdAll (S 8) := by rw [← hS2, kpS_ne hSI1 (by omega), setO_at]
  have e0 : S2 0 = S 0 := by rw [← hS2, kpS_ne hSI1 (by omega), setO_ne (by decide)]
  rw [hx2] at hF
  have fin : ∀ v2 v3 : Option Value, J (rs S2 F.1 F.2.1, x2) 94 [some (.ref (ad E 11 0)), some (.int (nI F.2.2)), v2, v3] [] := by
    intro v2 v3
    rw [show rs S2 F.1 F.2.1 = setO (rs S2 F.1 F.2.1) 8 F.1 from by rw [rs_set8]]
    refine r_aload_n hJ dX4_run_94 rfl jg0 ?_
    refine r_g4_3 hJ m207 dX4_run_95 ?_
    refine r_iconst hJ (v := nI 0) dX4_run_98 (by decide) ?_
    refine r_p1_1 hJ m175 dX4_run_99 ?_
    refine r_iload_n hJ dX4_run_102 rfl jg1 ?_
    refine ret_i hF dX4_run_103 (by rw [hFF]) ?_
    rw [rs_set8]
    unfold runS
    rw [hFF, hS2]
  have loop : ∀ (k i c : Nat) (Q' P' : jO) (mo : Int32), i + k = 60 → OI Q' → PI P' → P' 1 3 = nI z → ((mo = nI 1 ∧ runL z k Q' P' c = F ∧ okRun z k Q' P') ∨ (mo = nI 0 ∧ (Q', P', c) = F)) → J (rs S2 Q' P', x2) 42 [some (.ref (ad E 11 0)), some (.int (nI c)), some (.int mo), some (.int (nI i))] [] := by
    intro k
    induction k with
    | zero =>
      intro i c Q' P' mo hi hQ' hP' hz' hmo
      obtain rfl : i = 60 := by omega
      refine r_iload_n hJ dX4_run_42 rfl jg3 ?_
      refine r_bipush hJ (v := nI 60) dX4_run_43 (by decide) ?_
      refine r_icmp_ge hJ (tgt := 94) dX4_run_45 (by decide) (fun c45 => ?_) (fun c45 => ?_)
      · have hF2 : (Q', P', c) = F := hmo.elim (fun q => q.2.1) (fun q => q.2)
        rw [← hF2] at fin
        exact fin _ _
      · exact absurd (nI_le (by omega) (by omega)) c45
    | succ k ih =>
      intro i c Q' P' mo hi hQ' hP' hz' hmo
      refine r_iload_n hJ dX4_run_42 rfl jg3 ?_
      refine r_bipush hJ (v := nI 60) dX4_run_43 (by decide) ?_
      refine r_icmp_ge hJ (tgt := 94) dX4_run_45 (by decide) (fun c45 => ?_) (fun c45 => ?_)
      · exact absurd c45 (nI_ge (by omega) (by omega))
      · refine r_iload_n hJ dX4_run_48 rfl jg2 ?_
        refine r_if_eq hJ (tgt := 94) dX4_run_49 (by decide) (fun c49 => ?_) (fun c49 => ?_)
        · have hF2 : (Q', P', c) = F := hmo.elim (fun q => absurd c49 (by rw [q.1]; decide)) (fun q => q.2)
          rw [← hF2] at fin
          exact fin _ _
        · have hmo1 := hmo.resolve_right (fun q => c49 q.1)
          refine r_aload_n hJ dX4_run_52 rfl jg0 ?_
          refine r_g4_3 hJ m207 dX4_run_53 ?_
          refine r_g1_2 hJ m177 dX4_run_56 ?_
          rw [rs_8]
          refine r_aload_n hJ dX4_run_59 rfl jg0 ?_
          refine r_g4_3 hJ m207 dX4_run_60 ?_
          refine r_g1_1 hJ m175 dX4_run_63 ?_
          rw [rs_8]
          refine r_icmp_ge hJ (tgt := 94) dX4_run_66 (by decide) (fun c66 => ?_) (fun c66 => ?_)
          · have hF2 : (Q', P', c) = F := by
              have h2 := hmo1.2.1
              rw [runL, if_neg (Int32.not_lt.mpr c66)] at h2
              exact h2
            rw [← hF2] at fin
            exact fin _ _
          · have c66 := Int32.not_le.mp c66
            obtain ⟨hord, hok2⟩ := hmo1.2.2 c66
            have hrl0 := hmo1.2.1
            rw [runL, if_pos c66] at hrl0
            refine r_aload_n hJ dX4_run_69 rfl jg0 ?_
            refine r_g4_3 hJ m207 dX4_run_70 ?_
            refine r_V0u hJ kX4_127 (rcv1 E) (g1_readNext l E (rs S2 Q' P') x2 (by rw [rs_8]; exact hQ')) dX4_run_73 ⟨by decide, by decide⟩ (Nat.le_of_ble_eq_true rfl) ?_
            rw [rs_8, rs_set8]
            refine r_aload_n hJ dX4_run_76 rfl jg0 ?_
            have hco := c4_carryOut l E (rs S2 (rdNext Q') P') x2 (by rw [rs_0]; exact hP') (by rw [rs_0]; exact hz') hz4 (by rw [rs_8]; exact hord)
            rw [rs_8, rs_0, rs_set0] at hco
            refine r_V0v hJ kX4_130 (rcv4 E) (hco) dX4_run_77 ⟨by decide, by decide⟩ (Nat.le_of_ble_eq_true rfl) ?_
            refine r_istore_n hJ dX4_run_80 rfl (jp2 rfl rfl) ?_
            refine r_iload_n hJ dX4_run_81 rfl jg2 ?_
            refine r_if_eq hJ (tgt := 88) dX4_run_82 (by decide) (fun c82 => ?_) (fun c82 => ?_)
            · rw [bI_0, Option.isSome_eq_false_iff, Option.isNone_iff_eq_none] at c82
              have hcn : cryP P' z (rdNext Q' 0 3) (rdNext Q' 0 4) (rdNext Q' 0 5) (rdNext Q' 0 6) = none := c82
              rw [hcn] at hrl0
              have hrl : (rdNext Q', P', c) = F := hrl0
              refine r_iinc hJ dX4_run_88 jg3 (ii1 _) (jp3 rfl rfl) ?_
              refine r_goto hJ (tgt := 42) dX4_run_91 (by decide) ?_
              exact ih (i + 1) c (rdNext Q') _ _ (by omega) (OI_rdNext hQ') (by rw [hcn]; exact hP') (by rw [hcn]; exact hz') (Or.inr ⟨by rw [hcn]; rfl, by rw [hcn]; exact hrl⟩)
            · have c82 := bI_ne c82
              obtain ⟨P1, hcs⟩ := Option.isSome_iff_exists.mp c82
              have hPP := PI_cry hP' hord hcs
              rw [hcs] at hrl0
              have hrl : runL z k (rdNext Q') P1 (c + 1) = F := hrl0
              refine r_iinc hJ dX4_run_85 jg1 (ii1 _) (jp1 rfl rfl) ?_
              refine r_iinc hJ dX4_run_88 jg3 (ii1 _) (jp3 rfl rfl) ?_
              refine r_goto hJ (tgt := 42) dX4_run_91 (by decide) ?_
              exact ih (i + 1) (c + 1) (rdNext Q') _ _ (by omega) (OI_rdNext hQ') (by rw [hcs]; exact hPP.1) (by rw [hcs]; show P1 1 3 = _; rw [hPP.2]; exact hz') (Or.inl ⟨by rw [hcs]; rfl, by rw [hcs]; exact hrl, by rw [hcs]; exact hok2 P1 hcs⟩)
  refine r_aload_n hJ dX4_run_0 rfl jg0 ?_
  refine r_g4_3 hJ m207 dX4_run_1 ?_
  refine r_V0v hJ kX4_114 (rcv1 E) (g1_readAll l E S (K, y) hQ) dX4_run_4 ⟨by decide, by decide⟩ (Nat.le_of_ble_eq_true rfl) ?_
  refine r_if_ne hJ (tgt := 18) dX4_run_7 (by decide) (fun c7 => ?_) (fun c7 => ?_)
  · refine r_aload_n hJ dX4_run_18 rfl jg0 ?_
    refine r_g4_2 hJ m206 dX4_run_19 ?_
    refine r_aload_n hJ dX4_run_22 rfl jg0 ?_
    refine r_g4_0 hJ m204 dX4_run_23 ?_
    refine r_V1ux hJ (x' := (kpK (setO S 8 (rdAll (S 8))) K, y)) rfl kX4_56 (rcv3 E) (g3_keep l E (setO S 8 (rdAll (S 8))) K y hSI1) dX4_run_26 ⟨by decide, by decide⟩ (Nat.le_of_ble_eq_true rfl) ?_
    rw [hS2, hx2]
    refine r_aload_n hJ dX4_run_29 rfl jg0 ?_
    refine r_g4_3 hJ m207 dX4_run_30 ?_
    have hrw := g1_rewind l E S2 x2
    rw [e8, rs_of, e0] at hrw
    refine r_V0u hJ kX4_124 (rcv1 E) (hrw) dX4_run_33 ⟨by decide, by decide⟩ (Nat.le_of_ble_eq_true rfl) ?_
    refine r_iconst hJ (v := nI 0) dX4_run_36 (by decide) ?_
    refine r_istore_n hJ dX4_run_37 rfl (jp1 rfl rfl) ?_
    refine r_iconst hJ (v := nI 1) dX4_run_38 (by decide) ?_
    refine r_istore_n hJ dX4_run_39 rfl (jp2 rfl rfl) ?_
    refine r_iconst hJ (v := nI 0) dX4_run_40 (by decide) ?_
    refine r_istore_n hJ dX4_run_41 rfl (jp3 rfl rfl) ?_
    exact loop 60 0 0 _ _ _ (by omega) (OI_rew (OI_rdAll hQ)) hP hz (Or.inl ⟨rfl, hFF, hok⟩)
  · exact absurd (by rw [h0] at c7; exact c7) (by decide : ¬ bI (decide ((0 : Int32) = 0)) = 0)

set_option maxRecDepth 100000 in
set_option maxHeartbeats 1000000 in
theorem t4_run (l : Launch) (hst : l.stackTraces = false) (E : jE) (S : jS) (K : Nat → Nat) (y : Int64 × Nat) (hQ : OI (S 8)) (h0 : ¬ rdAll (S 8) 0 2 = 0) : CtT l E yX4_run cX4_run 4 (some .int) 7 [.ref (ad E 11 0)] (S, (K, y)) "java/lang/IllegalArgumentException" (nxt (setO S 8 (rdAll (S 8)), (K, y))) := by
  refine CtT.ofG (Gm := (setO S 8 (rdAll (S 8)), (K, y))) rfl hst (by decide +kernel) (Nat.le_of_ble_eq_true rfl) rfl (fun J hJ hF => ?_)
  refine r_aload_n hJ dX4_run_0 rfl jg0 ?_
  refine r_g4_3 hJ m207 dX4_run_1 ?_
  refine r_V0v hJ kX4_114 (rcv1 E) (g1_readAll l E S (K, y) hQ) dX4_run_4 ⟨by decide, by decide⟩ (Nat.le_of_ble_eq_true rfl) ?_
  refine r_if_ne hJ (tgt := 18) dX4_run_7 (by decide) (fun c7 => ?_) (fun c7 => ?_)
  · exact absurd (by simp [bI, h0]) c7
  · exact hF.1 _ _ _ _ _ _ rfl thr_arg dX4_run_10 dX4_run_13 dX4_run_14 dX4_run_17 (by decide) (Nat.le_of_ble_eq_true rfl)
