theorem dgS_0 (S : jS) (A : jO) (z : Nat) (h : Int64) : dgS (setO S 1 A) z h = dgS S z h := by
  unfold dgS
  rw [show setO S 1 A 0 = S 0 from setO_ne (by decide)]
theorem dgB_0 (S : jS) (A : jO) (h : Int64) : dgB (setO S 1 A) h = dgB S h := by
  unfold dgB
  rw [show setO S 1 A 8 = S 8 from setO_ne (by decide)]
theorem fulV_0 (S : jS) (A : jO) (z : Nat) : fulV (setO S 1 A) z = fulV S z := by
  unfold fulV
  rw [show setO S 1 A 0 = S 0 from setO_ne (by decide)]
theorem scaV_0 (S : jS) (A : jO) (z : Nat) : scaV (setO S 1 A) z = scaV S z := by
  unfold scaV
  rw [show setO S 1 A 0 = S 0 from setO_ne (by decide)]
theorem meaV_0 (S : jS) (A : jO) : meaV (setO S 1 A) = meaV S := by
  unfold meaV
  rw [show setO S 1 A 0 = S 0 from setO_ne (by decide)]
theorem fOK_0 {S : jS} {A : jO} {z : Nat} (h : fOK S z) : fOK (setO S 1 A) z := by
  unfold fOK
  rw [show setO S 1 A 0 = S 0 from setO_ne (by decide)]
  exact h
set_option maxRecDepth 100000 in
set_option maxHeartbeats 1000000 in
theorem c4_digest (l : Launch) (E : jE) (S : jS) (x : jX) (hP : PI (S 0)) {z : Nat} (hz : S 0 1 3 = nI z) (hz4 : z ≤ 64) (hz0 : 0 < z) (hf : fOK S z) (hD : okD (meaV S) = true) (hQ : OI (S 8)) : Ct l E yX4_digest cX4_digest 4 (some .long) 8 [.ref (ad E 11 0)] (S, x) (some (.long (digV S z))) (setO S 1 (dgA S z), x) := by
  refine Ct.of (by decide +kernel) (Nat.le_refl _) (Nat.le_of_ble_eq_true rfl) rfl (fun J hJ hF => ?_)
  have t61 : ∀ (h : Int64) (v3 : Option Value), h = dgL (S 0 1) 4 0 (dgL (cntA S z) 13 0 2579) → J (S, x) 61 [some (.ref (ad E 11 0)), some (.long h), none, v3] [] := by
    intro h v3 he
    refine r_aload_n hJ dX4_digest_61 rfl jg0 ?_
    refine r_lload_n hJ dX4_digest_62 rfl jg1 ?_
    refine r_V1v hJ kX4_175 (rcv4 E) (c4_addNumbers l E S x hz hz4 _) dX4_digest_63 ⟨by decide, by decide⟩ (Nat.le_of_ble_eq_true rfl) ?_
    refine r_lstore_n hJ dX4_digest_66 rfl (jq1 rfl rfl) ?_
    refine r_aload_n hJ dX4_digest_67 rfl jg0 ?_
    refine r_lload_n hJ dX4_digest_68 rfl jg1 ?_
    refine r_V1v hJ kX4_179 (rcv4 E) (c4_addHolders l E S x hP _) dX4_digest_69 ⟨by decide, by decide⟩ (Nat.le_of_ble_eq_true rfl) ?_
    refine r_lstore_n hJ dX4_digest_72 rfl (jq1 rfl rfl) ?_
    refine r_aload_n hJ dX4_digest_73 rfl jg0 ?_
    refine r_lload_n hJ dX4_digest_74 rfl jg1 ?_
    have hq := c4_addSpans l E (setO S 1 (ahA S 8 0 (S 1))) x (by rw [setO_ne (by decide)]; exact hz) hz4 (dgH S (dgN S z h))
    rw [dgS_0] at hq
    refine r_V1v hJ kX4_182 (rcv4 E) (hq) dX4_digest_75 ⟨by decide, by decide⟩ (Nat.le_of_ble_eq_true rfl) ?_
    refine r_lstore_n hJ dX4_digest_78 rfl (jq1 rfl rfl) ?_
    refine r_ldc2 hJ m322 dX4_digest_79 ?_
    refine r_lload_n hJ dX4_digest_82 rfl jg1 ?_
    refine r_lmul hJ dX4_digest_83 ?_
    refine r_aload_n hJ dX4_digest_84 rfl jg0 ?_
    refine r_iconst hJ (v := nI 0) dX4_digest_85 (by decide) ?_
    refine r_bipush hJ (v := nI 20) dX4_digest_86 (by decide) ?_
    have hr := c4_holderAfter l E (setO S 1 (ahA S 8 0 (S 1))) x (by rw [setO_ne (by decide)]; exact hP) (n := 0) (by decide) (b := 20) (by decide)
    rw [setO_two, show setO S 1 (ahA S 8 0 (S 1)) 0 = S 0 from setO_ne (by decide)] at hr
    refine r_V2v hJ kX4_151 (rcv4 E) (hr) dX4_digest_88 ⟨by decide, by decide⟩ (Nat.le_of_ble_eq_true rfl) ?_
    refine r_i2l hJ dX4_digest_91 rfl ?_
    refine r_ladd hJ dX4_digest_92 ?_
    refine r_lstore_n hJ dX4_digest_93 rfl (jq1 rfl rfl) ?_
    refine r_ldc2 hJ m322 dX4_digest_94 ?_
    refine r_lload_n hJ dX4_digest_97 rfl jg1 ?_
    refine r_lmul hJ dX4_digest_98 ?_
    refine r_aload_n hJ dX4_digest_99 rfl jg0 ?_
    refine r_iconst hJ (v := nI 4) dX4_digest_100 (by decide) ?_
    have hs := c4_timeToFree l E (setO S 1 (leapN (S 0 0 0 + nI 20) 20 (S 0))) x (by rw [setO_ne (by decide)]; exact hP) (by rw [setO_ne (by decide)]; exact hz) hz4 (nI 4)
    rw [setO_two, freeT_0] at hs
    rw [show (freeT (setO S 1 (leapN (S 0 0 0 + nI 20) 20 (S 0))) z (nI 4)).2 = dgA S z from rfl] at hs
    refine r_V1v hJ kX4_154 (rcv4 E) (hs) dX4_digest_101 ⟨by decide, by decide⟩ (Nat.le_of_ble_eq_true rfl) ?_
    refine r_i2l hJ dX4_digest_104 rfl ?_
    refine r_ladd hJ dX4_digest_105 ?_
    refine r_lstore_n hJ dX4_digest_106 rfl (jq1 rfl rfl) ?_
    refine r_ldc2 hJ m322 dX4_digest_107 ?_
    refine r_lload_n hJ dX4_digest_110 rfl jg1 ?_
    refine r_lmul hJ dX4_digest_111 ?_
    refine r_aload_n hJ dX4_digest_112 rfl jg0 ?_
    have ht := c4_fullnessBits l E (setO S 1 (dgA S z)) x (by rw [setO_ne (by decide)]; exact hz) hz4 hz0 (fOK_0 hf)
    rw [fulV_0] at ht
    refine r_V0v hJ kX4_160 (rcv4 E) (ht) dX4_digest_113 ⟨by decide, by decide⟩ (Nat.le_of_ble_eq_true rfl) ?_
    refine r_i2l hJ dX4_digest_116 rfl ?_
    refine r_ladd hJ dX4_digest_117 ?_
    refine r_lstore_n hJ dX4_digest_118 rfl (jq1 rfl rfl) ?_
    refine r_ldc2 hJ m322 dX4_digest_119 ?_
    refine r_lload_n hJ dX4_digest_122 rfl jg1 ?_
    refine r_lmul hJ dX4_digest_123 ?_
    refine r_aload_n hJ dX4_digest_124 rfl jg0 ?_
    have hu := c4_scatterBits l E (setO S 1 (dgA S z)) x (by rw [setO_ne (by decide)]; exact hz) hz4 (fOK_0 hf)
    rw [scaV_0] at hu
    refine r_V0v hJ kX4_164 (rcv4 E) (hu) dX4_digest_125 ⟨by decide, by decide⟩ (Nat.le_of_ble_eq_true rfl) ?_
    refine r_i2l hJ dX4_digest_128 rfl ?_
    refine r_ladd hJ dX4_digest_129 ?_
    refine r_lstore_n hJ dX4_digest_130 rfl (jq1 rfl rfl) ?_
    refine r_ldc2 hJ m322 dX4_digest_131 ?_
    refine r_lload_n hJ dX4_digest_134 rfl jg1 ?_
    refine r_lmul hJ dX4_digest_135 ?_
    refine r_aload_n hJ dX4_digest_136 rfl jg0 ?_
    have hv := c4_meanUnits l E (setO S 1 (dgA S z)) x (z := z) (fOK_0 hf)
    rw [meaV_0] at hv
    refine r_V0v hJ kX4_167 (rcv4 E) (hv) dX4_digest_137 ⟨by decide, by decide⟩ (Nat.le_of_ble_eq_true rfl) ?_
    refine r_S1o hJ koD (c0_ofDouble l E (setO S 1 (dgA S z), x) (meaV S) hD) dX4_digest_140 ⟨by decide, by decide⟩ (Nat.le_of_ble_eq_true rfl) ?_
    refine r_ladd hJ dX4_digest_143 ?_
    refine r_lstore_n hJ dX4_digest_144 rfl (jq1 rfl rfl) ?_
    refine r_aload_n hJ dX4_digest_145 rfl jg0 ?_
    refine r_lload_n hJ dX4_digest_146 rfl jg1 ?_
    have hw := c4_addBuffer l E (setO S 1 (dgA S z)) x (by rw [setO_ne (by decide)]; exact hQ) (31 * dg1 (dg1 (dg1 (dg1 (dgS S z (dgH S (dgN S z h))) (leapN (S 0 0 0 + nI 20) 20 (S 0) 2 0)) (freeT S z (nI 4)).1) (fulV S z)) (scaV S z) + ofD (meaV S))
    rw [dgB_0] at hw
    refine r_V1v hJ kX4_191 (rcv4 E) (hw) dX4_digest_147 ⟨by decide, by decide⟩ (Nat.le_of_ble_eq_true rfl) ?_
    exact ret_l hF dX4_digest_150 (by unfold digV; rw [← he]) rfl
  have loop2 : ∀ (k i : Nat) (h : Int64), i + k = 4 → dgL (S 0 1) k i h = dgL (S 0 1) 4 0 (dgL (cntA S z) 13 0 2579) → J (S, x) 33 [some (.ref (ad E 11 0)), some (.long h), none, some (.int (nI i))] [] := by
    intro k
    induction k with
    | zero =>
      intro i h hi he
      obtain rfl : i = 4 := by omega
      refine r_iload_n hJ dX4_digest_33 rfl jg3 ?_
      refine r_iconst hJ (v := nI 4) dX4_digest_34 (by decide) ?_
      refine r_icmp_ge hJ (tgt := 61) dX4_digest_35 (by decide) (fun c35 => ?_) (fun c35 => ?_)
      · exact t61 h _ he
      · exact absurd (nI_le (by omega) (by omega)) c35
    | succ k ih =>
      intro i h hi he
      refine r_iload_n hJ dX4_digest_33 rfl jg3 ?_
      refine r_iconst hJ (v := nI 4) dX4_digest_34 (by decide) ?_
      refine r_icmp_ge hJ (tgt := 61) dX4_digest_35 (by decide) (fun c35 => ?_) (fun c35 => ?_)
      · exact absurd c35 (nI_ge (by omega) (by omega))
      · refine r_ldc2 hJ m322 dX4_digest_38 ?_
        refine r_lload_n hJ dX4_digest_41 rfl jg1 ?_
        refine r_lmul hJ dX4_digest_42 ?_
        refine r_aload_n hJ dX4_digest_43 rfl jg0 ?_
        refine r_g4_0 hJ m204 dX4_digest_44 ?_
        refine r_g2_4 hJ (by decide) m100 dX4_digest_47 ?_
        refine r_iload_n hJ dX4_digest_50 rfl jg3 ?_
        refine r_iald hJ (by omega) (alP1 (by decide) (by omega)) rfl dX4_digest_51 ?_
        refine r_i2l hJ dX4_digest_52 rfl ?_
        refine r_ladd hJ dX4_digest_53 ?_
        refine r_lstore_n hJ dX4_digest_54 rfl (jq1 rfl rfl) ?_
        refine r_iinc hJ dX4_digest_55 jg3 (ii1 _) (jp3 rfl rfl) ?_
        refine r_goto hJ (tgt := 33) dX4_digest_58 (by decide) ?_
        exact ih (i + 1) _ (by omega) (by rw [← he]; rfl)
  have loop1 : ∀ (k i : Nat) (h : Int64), i + k = 13 → dgL (cntA S z) k i h = dgL (cntA S z) 13 0 2579 → J (S, x) 6 [some (.ref (ad E 11 0)), some (.long h), none, some (.int (nI i))] [] := by
    intro k
    induction k with
    | zero =>
      intro i h hi he
      obtain rfl : i = 13 := by omega
      refine r_iload_n hJ dX4_digest_6 rfl jg3 ?_
      refine r_bipush hJ (v := nI 12) dX4_digest_7 (by decide) ?_
      refine r_icmp_gt hJ (tgt := 31) dX4_digest_9 (by decide) (fun c9 => ?_) (fun c9 => ?_)
      · refine r_iconst hJ (v := nI 0) dX4_digest_31 (by decide) ?_
        refine r_istore_n hJ dX4_digest_32 rfl (jp3 rfl rfl) ?_
        exact loop2 4 0 h rfl (by rw [← he]; rfl)
      · exact absurd (show nI 12 < nI 13 from by decide) c9
    | succ k ih =>
      intro i h hi he
      refine r_iload_n hJ dX4_digest_6 rfl jg3 ?_
      refine r_bipush hJ (v := nI 12) dX4_digest_7 (by decide) ?_
      refine r_icmp_gt hJ (tgt := 31) dX4_digest_9 (by decide) (fun c9 => ?_) (fun c9 => ?_)
      · exact absurd (show nI 12 < nI i from c9) (nI_nlt (by omega) (by omega))
      · refine r_ldc2 hJ m322 dX4_digest_12 ?_
        refine r_lload_n hJ dX4_digest_15 rfl jg1 ?_
        refine r_lmul hJ dX4_digest_16 ?_
        refine r_aload_n hJ dX4_digest_17 rfl jg0 ?_
        refine r_iload_n hJ dX4_digest_18 rfl jg3 ?_
        refine r_V1v hJ kX4_148 (rcv4 E) (c4_countOf l E S x hz hz4 (q := i) (by omega)) dX4_digest_19 ⟨by decide, by decide⟩ (Nat.le_of_ble_eq_true rfl) ?_
        refine r_i2l hJ dX4_digest_22 rfl ?_
        refine r_ladd hJ dX4_digest_23 ?_
        refine r_lstore_n hJ dX4_digest_24 rfl (jq1 rfl rfl) ?_
        refine r_iinc hJ dX4_digest_25 jg3 (ii1 _) (jp3 rfl rfl) ?_
        refine r_goto hJ (tgt := 6) dX4_digest_28 (by decide) ?_
        exact ih (i + 1) _ (by omega) (by rw [← he]; rfl)
  refine r_ldc2 hJ m321 dX4_digest_0 ?_
  refine r_lstore_n hJ dX4_digest_3 rfl (jq1 rfl rfl) ?_
  refine r_iconst hJ (v := nI 0) dX4_digest_4 (by decide) ?_
  refine r_istore_n hJ dX4_digest_5 rfl (jp3 rfl rfl) ?_
  exact loop1 13 0 2579 rfl rfl
