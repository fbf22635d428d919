set_option maxRecDepth 100000 in
set_option maxHeartbeats 1000000 in
theorem c4_carryOut (l : Launch) (E : jE) (S : jS) (x : jX) (hP : PI (S 0)) {z : Nat} (hz : S 0 1 3 = nI z) (hz4 : z ≤ 64) (ho : ordOk (S 8)) : Ct l E yX4_carryOut cX4_carryOut 4 (some .boolean) 5 [.ref (ad E 11 0)] (S, x) (some (.int (bI (cryP (S 0) z (S 8 0 3) (S 8 0 4) (S 8 0 5) (S 8 0 6)).isSome))) (setO S 0 ((cryP (S 0) z (S 8 0 3) (S 8 0 4) (S 8 0 5) (S 8 0 6)).getD (S 0)), x) := by
  refine Ct.of (by decide +kernel) (Nat.le_refl _) (Nat.le_of_ble_eq_true rfl) rfl (fun J hJ hF => ?_)
  rcases ho with ⟨hk, a, ha, he⟩ | ⟨hk, ⟨a, ha, he⟩, f, hf, hfe⟩ | ⟨hk, ⟨a, ha, he⟩, f, s, hfs, hs, hfe, hse⟩ | ⟨hk, s, hs, hse⟩
  · refine r_aload_n hJ dX4_carryOut_0 rfl jg0 ?_
    refine r_g4_3 hJ m207 dX4_carryOut_1 ?_
    refine r_g1_5 hJ m182 dX4_carryOut_4 ?_
    rw [he]
    refine r_istore_n hJ dX4_carryOut_7 rfl (jp1 rfl rfl) ?_
    refine r_aload_n hJ dX4_carryOut_8 rfl jg0 ?_
    refine r_g4_3 hJ m207 dX4_carryOut_9 ?_
    refine r_g1_6 hJ m184 dX4_carryOut_12 ?_
    refine r_istore_n hJ dX4_carryOut_15 rfl (jp2 rfl rfl) ?_
    refine r_aload_n hJ dX4_carryOut_16 rfl jg0 ?_
    refine r_g4_3 hJ m207 dX4_carryOut_17 ?_
    refine r_g1_7 hJ m186 dX4_carryOut_20 ?_
    refine r_istore_n hJ dX4_carryOut_23 rfl (jp3 rfl rfl) ?_
    refine r_aload_n hJ dX4_carryOut_24 rfl jg0 ?_
    refine r_g4_3 hJ m207 dX4_carryOut_25 ?_
    refine r_g1_4 hJ m180 dX4_carryOut_28 ?_
    rw [hk]
    refine r_lookup hJ (off := 33) (tgt := 64) dX4_carryOut_31 (by decide) (by decide) (by decide) ?_
    refine r_aload_n hJ dX4_carryOut_64 rfl jg0 ?_
    refine r_g4_0 hJ m204 dX4_carryOut_65 ?_
    refine r_iload_n hJ dX4_carryOut_68 rfl jg1 ?_
    refine r_iconst hJ (v := nI 1) dX4_carryOut_69 (by decide) ?_
    refine r_V2v hJ kX4_203 (rcv2 E (by decide)) (g2_mayLease l E S x (o := 0) (by decide) hz hz4 (nI a) (nI 1)) dX4_carryOut_70 ⟨by decide, by decide⟩ (Nat.le_of_ble_eq_true rfl) ?_
    refine r_if_ne hJ (tgt := 78) dX4_carryOut_73 (by decide) (fun c73 => ?_) (fun c73 => ?_)
    · have c73 := bI_ne c73
      refine r_aload_n hJ dX4_carryOut_78 rfl jg0 ?_
      refine r_g4_0 hJ m204 dX4_carryOut_79 ?_
      refine r_iload_n hJ dX4_carryOut_82 rfl jg1 ?_
      refine r_iconst hJ (v := nI 1) dX4_carryOut_83 (by decide) ?_
      refine r_iload_n hJ dX4_carryOut_84 rfl jg3 ?_
      refine r_V3v hJ kX4_206 (rcv2 E (by decide)) (g2_leaseRow l E S x (o := 0) (by decide) hz hz4 ha (m := 1) (by decide) (S 8 0 6)) dX4_carryOut_85 ⟨by decide, by decide⟩ (Nat.le_of_ble_eq_true rfl) ?_
      refine r_pop hJ dX4_carryOut_88 rfl ?_
      refine r_iconst hJ (v := nI 1) dX4_carryOut_89 (by decide) ?_
      have hc : cryP (S 0) z (S 8 0 3) (S 8 0 4) (S 8 0 5) (S 8 0 6) = some (leaseRowP (S 0) z a 1 (S 8 0 6)) := by
        unfold cryP
        rw [if_pos hk, he, if_pos c73, toN_nI (by omega)]
      exact ret_z hF dX4_carryOut_90 (by decide) (by rw [hc]; rfl) (by rw [hc]; rfl)
    · rw [bI_0] at c73
      refine r_iconst hJ (v := nI 0) dX4_carryOut_76 (by decide) ?_
      have hc : cryP (S 0) z (S 8 0 3) (S 8 0 4) (S 8 0 5) (S 8 0 6) = none := by
        unfold cryP
        rw [if_pos hk, he, if_neg (by rw [c73]; decide)]
      exact ret_z hF dX4_carryOut_77 (by decide) (by rw [hc]; rfl) (by rw [hc]; show (setO S 0 (S 0), x) = _; rw [setO_self])
  · obtain ⟨w, hw3, hw, -⟩ := hP.2.2 f hf
    refine r_aload_n hJ dX4_carryOut_0 rfl jg0 ?_
    refine r_g4_3 hJ m207 dX4_carryOut_1 ?_
    refine r_g1_5 hJ m182 dX4_carryOut_4 ?_
    rw [he]
    refine r_istore_n hJ dX4_carryOut_7 rfl (jp1 rfl rfl) ?_
    refine r_aload_n hJ dX4_carryOut_8 rfl jg0 ?_
    refine r_g4_3 hJ m207 dX4_carryOut_9 ?_
    refine r_g1_6 hJ m184 dX4_carryOut_12 ?_
    rw [hfe]
    refine r_istore_n hJ dX4_carryOut_15 rfl (jp2 rfl rfl) ?_
    refine r_aload_n hJ dX4_carryOut_16 rfl jg0 ?_
    refine r_g4_3 hJ m207 dX4_carryOut_17 ?_
    refine r_g1_7 hJ m186 dX4_carryOut_20 ?_
    refine r_istore_n hJ dX4_carryOut_23 rfl (jp3 rfl rfl) ?_
    refine r_aload_n hJ dX4_carryOut_24 rfl jg0 ?_
    refine r_g4_3 hJ m207 dX4_carryOut_25 ?_
    refine r_g1_4 hJ m180 dX4_carryOut_28 ?_
    rw [hk]
    refine r_lookup hJ (off := 60) (tgt := 91) dX4_carryOut_31 (by decide) (by decide) (by decide) ?_
    refine r_aload_n hJ dX4_carryOut_91 rfl jg0 ?_
    refine r_g4_0 hJ m204 dX4_carryOut_92 ?_
    refine r_iload_n hJ dX4_carryOut_95 rfl jg2 ?_
    refine r_V1v hJ kX4_197 (rcv2 E (by decide)) (g2_hasNumber l E S x (o := 0) (by decide) (nI f)) dX4_carryOut_96 ⟨by decide, by decide⟩ (Nat.le_of_ble_eq_true rfl) ?_
    refine r_if_eq hJ (tgt := 114) dX4_carryOut_99 (by decide) (fun c99 => ?_) (fun c99 => ?_)
    · rw [bI_0] at c99
      refine r_iconst hJ (v := nI 0) dX4_carryOut_114 (by decide) ?_
      have hc : cryP (S 0) z (S 8 0 3) (S 8 0 4) (S 8 0 5) (S 8 0 6) = none := by
        unfold cryP
        rw [if_neg (by rw [hk]; decide), if_pos hk, he, hfe, if_neg (by rw [c99]; decide)]
      exact ret_z hF dX4_carryOut_115 (by decide) (by rw [hc]; rfl) (by rw [hc]; show (setO S 0 (S 0), x) = _; rw [setO_self])
    · have c99 := bI_ne c99
      refine r_aload_n hJ dX4_carryOut_102 rfl jg0 ?_
      refine r_g4_0 hJ m204 dX4_carryOut_103 ?_
      refine r_iload_n hJ dX4_carryOut_106 rfl jg1 ?_
      refine r_iload_n hJ dX4_carryOut_107 rfl jg2 ?_
      refine r_V2v hJ kX4_48 (rcv2 E (by decide)) (g2_mayWish l E S x (o := 0) (by decide) (nI a) hf hw3 hw) dX4_carryOut_108 ⟨by decide, by decide⟩ (Nat.le_of_ble_eq_true rfl) ?_
      refine r_if_ne hJ (tgt := 116) dX4_carryOut_111 (by decide) (fun c111 => ?_) (fun c111 => ?_)
      · have c111 := bI_ne c111
        refine r_aload_n hJ dX4_carryOut_116 rfl jg0 ?_
        refine r_g4_0 hJ m204 dX4_carryOut_117 ?_
        refine r_iload_n hJ dX4_carryOut_120 rfl jg1 ?_
        refine r_iload_n hJ dX4_carryOut_121 rfl jg2 ?_
        refine r_iload_n hJ dX4_carryOut_122 rfl jg3 ?_
        refine r_V3v hJ kX4_60 (rcv2 E (by decide)) (g2_addWish l E S x (o := 0) (by decide) ha hf (S 8 0 6) hw3 hw) dX4_carryOut_123 ⟨by decide, by decide⟩ (Nat.le_of_ble_eq_true rfl) ?_
        refine r_pop hJ dX4_carryOut_126 rfl ?_
        refine r_iconst hJ (v := nI 1) dX4_carryOut_127 (by decide) ?_
        have hc : cryP (S 0) z (S 8 0 3) (S 8 0 4) (S 8 0 5) (S 8 0 6) = some (addW (S 0) a f (S 8 0 6)) := by
          unfold cryP
          rw [if_neg (by rw [hk]; decide), if_pos hk, he, hfe, if_pos c99, toN_nI (by omega), if_pos c111, toN_nI (by omega)]
        exact ret_z hF dX4_carryOut_128 (by decide) (by rw [hc]; rfl) (by rw [hc]; rfl)
      · rw [bI_0] at c111
        refine r_iconst hJ (v := nI 0) dX4_carryOut_114 (by decide) ?_
        have hc : cryP (S 0) z (S 8 0 3) (S 8 0 4) (S 8 0 5) (S 8 0 6) = none := by
          unfold cryP
          rw [if_neg (by rw [hk]; decide), if_pos hk, he, hfe, if_pos c99, toN_nI (by omega), if_neg (by rw [c111]; decide)]
        exact ret_z hF dX4_carryOut_115 (by decide) (by rw [hc]; rfl) (by rw [hc]; show (setO S 0 (S 0), x) = _; rw [setO_self])
  · refine r_aload_n hJ dX4_carryOut_0 rfl jg0 ?_
    refine r_g4_3 hJ m207 dX4_carryOut_1 ?_
    refine r_g1_5 hJ m182 dX4_carryOut_4 ?_
    rw [he]
    refine r_istore_n hJ dX4_carryOut_7 rfl (jp1 rfl rfl) ?_
    refine r_aload_n hJ dX4_carryOut_8 rfl jg0 ?_
    refine r_g4_3 hJ m207 dX4_carryOut_9 ?_
    refine r_g1_6 hJ m184 dX4_carryOut_12 ?_
    rw [hfe]
    refine r_istore_n hJ dX4_carryOut_15 rfl (jp2 rfl rfl) ?_
    refine r_aload_n hJ dX4_carryOut_16 rfl jg0 ?_
    refine r_g4_3 hJ m207 dX4_carryOut_17 ?_
    refine r_g1_7 hJ m186 dX4_carryOut_20 ?_
    rw [hse]
    refine r_istore_n hJ dX4_carryOut_23 rfl (jp3 rfl rfl) ?_
    refine r_aload_n hJ dX4_carryOut_24 rfl jg0 ?_
    refine r_g4_3 hJ m207 dX4_carryOut_25 ?_
    refine r_g1_4 hJ m180 dX4_carryOut_28 ?_
    rw [hk]
    refine r_lookup hJ (off := 98) (tgt := 129) dX4_carryOut_31 (by decide) (by decide) (by decide) ?_
    refine r_aload_n hJ dX4_carryOut_129 rfl jg0 ?_
    refine r_g4_0 hJ m204 dX4_carryOut_130 ?_
    refine r_iload_n hJ dX4_carryOut_133 rfl jg2 ?_
    refine r_V1v hJ kX4_197 (rcv2 E (by decide)) (g2_hasNumber l E S x (o := 0) (by decide) (nI f)) dX4_carryOut_134 ⟨by decide, by decide⟩ (Nat.le_of_ble_eq_true rfl) ?_
    refine r_if_eq hJ (tgt := 151) dX4_carryOut_137 (by decide) (fun c137 => ?_) (fun c137 => ?_)
    · rw [bI_0] at c137
      refine r_iconst hJ (v := nI 0) dX4_carryOut_151 (by decide) ?_
      have hc : cryP (S 0) z (S 8 0 3) (S 8 0 4) (S 8 0 5) (S 8 0 6) = none := by
        unfold cryP
        rw [if_neg (by rw [hk]; decide), if_neg (by rw [hk]; decide), if_pos hk, hfe, hse, he, if_neg (by rw [c137]; decide)]
      exact ret_z hF dX4_carryOut_152 (by decide) (by rw [hc]; rfl) (by rw [hc]; show (setO S 0 (S 0), x) = _; rw [setO_self])
    · have c137 := bI_ne c137
      refine r_aload_n hJ dX4_carryOut_140 rfl jg0 ?_
      refine r_g4_0 hJ m204 dX4_carryOut_141 ?_
      refine r_iload_n hJ dX4_carryOut_144 rfl jg3 ?_
      refine r_V1v hJ kX4_197 (rcv2 E (by decide)) (g2_hasNumber l E S x (o := 0) (by decide) (nI s)) dX4_carryOut_145 ⟨by decide, by decide⟩ (Nat.le_of_ble_eq_true rfl) ?_
      refine r_if_ne hJ (tgt := 153) dX4_carryOut_148 (by decide) (fun c148 => ?_) (fun c148 => ?_)
      · have c148 := bI_ne c148
        refine r_aload_n hJ dX4_carryOut_153 rfl jg0 ?_
        refine r_g4_0 hJ m204 dX4_carryOut_154 ?_
        refine r_iload_n hJ dX4_carryOut_157 rfl jg1 ?_
        refine r_iload_n hJ dX4_carryOut_158 rfl jg2 ?_
        refine r_iload_n hJ dX4_carryOut_159 rfl jg3 ?_
        refine r_V3v hJ kX4_81 (rcv2 E (by decide)) (g2_freeSpan l E S x (o := 0) (by decide) hP (nI a) hfs hs) dX4_carryOut_160 ⟨by decide, by decide⟩ (Nat.le_of_ble_eq_true rfl) ?_
        refine r_pop hJ dX4_carryOut_163 rfl ?_
        refine r_iconst hJ (v := nI 1) dX4_carryOut_164 (by decide) ?_
        have hc : cryP (S 0) z (S 8 0 3) (S 8 0 4) (S 8 0 5) (S 8 0 6) = some (spanN (nI a) (s + 1 - f) f (S 0, 0)).1 := by
          unfold cryP
          rw [if_neg (by rw [hk]; decide), if_neg (by rw [hk]; decide), if_pos hk, hfe, hse, he, if_pos c137, if_pos c148, toN_nI (by omega), toN_nI (by omega)]
        exact ret_z hF dX4_carryOut_165 (by decide) (by rw [hc]; rfl) (by rw [hc]; rfl)
      · rw [bI_0] at c148
        refine r_iconst hJ (v := nI 0) dX4_carryOut_151 (by decide) ?_
        have hc : cryP (S 0) z (S 8 0 3) (S 8 0 4) (S 8 0 5) (S 8 0 6) = none := by
          unfold cryP
          rw [if_neg (by rw [hk]; decide), if_neg (by rw [hk]; decide), if_pos hk, hfe, hse, he, if_pos c137, if_neg (by rw [c148]; decide)]
        exact ret_z hF dX4_carryOut_152 (by decide) (by rw [hc]; rfl) (by rw [hc]; show (setO S 0 (S 0), x) = _; rw [setO_self])
  · refine r_aload_n hJ dX4_carryOut_0 rfl jg0 ?_
    refine r_g4_3 hJ m207 dX4_carryOut_1 ?_
    refine r_g1_5 hJ m182 dX4_carryOut_4 ?_
    refine r_istore_n hJ dX4_carryOut_7 rfl (jp1 rfl rfl) ?_
    refine r_aload_n hJ dX4_carryOut_8 rfl jg0 ?_
    refine r_g4_3 hJ m207 dX4_carryOut_9 ?_
    refine r_g1_6 hJ m184 dX4_carryOut_12 ?_
    refine r_istore_n hJ dX4_carryOut_15 rfl (jp2 rfl rfl) ?_
    refine r_aload_n hJ dX4_carryOut_16 rfl jg0 ?_
    refine r_g4_3 hJ m207 dX4_carryOut_17 ?_
    refine r_g1_7 hJ m186 dX4_carryOut_20 ?_
    rw [hse]
    refine r_istore_n hJ dX4_carryOut_23 rfl (jp3 rfl rfl) ?_
    refine r_aload_n hJ dX4_carryOut_24 rfl jg0 ?_
    refine r_g4_3 hJ m207 dX4_carryOut_25 ?_
    refine r_g1_4 hJ m180 dX4_carryOut_28 ?_
    rw [hk]
    refine r_lookup hJ (off := 135) (tgt := 166) dX4_carryOut_31 (by decide) (by decide) (by decide) ?_
    refine r_aload_n hJ dX4_carryOut_166 rfl jg0 ?_
    refine r_g4_0 hJ m204 dX4_carryOut_167 ?_
    refine r_iload_n hJ dX4_carryOut_170 rfl jg3 ?_
    refine r_V1v hJ kX4_84 (rcv2 E (by decide)) (g2_hasTimeFor l E S x (o := 0) (by decide) (nI s)) dX4_carryOut_171 ⟨by decide, by decide⟩ (Nat.le_of_ble_eq_true rfl) ?_
    refine r_if_ne hJ (tgt := 179) dX4_carryOut_174 (by decide) (fun c174 => ?_) (fun c174 => ?_)
    · have c174 := bI_ne c174
      refine r_aload_n hJ dX4_carryOut_179 rfl jg0 ?_
      refine r_g4_0 hJ m204 dX4_carryOut_180 ?_
      refine r_iload_n hJ dX4_carryOut_183 rfl jg3 ?_
      refine r_V1v hJ kX4_88 (rcv2 E (by decide)) (g2_passUnits l E S x (o := 0) (by decide) hP (b := s) (by omega)) dX4_carryOut_184 ⟨by decide, by decide⟩ (Nat.le_of_ble_eq_true rfl) ?_
      refine r_pop hJ dX4_carryOut_187 rfl ?_
      refine r_iconst hJ (v := nI 1) dX4_carryOut_188 (by decide) ?_
      have hc : cryP (S 0) z (S 8 0 3) (S 8 0 4) (S 8 0 5) (S 8 0 6) = some (passN s (S 0)) := by
        unfold cryP
        rw [if_neg (by rw [hk]; decide), if_neg (by rw [hk]; decide), if_neg (by rw [hk]; decide), hse, if_pos c174, toN_nI (by omega)]
      exact ret_z hF dX4_carryOut_189 (by decide) (by rw [hc]; rfl) (by rw [hc]; rfl)
    · rw [bI_0] at c174
      refine r_iconst hJ (v := nI 0) dX4_carryOut_177 (by decide) ?_
      have hc : cryP (S 0) z (S 8 0 3) (S 8 0 4) (S 8 0 5) (S 8 0 6) = none := by
        unfold cryP
        rw [if_neg (by rw [hk]; decide), if_neg (by rw [hk]; decide), if_neg (by rw [hk]; decide), hse, if_neg (by rw [c174]; decide)]
      exact ret_z hF dX4_carryOut_178 (by decide) (by rw [hc]; rfl) (by rw [hc]; show (setO S 0 (S 0), x) = _; rw [setO_self])
