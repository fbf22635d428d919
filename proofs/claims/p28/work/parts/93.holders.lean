/-! THE LAW'S holders -/
theorem hol_00 {l : Launch} {E : jE} {n0 cap : Nat} {J : jT} (hJ : jR l E RL cL_holders 9 10 n0 cap J) {S : jS} {A : jO} {K : Nat → Nat} {y : Int64 × Nat} {z h : Nat} (hz : S 0 1 3 = nI z) (hz6 : z ≤ 64) (hh : h < 8) (hP : PI (S 0)) (g3 : ofH (S 0) h 3 = -1) (g01 : ofH (S 0) h 0 + ofH (S 0) h 1 = nI 0) (g4 : ofH (S 0) h 4 = -1) (g0 : ofH (S 0) h 0 = nI 0)
    (kk : J (setO S 1 A, (K, y)) 18 [some (.ref (ad E 11 0)), some (.int (hS (S 0) 0 (h + 1))), some (.int (hS (S 0) 1 (h + 1))), some (.int (hS (S 0) 2 (h + 1))), some (.int (hS (S 0) 5 (h + 1))), some (.int (hS (S 0) 6 (h + 1))), some (.int (nI 1)), some (.int (nI (h + 1))), none] []) : J (setO S 1 A, (K, y)) 18 [some (.ref (ad E 11 0)), some (.int (hS (S 0) 0 h)), some (.int (hS (S 0) 1 h)), some (.int (hS (S 0) 2 h)), some (.int (hS (S 0) 5 h)), some (.int (hS (S 0) 6 h)), some (.int (nI 1)), some (.int (nI h)), none] [] := by
  refine r_iload hJ dL_holders_18 jg7 ?_
  refine r_bipush hJ (v := nI 8) dL_holders_20 (by decide) ?_
  refine r_icmp_ge_f hJ (tgt := 233) (nI_ge hh (by decide)) dL_holders_22 (by decide) ?_
  refine r_iload hJ dL_holders_25 jg6 ?_
  refine r_if_eq_f hJ (tgt := 233) (by decide) dL_holders_27 (by decide) ?_
  refine r_aload_n hJ dL_holders_30 rfl jg0 ?_
  refine r_iload hJ dL_holders_31 jg7 ?_
  refine r_iconst hJ (v := nI 3) dL_holders_33 (by decide) ?_
  refine r_V2v hJ kL_85 (rcv4 E) (l_hol hh hP (by decide) (g3)) dL_holders_34 ⟨by decide, by decide⟩ (Nat.le_of_ble_eq_true rfl) ?_
  refine r_istore hJ dL_holders_37 (jp8 rfl rfl) ?_
  refine r_iload hJ dL_holders_39 jg8 ?_
  refine r_iconst hJ (v := (-1)) dL_holders_41 (by decide) ?_
  refine r_icmp_ne_f hJ (tgt := 49) (rfl) dL_holders_42 (by decide) ?_
  refine r_iconst hJ (v := nI 1) dL_holders_45 (by decide) ?_
  refine r_goto hJ (tgt := 50) dL_holders_46 (by decide) ?_
  refine r_aload_n hJ dL_holders_50 rfl jg0 ?_
  refine r_iload hJ dL_holders_51 jg7 ?_
  refine r_iconst hJ (v := nI 0) dL_holders_53 (by decide) ?_
  refine r_V2v hJ kL_85 (rcv4 E) (l_hol hh hP (by decide) (rfl)) dL_holders_54 ⟨by decide, by decide⟩ (Nat.le_of_ble_eq_true rfl) ?_
  refine r_aload_n hJ dL_holders_57 rfl jg0 ?_
  refine r_iload hJ dL_holders_58 jg7 ?_
  refine r_iconst hJ (v := nI 1) dL_holders_60 (by decide) ?_
  refine r_V2v hJ kL_85 (rcv4 E) (l_hol hh hP (by decide) (rfl)) dL_holders_61 ⟨by decide, by decide⟩ (Nat.le_of_ble_eq_true rfl) ?_
  refine r_iadd hJ dL_holders_64 ?_
  refine r_if_ne_f hJ (tgt := 72) (g01) dL_holders_65 (by decide) ?_
  refine r_iconst hJ (v := nI 1) dL_holders_68 (by decide) ?_
  refine r_goto hJ (tgt := 73) dL_holders_69 (by decide) ?_
  refine r_icmp_ne_f hJ (tgt := 98) (rfl) dL_holders_73 (by decide) ?_
  refine r_iload hJ dL_holders_76 jg8 ?_
  refine r_iconst hJ (v := (-1)) dL_holders_78 (by decide) ?_
  refine r_icmp_eq_t hJ (tgt := 94) (rfl) dL_holders_79 (by decide) ?_
  refine r_iconst hJ (v := nI 1) dL_holders_94 (by decide) ?_
  refine r_goto hJ (tgt := 99) dL_holders_95 (by decide) ?_
  refine r_istore hJ dL_holders_99 (jp6 rfl rfl) ?_
  refine r_iload hJ dL_holders_101 jg6 ?_
  refine r_if_eq_f hJ (tgt := 169) (by decide) dL_holders_103 (by decide) ?_
  refine r_aload_n hJ dL_holders_106 rfl jg0 ?_
  refine r_iload hJ dL_holders_107 jg7 ?_
  refine r_iconst hJ (v := nI 4) dL_holders_109 (by decide) ?_
  refine r_V2v hJ kL_85 (rcv4 E) (l_hol hh hP (by decide) (g4)) dL_holders_110 ⟨by decide, by decide⟩ (Nat.le_of_ble_eq_true rfl) ?_
  refine r_iconst hJ (v := (-1)) dL_holders_113 (by decide) ?_
  refine r_icmp_ne_f hJ (tgt := 121) (rfl) dL_holders_114 (by decide) ?_
  refine r_iconst hJ (v := nI 1) dL_holders_117 (by decide) ?_
  refine r_goto hJ (tgt := 122) dL_holders_118 (by decide) ?_
  refine r_aload_n hJ dL_holders_122 rfl jg0 ?_
  refine r_iload hJ dL_holders_123 jg7 ?_
  refine r_iconst hJ (v := nI 0) dL_holders_125 (by decide) ?_
  refine r_V2v hJ kL_85 (rcv4 E) (l_hol hh hP (by decide) (rfl)) dL_holders_126 ⟨by decide, by decide⟩ (Nat.le_of_ble_eq_true rfl) ?_
  refine r_if_ne_f hJ (tgt := 136) (g0) dL_holders_129 (by decide) ?_
  refine r_iconst hJ (v := nI 1) dL_holders_132 (by decide) ?_
  refine r_goto hJ (tgt := 137) dL_holders_133 (by decide) ?_
  refine r_icmp_ne_f hJ (tgt := 169) (rfl) dL_holders_137 (by decide) ?_
  refine r_aload_n hJ dL_holders_140 rfl jg0 ?_
  refine r_iload hJ dL_holders_141 jg7 ?_
  refine r_iconst hJ (v := nI 0) dL_holders_143 (by decide) ?_
  refine r_V2v hJ kL_85 (rcv4 E) (l_hol hh hP (by decide) (rfl)) dL_holders_144 ⟨by decide, by decide⟩ (Nat.le_of_ble_eq_true rfl) ?_
  refine r_if_eq_t hJ (tgt := 165) (g0) dL_holders_147 (by decide) ?_
  refine r_iconst hJ (v := nI 1) dL_holders_165 (by decide) ?_
  refine r_goto hJ (tgt := 170) dL_holders_166 (by decide) ?_
  refine r_istore hJ dL_holders_170 (jp6 rfl rfl) ?_
  refine r_iload_n hJ dL_holders_172 rfl jg1 ?_
  refine r_aload_n hJ dL_holders_173 rfl jg0 ?_
  refine r_iload hJ dL_holders_174 jg7 ?_
  refine r_iconst hJ (v := nI 0) dL_holders_176 (by decide) ?_
  refine r_V2v hJ kL_85 (rcv4 E) (l_hol hh hP (by decide) (rfl)) dL_holders_177 ⟨by decide, by decide⟩ (Nat.le_of_ble_eq_true rfl) ?_
  refine r_iadd hJ dL_holders_180 ?_
  refine r_istore_n hJ dL_holders_181 rfl (jp1 rfl rfl) ?_
  refine r_iload_n hJ dL_holders_182 rfl jg2 ?_
  refine r_aload_n hJ dL_holders_183 rfl jg0 ?_
  refine r_iload hJ dL_holders_184 jg7 ?_
  refine r_iconst hJ (v := nI 1) dL_holders_186 (by decide) ?_
  refine r_V2v hJ kL_85 (rcv4 E) (l_hol hh hP (by decide) (rfl)) dL_holders_187 ⟨by decide, by decide⟩ (Nat.le_of_ble_eq_true rfl) ?_
  refine r_iadd hJ dL_holders_190 ?_
  refine r_istore_n hJ dL_holders_191 rfl (jp2 rfl rfl) ?_
  refine r_iload_n hJ dL_holders_192 rfl jg3 ?_
  refine r_aload_n hJ dL_holders_193 rfl jg0 ?_
  refine r_iload hJ dL_holders_194 jg7 ?_
  refine r_iconst hJ (v := nI 2) dL_holders_196 (by decide) ?_
  refine r_V2v hJ kL_85 (rcv4 E) (l_hol hh hP (by decide) (rfl)) dL_holders_197 ⟨by decide, by decide⟩ (Nat.le_of_ble_eq_true rfl) ?_
  refine r_iadd hJ dL_holders_200 ?_
  refine r_istore_n hJ dL_holders_201 rfl (jp3 rfl rfl) ?_
  refine r_iload hJ dL_holders_202 jg4 ?_
  refine r_aload_n hJ dL_holders_204 rfl jg0 ?_
  refine r_iload hJ dL_holders_205 jg7 ?_
  refine r_iconst hJ (v := nI 5) dL_holders_207 (by decide) ?_
  refine r_V2v hJ kL_85 (rcv4 E) (l_hol hh hP (by decide) (rfl)) dL_holders_208 ⟨by decide, by decide⟩ (Nat.le_of_ble_eq_true rfl) ?_
  refine r_iadd hJ dL_holders_211 ?_
  refine r_istore hJ dL_holders_212 (jp4 rfl rfl) ?_
  refine r_iload hJ dL_holders_214 jg5 ?_
  refine r_aload_n hJ dL_holders_216 rfl jg0 ?_
  refine r_iload hJ dL_holders_217 jg7 ?_
  refine r_bipush hJ (v := nI 6) dL_holders_219 (by decide) ?_
  refine r_V2v hJ kL_85 (rcv4 E) (l_hol hh hP (by decide) (rfl)) dL_holders_221 ⟨by decide, by decide⟩ (Nat.le_of_ble_eq_true rfl) ?_
  refine r_iadd hJ dL_holders_224 ?_
  refine r_istore hJ dL_holders_225 (jp5 rfl rfl) ?_
  refine r_iinc hJ dL_holders_227 jg7 (ii1 _) (jp7 rfl rfl) ?_
  refine r_goto hJ (tgt := 18) dL_holders_230 (by decide) ?_
  exact r_fgt hJ (lless_s (lless_s (lless_s (lless_s (lless_s (lless_s (lless_s (lless_s (lless_n lless_0))))))))) kk
theorem hol_01 {l : Launch} {E : jE} {n0 cap : Nat} {J : jT} (hJ : jR l E RL cL_holders 9 10 n0 cap J) {S : jS} {A : jO} {K : Nat → Nat} {y : Int64 × Nat} {z h : Nat} (hz : S 0 1 3 = nI z) (hz6 : z ≤ 64) (hh : h < 8) (hP : PI (S 0)) (g3 : ofH (S 0) h 3 = -1) (g01 : ofH (S 0) h 0 + ofH (S 0) h 1 = nI 0) (g4 : ¬ ofH (S 0) h 4 = -1) (g0 : ¬ ofH (S 0) h 0 = nI 0) (g5 : S 0 0 0 < ofH (S 0) h 4)
    (kk : J (setO S 1 A, (K, y)) 18 [some (.ref (ad E 11 0)), some (.int (hS (S 0) 0 (h + 1))), some (.int (hS (S 0) 1 (h + 1))), some (.int (hS (S 0) 2 (h + 1))), some (.int (hS (S 0) 5 (h + 1))), some (.int (hS (S 0) 6 (h + 1))), some (.int (nI 1)), some (.int (nI (h + 1))), none] []) : J (setO S 1 A, (K, y)) 18 [some (.ref (ad E 11 0)), some (.int (hS (S 0) 0 h)), some (.int (hS (S 0) 1 h)), some (.int (hS (S 0) 2 h)), some (.int (hS (S 0) 5 h)), some (.int (hS (S 0) 6 h)), some (.int (nI 1)), some (.int (nI h)), none] [] := by
  refine r_iload hJ dL_holders_18 jg7 ?_
  refine r_bipush hJ (v := nI 8) dL_holders_20 (by decide) ?_
  refine r_icmp_ge_f hJ (tgt := 233) (nI_ge hh (by decide)) dL_holders_22 (by decide) ?_
  refine r_iload hJ dL_holders_25 jg6 ?_
  refine r_if_eq_f hJ (tgt := 233) (by decide) dL_holders_27 (by decide) ?_
  refine r_aload_n hJ dL_holders_30 rfl jg0 ?_
  refine r_iload hJ dL_holders_31 jg7 ?_
  refine r_iconst hJ (v := nI 3) dL_holders_33 (by decide) ?_
  refine r_V2v hJ kL_85 (rcv4 E) (l_hol hh hP (by decide) (g3)) dL_holders_34 ⟨by decide, by decide⟩ (Nat.le_of_ble_eq_true rfl) ?_
  refine r_istore hJ dL_holders_37 (jp8 rfl rfl) ?_
  refine r_iload hJ dL_holders_39 jg8 ?_
  refine r_iconst hJ (v := (-1)) dL_holders_41 (by decide) ?_
  refine r_icmp_ne_f hJ (tgt := 49) (rfl) dL_holders_42 (by decide) ?_
  refine r_iconst hJ (v := nI 1) dL_holders_45 (by decide) ?_
  refine r_goto hJ (tgt := 50) dL_holders_46 (by decide) ?_
  refine r_aload_n hJ dL_holders_50 rfl jg0 ?_
  refine r_iload hJ dL_holders_51 jg7 ?_
  refine r_iconst hJ (v := nI 0) dL_holders_53 (by decide) ?_
  refine r_V2v hJ kL_85 (rcv4 E) (l_hol hh hP (by decide) (rfl)) dL_holders_54 ⟨by decide, by decide⟩ (Nat.le_of_ble_eq_true rfl) ?_
  refine r_aload_n hJ dL_holders_57 rfl jg0 ?_
  refine r_iload hJ dL_holders_58 jg7 ?_
  refine r_iconst hJ (v := nI 1) dL_holders_60 (by decide) ?_
  refine r_V2v hJ kL_85 (rcv4 E) (l_hol hh hP (by decide) (rfl)) dL_holders_61 ⟨by decide, by decide⟩ (Nat.le_of_ble_eq_true rfl) ?_
  refine r_iadd hJ dL_holders_64 ?_
  refine r_if_ne_f hJ (tgt := 72) (g01) dL_holders_65 (by decide) ?_
  refine r_iconst hJ (v := nI 1) dL_holders_68 (by decide) ?_
  refine r_goto hJ (tgt := 73) dL_holders_69 (by decide) ?_
  refine r_icmp_ne_f hJ (tgt := 98) (rfl) dL_holders_73 (by decide) ?_
  refine r_iload hJ dL_holders_76 jg8 ?_
  refine r_iconst hJ (v := (-1)) dL_holders_78 (by decide) ?_
  refine r_icmp_eq_t hJ (tgt := 94) (rfl) dL_holders_79 (by decide) ?_
  refine r_iconst hJ (v := nI 1) dL_holders_94 (by decide) ?_
  refine r_goto hJ (tgt := 99) dL_holders_95 (by decide) ?_
  refine r_istore hJ dL_holders_99 (jp6 rfl rfl) ?_
  refine r_iload hJ dL_holders_101 jg6 ?_
  refine r_if_eq_f hJ (tgt := 169) (by decide) dL_holders_103 (by decide) ?_
  refine r_aload_n hJ dL_holders_106 rfl jg0 ?_
  refine r_iload hJ dL_holders_107 jg7 ?_
  refine r_iconst hJ (v := nI 4) dL_holders_109 (by decide) ?_
  refine r_V2v hJ kL_85 (rcv4 E) (l_hol hh hP (by decide) (rfl)) dL_holders_110 ⟨by decide, by decide⟩ (Nat.le_of_ble_eq_true rfl) ?_
  refine r_iconst hJ (v := (-1)) dL_holders_113 (by decide) ?_
  refine r_icmp_ne_t hJ (tgt := 121) (g4) dL_holders_114 (by decide) ?_
  refine r_iconst hJ (v := nI 0) dL_holders_121 (by decide) ?_
  refine r_aload_n hJ dL_holders_122 rfl jg0 ?_
  refine r_iload hJ dL_holders_123 jg7 ?_
  refine r_iconst hJ (v := nI 0) dL_holders_125 (by decide) ?_
  refine r_V2v hJ kL_85 (rcv4 E) (l_hol hh hP (by decide) (rfl)) dL_holders_126 ⟨by decide, by decide⟩ (Nat.le_of_ble_eq_true rfl) ?_
  refine r_if_ne_t hJ (tgt := 136) (g0) dL_holders_129 (by decide) ?_
  refine r_iconst hJ (v := nI 0) dL_holders_136 (by decide) ?_
  refine r_icmp_ne_f hJ (tgt := 169) (rfl) dL_holders_137 (by decide) ?_
  refine r_aload_n hJ dL_holders_140 rfl jg0 ?_
  refine r_iload hJ dL_holders_141 jg7 ?_
  refine r_iconst hJ (v := nI 0) dL_holders_143 (by decide) ?_
  refine r_V2v hJ kL_85 (rcv4 E) (l_hol hh hP (by decide) (rfl)) dL_holders_144 ⟨by decide, by decide⟩ (Nat.le_of_ble_eq_true rfl) ?_
  refine r_if_eq_f hJ (tgt := 165) (g0) dL_holders_147 (by decide) ?_
  refine r_aload_n hJ dL_holders_150 rfl jg0 ?_
  refine r_iload hJ dL_holders_151 jg7 ?_
  refine r_iconst hJ (v := nI 4) dL_holders_153 (by decide) ?_
  refine r_V2v hJ kL_85 (rcv4 E) (l_hol hh hP (by decide) (rfl)) dL_holders_154 ⟨by decide, by decide⟩ (Nat.le_of_ble_eq_true rfl) ?_
  refine r_aload_n hJ dL_holders_157 rfl jg0 ?_
  refine r_iconst hJ (v := nI 0) dL_holders_158 (by decide) ?_
  refine r_V1v hJ kL_73 (rcv4 E) (l_cnt hz hz6 (by decide) (rfl : cntA S z 0 = S 0 0 0)) dL_holders_159 ⟨by decide, by decide⟩ (Nat.le_of_ble_eq_true rfl) ?_
  refine r_icmp_le_f hJ (tgt := 169) (Int32.not_le.mpr g5) dL_holders_162 (by decide) ?_
  refine r_iconst hJ (v := nI 1) dL_holders_165 (by decide) ?_
  refine r_goto hJ (tgt := 170) dL_holders_166 (by decide) ?_
  refine r_istore hJ dL_holders_170 (jp6 rfl rfl) ?_
  refine r_iload_n hJ dL_holders_172 rfl jg1 ?_
  refine r_aload_n hJ dL_holders_173 rfl jg0 ?_
  refine r_iload hJ dL_holders_174 jg7 ?_
  refine r_iconst hJ (v := nI 0) dL_holders_176 (by decide) ?_
  refine r_V2v hJ kL_85 (rcv4 E) (l_hol hh hP (by decide) (rfl)) dL_holders_177 ⟨by decide, by decide⟩ (Nat.le_of_ble_eq_true rfl) ?_
  refine r_iadd hJ dL_holders_180 ?_
  refine r_istore_n hJ dL_holders_181 rfl (jp1 rfl rfl) ?_
  refine r_iload_n hJ dL_holders_182 rfl jg2 ?_
  refine r_aload_n hJ dL_holders_183 rfl jg0 ?_
  refine r_iload hJ dL_holders_184 jg7 ?_
  refine r_iconst hJ (v := nI 1) dL_holders_186 (by decide) ?_
  refine r_V2v hJ kL_85 (rcv4 E) (l_hol hh hP (by decide) (rfl)) dL_holders_187 ⟨by decide, by decide⟩ (Nat.le_of_ble_eq_true rfl) ?_
  refine r_iadd hJ dL_holders_190 ?_
  refine r_istore_n hJ dL_holders_191 rfl (jp2 rfl rfl) ?_
  refine r_iload_n hJ dL_holders_192 rfl jg3 ?_
  refine r_aload_n hJ dL_holders_193 rfl jg0 ?_
  refine r_iload hJ dL_holders_194 jg7 ?_
  refine r_iconst hJ (v := nI 2) dL_holders_196 (by decide) ?_
  refine r_V2v hJ kL_85 (rcv4 E) (l_hol hh hP (by decide) (rfl)) dL_holders_197 ⟨by decide, by decide⟩ (Nat.le_of_ble_eq_true rfl) ?_
  refine r_iadd hJ dL_holders_200 ?_
  refine r_istore_n hJ dL_holders_201 rfl (jp3 rfl rfl) ?_
  refine r_iload hJ dL_holders_202 jg4 ?_
  refine r_aload_n hJ dL_holders_204 rfl jg0 ?_
  refine r_iload hJ dL_holders_205 jg7 ?_
  refine r_iconst hJ (v := nI 5) dL_holders_207 (by decide) ?_
  refine r_V2v hJ kL_85 (rcv4 E) (l_hol hh hP (by decide) (rfl)) dL_holders_208 ⟨by decide, by decide⟩ (Nat.le_of_ble_eq_true rfl) ?_
  refine r_iadd hJ dL_holders_211 ?_
  refine r_istore hJ dL_holders_212 (jp4 rfl rfl) ?_
  refine r_iload hJ dL_holders_214 jg5 ?_
  refine r_aload_n hJ dL_holders_216 rfl jg0 ?_
  refine r_iload hJ dL_holders_217 jg7 ?_
  refine r_bipush hJ (v := nI 6) dL_holders_219 (by decide) ?_
  refine r_V2v hJ kL_85 (rcv4 E) (l_hol hh hP (by decide) (rfl)) dL_holders_221 ⟨by decide, by decide⟩ (Nat.le_of_ble_eq_true rfl) ?_
  refine r_iadd hJ dL_holders_224 ?_
  refine r_istore hJ dL_holders_225 (jp5 rfl rfl) ?_
  refine r_iinc hJ dL_holders_227 jg7 (ii1 _) (jp7 rfl rfl) ?_
  refine r_goto hJ (tgt := 18) dL_holders_230 (by decide) ?_
  exact r_fgt hJ (lless_s (lless_s (lless_s (lless_s (lless_s (lless_s (lless_s (lless_s (lless_n lless_0))))))))) kk
theorem hol_10 {l : Launch} {E : jE} {n0 cap : Nat} {J : jT} (hJ : jR l E RL cL_holders 9 10 n0 cap J) {S : jS} {A : jO} {K : Nat → Nat} {y : Int64 × Nat} {z h : Nat} (hz : S 0 1 3 = nI z) (hz6 : z ≤ 64) (hh : h < 8) (hP : PI (S 0)) {m : Nat} (hm : m < z) (hok : okN S (nI m) = true) (g3 : ofH (S 0) h 3 = nI m) (g2 : S 0 2 m = nI h) (g01 : ¬ ofH (S 0) h 0 + ofH (S 0) h 1 = nI 0) (g4 : ofH (S 0) h 4 = -1) (g0 : ofH (S 0) h 0 = nI 0)
    (kk : J (setO S 1 A, (K, y)) 18 [some (.ref (ad E 11 0)), some (.int (hS (S 0) 0 (h + 1))), some (.int (hS (S 0) 1 (h + 1))), some (.int (hS (S 0) 2 (h + 1))), some (.int (hS (S 0) 5 (h + 1))), some (.int (hS (S 0) 6 (h + 1))), some (.int (nI 1)), some (.int (nI (h + 1))), none] []) : J (setO S 1 A, (K, y)) 18 [some (.ref (ad E 11 0)), some (.int (hS (S 0) 0 h)), some (.int (hS (S 0) 1 h)), some (.int (hS (S 0) 2 h)), some (.int (hS (S 0) 5 h)), some (.int (hS (S 0) 6 h)), some (.int (nI 1)), some (.int (nI h)), none] [] := by
  refine r_iload hJ dL_holders_18 jg7 ?_
  refine r_bipush hJ (v := nI 8) dL_holders_20 (by decide) ?_
  refine r_icmp_ge_f hJ (tgt := 233) (nI_ge hh (by decide)) dL_holders_22 (by decide) ?_
  refine r_iload hJ dL_holders_25 jg6 ?_
  refine r_if_eq_f hJ (tgt := 233) (by decide) dL_holders_27 (by decide) ?_
  refine r_aload_n hJ dL_holders_30 rfl jg0 ?_
  refine r_iload hJ dL_holders_31 jg7 ?_
  refine r_iconst hJ (v := nI 3) dL_holders_33 (by decide) ?_
  refine r_V2v hJ kL_85 (rcv4 E) (l_hol hh hP (by decide) (g3)) dL_holders_34 ⟨by decide, by decide⟩ (Nat.le_of_ble_eq_true rfl) ?_
  refine r_istore hJ dL_holders_37 (jp8 rfl rfl) ?_
  refine r_iload hJ dL_holders_39 jg8 ?_
  refine r_iconst hJ (v := (-1)) dL_holders_41 (by decide) ?_
  refine r_icmp_ne_t hJ (tgt := 49) (nI_m1 (by omega)) dL_holders_42 (by decide) ?_
  refine r_iconst hJ (v := nI 0) dL_holders_49 (by decide) ?_
  refine r_aload_n hJ dL_holders_50 rfl jg0 ?_
  refine r_iload hJ dL_holders_51 jg7 ?_
  refine r_iconst hJ (v := nI 0) dL_holders_53 (by decide) ?_
  refine r_V2v hJ kL_85 (rcv4 E) (l_hol hh hP (by decide) (rfl)) dL_holders_54 ⟨by decide, by decide⟩ (Nat.le_of_ble_eq_true rfl) ?_
  refine r_aload_n hJ dL_holders_57 rfl jg0 ?_
  refine r_iload hJ dL_holders_58 jg7 ?_
  refine r_iconst hJ (v := nI 1) dL_holders_60 (by decide) ?_
  refine r_V2v hJ kL_85 (rcv4 E) (l_hol hh hP (by decide) (rfl)) dL_holders_61 ⟨by decide, by decide⟩ (Nat.le_of_ble_eq_true rfl) ?_
  refine r_iadd hJ dL_holders_64 ?_
  refine r_if_ne_t hJ (tgt := 72) (g01) dL_holders_65 (by decide) ?_
  refine r_iconst hJ (v := nI 0) dL_holders_72 (by decide) ?_
  refine r_icmp_ne_f hJ (tgt := 98) (rfl) dL_holders_73 (by decide) ?_
  refine r_iload hJ dL_holders_76 jg8 ?_
  refine r_iconst hJ (v := (-1)) dL_holders_78 (by decide) ?_
  refine r_icmp_eq_f hJ (tgt := 94) (nI_m1 (by omega)) dL_holders_79 (by decide) ?_
  refine r_aload_n hJ dL_holders_82 rfl jg0 ?_
  refine r_iload hJ dL_holders_83 jg8 ?_
  refine r_iconst hJ (v := nI 1) dL_holders_85 (by decide) ?_
  refine r_V2v hJ kL_76 (rcv4 E) (l_num (by omega) hok (by decide) (show ofN (S 0) m 1 = nI h from g2)) dL_holders_86 ⟨by decide, by decide⟩ (Nat.le_of_ble_eq_true rfl) ?_
  refine r_iload hJ dL_holders_89 jg7 ?_
  refine r_icmp_ne_f hJ (tgt := 98) (rfl) dL_holders_91 (by decide) ?_
  refine r_iconst hJ (v := nI 1) dL_holders_94 (by decide) ?_
  refine r_goto hJ (tgt := 99) dL_holders_95 (by decide) ?_
  refine r_istore hJ dL_holders_99 (jp6 rfl rfl) ?_
  refine r_iload hJ dL_holders_101 jg6 ?_
  refine r_if_eq_f hJ (tgt := 169) (by decide) dL_holders_103 (by decide) ?_
  refine r_aload_n hJ dL_holders_106 rfl jg0 ?_
  refine r_iload hJ dL_holders_107 jg7 ?_
  refine r_iconst hJ (v := nI 4) dL_holders_109 (by decide) ?_
  refine r_V2v hJ kL_85 (rcv4 E) (l_hol hh hP (by decide) (g4)) dL_holders_110 ⟨by decide, by decide⟩ (Nat.le_of_ble_eq_true rfl) ?_
  refine r_iconst hJ (v := (-1)) dL_holders_113 (by decide) ?_
  refine r_icmp_ne_f hJ (tgt := 121) (rfl) dL_holders_114 (by decide) ?_
  refine r_iconst hJ (v := nI 1) dL_holders_117 (by decide) ?_
  refine r_goto hJ (tgt := 122) dL_holders_118 (by decide) ?_
  refine r_aload_n hJ dL_holders_122 rfl jg0 ?_
  refine r_iload hJ dL_holders_123 jg7 ?_
  refine r_iconst hJ (v := nI 0) dL_holders_125 (by decide) ?_
  refine r_V2v hJ kL_85 (rcv4 E) (l_hol hh hP (by decide) (rfl)) dL_holders_126 ⟨by decide, by decide⟩ (Nat.le_of_ble_eq_true rfl) ?_
  refine r_if_ne_f hJ (tgt := 136) (g0) dL_holders_129 (by decide) ?_
  refine r_iconst hJ (v := nI 1) dL_holders_132 (by decide) ?_
  refine r_goto hJ (tgt := 137) dL_holders_133 (by decide) ?_
  refine r_icmp_ne_f hJ (tgt := 169) (rfl) dL_holders_137 (by decide) ?_
  refine r_aload_n hJ dL_holders_140 rfl jg0 ?_
  refine r_iload hJ dL_holders_141 jg7 ?_
  refine r_iconst hJ (v := nI 0) dL_holders_143 (by decide) ?_
  refine r_V2v hJ kL_85 (rcv4 E) (l_hol hh hP (by decide) (rfl)) dL_holders_144 ⟨by decide, by decide⟩ (Nat.le_of_ble_eq_true rfl) ?_
  refine r_if_eq_t hJ (tgt := 165) (g0) dL_holders_147 (by decide) ?_
  refine r_iconst hJ (v := nI 1) dL_holders_165 (by decide) ?_
  refine r_goto hJ (tgt := 170) dL_holders_166 (by decide) ?_
  refine r_istore hJ dL_holders_170 (jp6 rfl rfl) ?_
  refine r_iload_n hJ dL_holders_172 rfl jg1 ?_
  refine r_aload_n hJ dL_holders_173 rfl jg0 ?_
  refine r_iload hJ dL_holders_174 jg7 ?_
  refine r_iconst hJ (v := nI 0) dL_holders_176 (by decide) ?_
  refine r_V2v hJ kL_85 (rcv4 E) (l_hol hh hP (by decide) (rfl)) dL_holders_177 ⟨by decide, by decide⟩ (Nat.le_of_ble_eq_true rfl) ?_
  refine r_iadd hJ dL_holders_180 ?_
  refine r_istore_n hJ dL_holders_181 rfl (jp1 rfl rfl) ?_
  refine r_iload_n hJ dL_holders_182 rfl jg2 ?_
  refine r_aload_n hJ dL_holders_183 rfl jg0 ?_
  refine r_iload hJ dL_holders_184 jg7 ?_
  refine r_iconst hJ (v := nI 1) dL_holders_186 (by decide) ?_
  refine r_V2v hJ kL_85 (rcv4 E) (l_hol hh hP (by decide) (rfl)) dL_holders_187 ⟨by decide, by decide⟩ (Nat.le_of_ble_eq_true rfl) ?_
  refine r_iadd hJ dL_holders_190 ?_
  refine r_istore_n hJ dL_holders_191 rfl (jp2 rfl rfl) ?_
  refine r_iload_n hJ dL_holders_192 rfl jg3 ?_
  refine r_aload_n hJ dL_holders_193 rfl jg0 ?_
  refine r_iload hJ dL_holders_194 jg7 ?_
  refine r_iconst hJ (v := nI 2) dL_holders_196 (by decide) ?_
  refine r_V2v hJ kL_85 (rcv4 E) (l_hol hh hP (by decide) (rfl)) dL_holders_197 ⟨by decide, by decide⟩ (Nat.le_of_ble_eq_true rfl) ?_
  refine r_iadd hJ dL_holders_200 ?_
  refine r_istore_n hJ dL_holders_201 rfl (jp3 rfl rfl) ?_
  refine r_iload hJ dL_holders_202 jg4 ?_
  refine r_aload_n hJ dL_holders_204 rfl jg0 ?_
  refine r_iload hJ dL_holders_205 jg7 ?_
  refine r_iconst hJ (v := nI 5) dL_holders_207 (by decide) ?_
  refine r_V2v hJ kL_85 (rcv4 E) (l_hol hh hP (by decide) (rfl)) dL_holders_208 ⟨by decide, by decide⟩ (Nat.le_of_ble_eq_true rfl) ?_
  refine r_iadd hJ dL_holders_211 ?_
  refine r_istore hJ dL_holders_212 (jp4 rfl rfl) ?_
  refine r_iload hJ dL_holders_214 jg5 ?_
  refine r_aload_n hJ dL_holders_216 rfl jg0 ?_
  refine r_iload hJ dL_holders_217 jg7 ?_
  refine r_bipush hJ (v := nI 6) dL_holders_219 (by decide) ?_
  refine r_V2v hJ kL_85 (rcv4 E) (l_hol hh hP (by decide) (rfl)) dL_holders_221 ⟨by decide, by decide⟩ (Nat.le_of_ble_eq_true rfl) ?_
  refine r_iadd hJ dL_holders_224 ?_
  refine r_istore hJ dL_holders_225 (jp5 rfl rfl) ?_
  refine r_iinc hJ dL_holders_227 jg7 (ii1 _) (jp7 rfl rfl) ?_
  refine r_goto hJ (tgt := 18) dL_holders_230 (by decide) ?_
  exact r_fgt hJ (lless_s (lless_s (lless_s (lless_s (lless_s (lless_s (lless_s (lless_s (lless_n lless_0))))))))) kk
theorem hol_11 {l : Launch} {E : jE} {n0 cap : Nat} {J : jT} (hJ : jR l E RL cL_holders 9 10 n0 cap J) {S : jS} {A : jO} {K : Nat → Nat} {y : Int64 × Nat} {z h : Nat} (hz : S 0 1 3 = nI z) (hz6 : z ≤ 64) (hh : h < 8) (hP : PI (S 0)) {m : Nat} (hm : m < z) (hok : okN S (nI m) = true) (g3 : ofH (S 0) h 3 = nI m) (g2 : S 0 2 m = nI h) (g01 : ¬ ofH (S 0) h 0 + ofH (S 0) h 1 = nI 0) (g4 : ¬ ofH (S 0) h 4 = -1) (g0 : ¬ ofH (S 0) h 0 = nI 0) (g5 : S 0 0 0 < ofH (S 0) h 4)
    (kk : J (setO S 1 A, (K, y)) 18 [some (.ref (ad E 11 0)), some (.int (hS (S 0) 0 (h + 1))), some (.int (hS (S 0) 1 (h + 1))), some (.int (hS (S 0) 2 (h + 1))), some (.int (hS (S 0) 5 (h + 1))), some (.int (hS (S 0) 6 (h + 1))), some (.int (nI 1)), some (.int (nI (h + 1))), none] []) : J (setO S 1 A, (K, y)) 18 [some (.ref (ad E 11 0)), some (.int (hS (S 0) 0 h)), some (.int (hS (S 0) 1 h)), some (.int (hS (S 0) 2 h)), some (.int (hS (S 0) 5 h)), some (.int (hS (S 0) 6 h)), some (.int (nI 1)), some (.int (nI h)), none] [] := by
  refine r_iload hJ dL_holders_18 jg7 ?_
  refine r_bipush hJ (v := nI 8) dL_holders_20 (by decide) ?_
  refine r_icmp_ge_f hJ (tgt := 233) (nI_ge hh (by decide)) dL_holders_22 (by decide) ?_
  refine r_iload hJ dL_holders_25 jg6 ?_
  refine r_if_eq_f hJ (tgt := 233) (by decide) dL_holders_27 (by decide) ?_
  refine r_aload_n hJ dL_holders_30 rfl jg0 ?_
  refine r_iload hJ dL_holders_31 jg7 ?_
  refine r_iconst hJ (v := nI 3) dL_holders_33 (by decide) ?_
  refine r_V2v hJ kL_85 (rcv4 E) (l_hol hh hP (by decide) (g3)) dL_holders_34 ⟨by decide, by decide⟩ (Nat.le_of_ble_eq_true rfl) ?_
  refine r_istore hJ dL_holders_37 (jp8 rfl rfl) ?_
  refine r_iload hJ dL_holders_39 jg8 ?_
  refine r_iconst hJ (v := (-1)) dL_holders_41 (by decide) ?_
  refine r_icmp_ne_t hJ (tgt := 49) (nI_m1 (by omega)) dL_holders_42 (by decide) ?_
  refine r_iconst hJ (v := nI 0) dL_holders_49 (by decide) ?_
  refine r_aload_n hJ dL_holders_50 rfl jg0 ?_
  refine r_iload hJ dL_holders_51 jg7 ?_
  refine r_iconst hJ (v := nI 0) dL_holders_53 (by decide) ?_
  refine r_V2v hJ kL_85 (rcv4 E) (l_hol hh hP (by decide) (rfl)) dL_holders_54 ⟨by decide, by decide⟩ (Nat.le_of_ble_eq_true rfl) ?_
  refine r_aload_n hJ dL_holders_57 rfl jg0 ?_
  refine r_iload hJ dL_holders_58 jg7 ?_
  refine r_iconst hJ (v := nI 1) dL_holders_60 (by decide) ?_
  refine r_V2v hJ kL_85 (rcv4 E) (l_hol hh hP (by decide) (rfl)) dL_holders_61 ⟨by decide, by decide⟩ (Nat.le_of_ble_eq_true rfl) ?_
  refine r_iadd hJ dL_holders_64 ?_
  refine r_if_ne_t hJ (tgt := 72) (g01) dL_holders_65 (by decide) ?_
  refine r_iconst hJ (v := nI 0) dL_holders_72 (by decide) ?_
  refine r_icmp_ne_f hJ (tgt := 98) (rfl) dL_holders_73 (by decide) ?_
  refine r_iload hJ dL_holders_76 jg8 ?_
  refine r_iconst hJ (v := (-1)) dL_holders_78 (by decide) ?_
  refine r_icmp_eq_f hJ (tgt := 94) (nI_m1 (by omega)) dL_holders_79 (by decide) ?_
  refine r_aload_n hJ dL_holders_82 rfl jg0 ?_
  refine r_iload hJ dL_holders_83 jg8 ?_
  refine r_iconst hJ (v := nI 1) dL_holders_85 (by decide) ?_
  refine r_V2v hJ kL_76 (rcv4 E) (l_num (by omega) hok (by decide) (show ofN (S 0) m 1 = nI h from g2)) dL_holders_86 ⟨by decide, by decide⟩ (Nat.le_of_ble_eq_true rfl) ?_
  refine r_iload hJ dL_holders_89 jg7 ?_
  refine r_icmp_ne_f hJ (tgt := 98) (rfl) dL_holders_91 (by decide) ?_
  refine r_iconst hJ (v := nI 1) dL_holders_94 (by decide) ?_
  refine r_goto hJ (tgt := 99) dL_holders_95 (by decide) ?_
  refine r_istore hJ dL_holders_99 (jp6 rfl rfl) ?_
  refine r_iload hJ dL_holders_101 jg6 ?_
  refine r_if_eq_f hJ (tgt := 169) (by decide) dL_holders_103 (by decide) ?_
  refine r_aload_n hJ dL_holders_106 rfl jg0 ?_
  refine r_iload hJ dL_holders_107 jg7 ?_
  refine r_iconst hJ (v := nI 4) dL_holders_109 (by decide) ?_
  refine r_V2v hJ kL_85 (rcv4 E) (l_hol hh hP (by decide) (rfl)) dL_holders_110 ⟨by decide, by decide⟩ (Nat.le_of_ble_eq_true rfl) ?_
  refine r_iconst hJ (v := (-1)) dL_holders_113 (by decide) ?_
  refine r_icmp_ne_t hJ (tgt := 121) (g4) dL_holders_114 (by decide) ?_
  refine r_iconst hJ (v := nI 0) dL_holders_121 (by decide) ?_
  refine r_aload_n hJ dL_holders_122 rfl jg0 ?_
  refine r_iload hJ dL_holders_123 jg7 ?_
  refine r_iconst hJ (v := nI 0) dL_holders_125 (by decide) ?_
  refine r_V2v hJ kL_85 (rcv4 E) (l_hol hh hP (by decide) (rfl)) dL_holders_126 ⟨by decide, by decide⟩ (Nat.le_of_ble_eq_true rfl) ?_
  refine r_if_ne_t hJ (tgt := 136) (g0) dL_holders_129 (by decide) ?_
  refine r_iconst hJ (v := nI 0) dL_holders_136 (by decide) ?_
  refine r_icmp_ne_f hJ (tgt := 169) (rfl) dL_holders_137 (by decide) ?_
  refine r_aload_n hJ dL_holders_140 rfl jg0 ?_
  refine r_iload hJ dL_holders_141 jg7 ?_
  refine r_iconst hJ (v := nI 0) dL_holders_143 (by decide) ?_
  refine r_V2v hJ kL_85 (rcv4 E) (l_hol hh hP (by decide) (rfl)) dL_holders_144 ⟨by decide, by decide⟩ (Nat.le_of_ble_eq_true rfl) ?_
  refine r_if_eq_f hJ (tgt := 165) (g0) dL_holders_147 (by decide) ?_
  refine r_aload_n hJ dL_holders_150 rfl jg0 ?_
  refine r_iload hJ dL_holders_151 jg7 ?_
  refine r_iconst hJ (v := nI 4) dL_holders_153 (by decide) ?_
  refine r_V2v hJ kL_85 (rcv4 E) (l_hol hh hP (by decide) (rfl)) dL_holders_154 ⟨by decide, by decide⟩ (Nat.le_of_ble_eq_true rfl) ?_
  refine r_aload_n hJ dL_holders_157 rfl jg0 ?_
  refine r_iconst hJ (v := nI 0) dL_holders_158 (by decide) ?_
  refine r_V1v hJ kL_73 (rcv4 E) (l_cnt hz hz6 (by decide) (rfl : cntA S z 0 = S 0 0 0)) dL_holders_159 ⟨by decide, by decide⟩ (Nat.le_of_ble_eq_true rfl) ?_
  refine r_icmp_le_f hJ (tgt := 169) (Int32.not_le.mpr g5) dL_holders_162 (by decide) ?_
  refine r_iconst hJ (v := nI 1) dL_holders_165 (by decide) ?_
  refine r_goto hJ (tgt := 170) dL_holders_166 (by decide) ?_
  refine r_istore hJ dL_holders_170 (jp6 rfl rfl) ?_
  refine r_iload_n hJ dL_holders_172 rfl jg1 ?_
  refine r_aload_n hJ dL_holders_173 rfl jg0 ?_
  refine r_iload hJ dL_holders_174 jg7 ?_
  refine r_iconst hJ (v := nI 0) dL_holders_176 (by decide) ?_
  refine r_V2v hJ kL_85 (rcv4 E) (l_hol hh hP (by decide) (rfl)) dL_holders_177 ⟨by decide, by decide⟩ (Nat.le_of_ble_eq_true rfl) ?_
  refine r_iadd hJ dL_holders_180 ?_
  refine r_istore_n hJ dL_holders_181 rfl (jp1 rfl rfl) ?_
  refine r_iload_n hJ dL_holders_182 rfl jg2 ?_
  refine r_aload_n hJ dL_holders_183 rfl jg0 ?_
  refine r_iload hJ dL_holders_184 jg7 ?_
  refine r_iconst hJ (v := nI 1) dL_holders_186 (by decide) ?_
  refine r_V2v hJ kL_85 (rcv4 E) (l_hol hh hP (by decide) (rfl)) dL_holders_187 ⟨by decide, by decide⟩ (Nat.le_of_ble_eq_true rfl) ?_
  refine r_iadd hJ dL_holders_190 ?_
  refine r_istore_n hJ dL_holders_191 rfl (jp2 rfl rfl) ?_
  refine r_iload_n hJ dL_holders_192 rfl jg3 ?_
  refine r_aload_n hJ dL_holders_193 rfl jg0 ?_
  refine r_iload hJ dL_holders_194 jg7 ?_
  refine r_iconst hJ (v := nI 2) dL_holders_196 (by decide) ?_
  refine r_V2v hJ kL_85 (rcv4 E) (l_hol hh hP (by decide) (rfl)) dL_holders_197 ⟨by decide, by decide⟩ (Nat.le_of_ble_eq_true rfl) ?_
  refine r_iadd hJ dL_holders_200 ?_
  refine r_istore_n hJ dL_holders_201 rfl (jp3 rfl rfl) ?_
  refine r_iload hJ dL_holders_202 jg4 ?_
  refine r_aload_n hJ dL_holders_204 rfl jg0 ?_
  refine r_iload hJ dL_holders_205 jg7 ?_
  refine r_iconst hJ (v := nI 5) dL_holders_207 (by decide) ?_
  refine r_V2v hJ kL_85 (rcv4 E) (l_hol hh hP (by decide) (rfl)) dL_holders_208 ⟨by decide, by decide⟩ (Nat.le_of_ble_eq_true rfl) ?_
  refine r_iadd hJ dL_holders_211 ?_
  refine r_istore hJ dL_holders_212 (jp4 rfl rfl) ?_
  refine r_iload hJ dL_holders_214 jg5 ?_
  refine r_aload_n hJ dL_holders_216 rfl jg0 ?_
  refine r_iload hJ dL_holders_217 jg7 ?_
  refine r_bipush hJ (v := nI 6) dL_holders_219 (by decide) ?_
  refine r_V2v hJ kL_85 (rcv4 E) (l_hol hh hP (by decide) (rfl)) dL_holders_221 ⟨by decide, by decide⟩ (Nat.le_of_ble_eq_true rfl) ?_
  refine r_iadd hJ dL_holders_224 ?_
  refine r_istore hJ dL_holders_225 (jp5 rfl rfl) ?_
  refine r_iinc hJ dL_holders_227 jg7 (ii1 _) (jp7 rfl rfl) ?_
  refine r_goto hJ (tgt := 18) dL_holders_230 (by decide) ?_
  exact r_fgt hJ (lless_s (lless_s (lless_s (lless_s (lless_s (lless_s (lless_s (lless_s (lless_n lless_0))))))))) kk
theorem c_holders {l : Launch} {E : jE} {S : jS} {A : jO} {K : Nat → Nat} {y : Int64 × Nat} {z t C R : Nat} (ht : t ≤ 20000) (hX : XV (S 0) z t 64 C R) :
    Ct l E yL_holders cL_holders 9 (some .boolean) 10 [.ref (ad E 11 0)] (setO S 1 A, (K, y)) (some (.int (nI 1))) (setO S 1 A, (K, y)) := by
  obtain ⟨ht0, ⟨hz, hz4, hz6⟩, -⟩ := id hX.2.1
  have hP := hX.1
  refine Ct.of (by decide +kernel) (Nat.le_refl _) (Nat.le_of_ble_eq_true rfl) rfl (fun J hJ hF => ?_)
  have loop : ∀ (k h : Nat), h + k = 8 → J (setO S 1 A, (K, y)) 18 [some (.ref (ad E 11 0)), some (.int (hS (S 0) 0 h)), some (.int (hS (S 0) 1 h)), some (.int (hS (S 0) 2 h)), some (.int (hS (S 0) 5 h)), some (.int (hS (S 0) 6 h)), some (.int (nI 1)), some (.int (nI h)), none] [] := by
    intro k
    induction k with
    | zero =>
      intro h hk
      obtain rfl : h = 8 := by omega
      refine r_iload hJ dL_holders_18 jg7 ?_
      refine r_bipush hJ (v := nI 8) dL_holders_20 (by decide) ?_
      refine r_icmp_ge_t hJ (tgt := 233) (nI_le (Nat.le_refl _) (by decide)) dL_holders_22 (by decide) ?_
      refine r_iload hJ dL_holders_233 jg6 ?_
      refine r_if_eq_f hJ (tgt := 290) (by decide) dL_holders_235 (by decide) ?_
      refine r_iload_n hJ dL_holders_238 rfl jg1 ?_
      refine r_aload_n hJ dL_holders_239 rfl jg0 ?_
      refine r_iconst hJ (v := nI 2) dL_holders_240 (by decide) ?_
      refine r_V1v hJ kL_73 (rcv4 E) (l_cnt hz hz6 (by decide) rfl) dL_holders_241 ⟨by decide, by decide⟩ (Nat.le_of_ble_eq_true rfl) ?_
      refine r_icmp_ne_f hJ (tgt := 290) (hS_held hX) dL_holders_244 (by decide) ?_
      refine r_iload_n hJ dL_holders_247 rfl jg2 ?_
      refine r_aload_n hJ dL_holders_248 rfl jg0 ?_
      refine r_iconst hJ (v := nI 3) dL_holders_249 (by decide) ?_
      refine r_V1v hJ kL_73 (rcv4 E) (l_cnt hz hz6 (by decide) rfl) dL_holders_250 ⟨by decide, by decide⟩ (Nat.le_of_ble_eq_true rfl) ?_
      refine r_icmp_ne_f hJ (tgt := 290) (hS_late hX) dL_holders_253 (by decide) ?_
      refine r_iload_n hJ dL_holders_256 rfl jg3 ?_
      refine r_aload_n hJ dL_holders_257 rfl jg0 ?_
      refine r_iconst hJ (v := nI 4) dL_holders_258 (by decide) ?_
      refine r_V1v hJ kL_73 (rcv4 E) (l_cnt hz hz6 (by decide) rfl) dL_holders_259 ⟨by decide, by decide⟩ (Nat.le_of_ble_eq_true rfl) ?_
      refine r_icmp_ne_f hJ (tgt := 290) (hS_wait hX) dL_holders_262 (by decide) ?_
      refine r_iload hJ dL_holders_265 jg4 ?_
      refine r_aload_n hJ dL_holders_267 rfl jg0 ?_
      refine r_iconst hJ (v := nI 5) dL_holders_268 (by decide) ?_
      refine r_V1v hJ kL_73 (rcv4 E) (l_cnt hz hz6 (by decide) rfl) dL_holders_269 ⟨by decide, by decide⟩ (Nat.le_of_ble_eq_true rfl) ?_
      refine r_icmp_ne_f hJ (tgt := 290) (hS_leases (S 0) z) dL_holders_272 (by decide) ?_
      refine r_iload hJ dL_holders_275 jg5 ?_
      refine r_aload_n hJ dL_holders_277 rfl jg0 ?_
      refine r_bipush hJ (v := nI 9) dL_holders_278 (by decide) ?_
      refine r_V1v hJ kL_73 (rcv4 E) (l_cnt hz hz6 (by decide) rfl) dL_holders_280 ⟨by decide, by decide⟩ (Nat.le_of_ble_eq_true rfl) ?_
      refine r_icmp_ne_f hJ (tgt := 290) (hS_lost (S 0) z) dL_holders_283 (by decide) ?_
      refine r_iconst hJ (v := nI 1) dL_holders_286 (by decide) ?_
      refine r_goto hJ (tgt := 291) dL_holders_287 (by decide) ?_
      exact ret_z hF dL_holders_291 (by decide) rfl rfl
    | succ k ih =>
      intro h hk
      have hh : h < 8 := by omega
      have nx := ih (h + 1) (by omega)
      rcases hold_3 hh hX with ⟨g3, g01⟩ | ⟨m, hm, g3, g2, g01⟩ <;> rcases hold_4 (h := h) ht hX with ⟨g4, g0⟩ | ⟨g4, g0, g5⟩
      · exact hol_00 hJ hz hz6 hh hP g3 g01 g4 g0 nx
      · exact hol_01 hJ hz hz6 hh hP g3 g01 g4 g0 g5 nx
      · exact hol_10 hJ hz hz6 hh hP hm (okN_of hz hz6 hm) g3 g2 g01 g4 g0 nx
      · exact hol_11 hJ hz hz6 hh hP hm (okN_of hz hz6 hm) g3 g2 g01 g4 g0 g5 nx
  have l0 := loop 8 0 rfl
  simp only [hS_0] at l0
  refine r_iconst hJ (v := nI 0) dL_holders_0 (by decide) ?_
  refine r_istore_n hJ dL_holders_1 rfl (jp1 rfl rfl) ?_
  refine r_iconst hJ (v := nI 0) dL_holders_2 (by decide) ?_
  refine r_istore_n hJ dL_holders_3 rfl (jp2 rfl rfl) ?_
  refine r_iconst hJ (v := nI 0) dL_holders_4 (by decide) ?_
  refine r_istore_n hJ dL_holders_5 rfl (jp3 rfl rfl) ?_
  refine r_iconst hJ (v := nI 0) dL_holders_6 (by decide) ?_
  refine r_istore hJ dL_holders_7 (jp4 rfl rfl) ?_
  refine r_iconst hJ (v := nI 0) dL_holders_9 (by decide) ?_
  refine r_istore hJ dL_holders_10 (jp5 rfl rfl) ?_
  refine r_iconst hJ (v := nI 1) dL_holders_12 (by decide) ?_
  refine r_istore hJ dL_holders_13 (jp6 rfl rfl) ?_
  refine r_iconst hJ (v := nI 0) dL_holders_15 (by decide) ?_
  refine r_istore hJ dL_holders_16 (jp7 rfl rfl) ?_
  exact l0

