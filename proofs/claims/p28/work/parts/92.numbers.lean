/-! THE LAW'S numbers -/
theorem num_free {l : Launch} {E : jE} {n0 cap : Nat} {J : jT} (hJ : jR l E RL cL_numbers 9 10 n0 cap J) {S : jS} {A : jO} {K : Nat → Nat} {y : Int64 × Nat} {z t n c0 c1 : Nat} {W : Int32} (hz : S 0 1 3 = nI z) (hz6 : z ≤ 64) (hn : n < z) (hP : PI (S 0)) (hok : okN S (nI n) = true) (hf : S 0 2 n = -1) (h7 : S 0 7 n = nI 0)
    (kk : J (setO S 1 (S 0), (K, y)) 19 [some (.ref (ad E 11 0)), some (.int (nI 1)), some (.int (nI t)), some (.int (nI (c0 + 1))), some (.int (nI (c1 + 0))), some (.int (W + S 0 7 n)), some (.int (nI (n + 1))), none, none] []) : J (setO S 1 A, (K, y)) 19 [some (.ref (ad E 11 0)), some (.int (nI 1)), some (.int (nI t)), some (.int (nI c0)), some (.int (nI c1)), some (.int (W)), some (.int (nI n)), none, none] [] := by
  have hn64 : n < 64 := by omega
  have v0 : ofN (S 0) n 0 = nI 0 := stg_free hf
  have v1 : ofN (S 0) n 1 = -1 := hf
  have v5 : ofN (S 0) n 5 = nI 0 := h7
  have v2 : ofN (S 0) n 2 = -1 := if_pos hf
  have v6 : ofN (S 0) n 6 = -1 := if_neg (by rw [h7]; decide)
  refine r_iload hJ dL_numbers_19 jg6 ?_
  refine r_aload_n hJ dL_numbers_21 rfl jg0 ?_
  refine r_iconst hJ (v := nI 3) dL_numbers_22 (by decide) ?_
  refine r_V1v hJ kL_37 (rcv4 E) (l_set hz) dL_numbers_23 ⟨by decide, by decide⟩ (Nat.le_of_ble_eq_true rfl) ?_
  refine r_icmp_ge_f hJ (tgt := 387) (nI_ge hn (by omega)) dL_numbers_26 (by decide) ?_
  refine r_iload_n hJ dL_numbers_29 rfl jg1 ?_
  refine r_if_eq_f hJ (tgt := 387) (by decide) dL_numbers_30 (by decide) ?_
  refine r_aload_n hJ dL_numbers_33 rfl jg0 ?_
  refine r_iload hJ dL_numbers_34 jg6 ?_
  refine r_iconst hJ (v := nI 0) dL_numbers_36 (by decide) ?_
  refine r_V2v hJ kL_76 (rcv4 E) (l_num (by omega) hok (by decide) (v0)) dL_numbers_37 ⟨by decide, by decide⟩ (Nat.le_of_ble_eq_true rfl) ?_
  refine r_istore hJ dL_numbers_40 (jp7 rfl rfl) ?_
  refine r_aload_n hJ dL_numbers_42 rfl jg0 ?_
  refine r_iload hJ dL_numbers_43 jg6 ?_
  refine r_iconst hJ (v := nI 1) dL_numbers_45 (by decide) ?_
  refine r_V2v hJ kL_76 (rcv4 E) (l_num (by omega) hok (by decide) v1) dL_numbers_46 ⟨by decide, by decide⟩ (Nat.le_of_ble_eq_true rfl) ?_
  refine r_istore hJ dL_numbers_49 (jp8 rfl rfl) ?_
  refine r_iload hJ dL_numbers_51 jg8 ?_
  refine r_iconst hJ (v := (-1)) dL_numbers_53 (by decide) ?_
  refine r_icmp_ne_f hJ (tgt := 61) (rfl) dL_numbers_54 (by decide) ?_
  refine r_iconst hJ (v := nI 1) dL_numbers_57 (by decide) ?_
  refine r_goto hJ (tgt := 62) dL_numbers_58 (by decide) ?_
  refine r_iload hJ dL_numbers_62 jg7 ?_
  refine r_if_ne_f hJ (tgt := 71) (rfl) dL_numbers_64 (by decide) ?_
  refine r_iconst hJ (v := nI 1) dL_numbers_67 (by decide) ?_
  refine r_goto hJ (tgt := 72) dL_numbers_68 (by decide) ?_
  refine r_icmp_ne_f hJ (tgt := 102) (rfl) dL_numbers_72 (by decide) ?_
  refine r_aload_n hJ dL_numbers_75 rfl jg0 ?_
  refine r_iload hJ dL_numbers_76 jg6 ?_
  refine r_iconst hJ (v := nI 5) dL_numbers_78 (by decide) ?_
  refine r_V2v hJ kL_76 (rcv4 E) (l_num (by omega) hok (by decide) (v5)) dL_numbers_79 ⟨by decide, by decide⟩ (Nat.le_of_ble_eq_true rfl) ?_
  refine r_iconst hJ (v := nI 3) dL_numbers_82 (by decide) ?_
  refine r_icmp_gt_f hJ (tgt := 102) (by decide) dL_numbers_83 (by decide) ?_
  refine r_aload_n hJ dL_numbers_86 rfl jg0 ?_
  refine r_iload hJ dL_numbers_87 jg6 ?_
  refine r_iconst hJ (v := nI 0) dL_numbers_89 (by decide) ?_
  refine r_V2v hJ kL_79 (rcv4 E) (l_who hP (by omega) hok) dL_numbers_90 ⟨by decide, by decide⟩ (Nat.le_of_ble_eq_true rfl) ?_
  refine r_iload hJ dL_numbers_93 jg8 ?_
  refine r_icmp_ne_f hJ (tgt := 102) (hf) dL_numbers_95 (by decide) ?_
  refine r_iconst hJ (v := nI 1) dL_numbers_98 (by decide) ?_
  refine r_goto hJ (tgt := 103) dL_numbers_99 (by decide) ?_
  refine r_istore_n hJ dL_numbers_103 rfl (jp1 rfl rfl) ?_
  refine r_iload hJ dL_numbers_104 jg7 ?_
  refine r_if_ne_f hJ (tgt := 155) (rfl) dL_numbers_106 (by decide) ?_
  refine r_iload_n hJ dL_numbers_109 rfl jg1 ?_
  refine r_if_eq_f hJ (tgt := 150) (by decide) dL_numbers_110 (by decide) ?_
  refine r_aload_n hJ dL_numbers_113 rfl jg0 ?_
  refine r_iload hJ dL_numbers_114 jg6 ?_
  refine r_iconst hJ (v := nI 5) dL_numbers_116 (by decide) ?_
  refine r_V2v hJ kL_76 (rcv4 E) (l_num (by omega) hok (by decide) (v5)) dL_numbers_117 ⟨by decide, by decide⟩ (Nat.le_of_ble_eq_true rfl) ?_
  refine r_if_ne_f hJ (tgt := 150) (rfl) dL_numbers_120 (by decide) ?_
  refine r_aload_n hJ dL_numbers_123 rfl jg0 ?_
  refine r_iload hJ dL_numbers_124 jg6 ?_
  refine r_iconst hJ (v := nI 2) dL_numbers_126 (by decide) ?_
  refine r_V2v hJ kL_76 (rcv4 E) (l_num (by omega) hok (by decide) v2) dL_numbers_127 ⟨by decide, by decide⟩ (Nat.le_of_ble_eq_true rfl) ?_
  refine r_iconst hJ (v := (-1)) dL_numbers_130 (by decide) ?_
  refine r_icmp_ne_f hJ (tgt := 150) (rfl) dL_numbers_131 (by decide) ?_
  refine r_aload_n hJ dL_numbers_134 rfl jg0 ?_
  refine r_iload hJ dL_numbers_135 jg6 ?_
  refine r_bipush hJ (v := nI 6) dL_numbers_137 (by decide) ?_
  refine r_V2v hJ kL_76 (rcv4 E) (l_num (by omega) hok (by decide) v6) dL_numbers_139 ⟨by decide, by decide⟩ (Nat.le_of_ble_eq_true rfl) ?_
  refine r_iconst hJ (v := (-1)) dL_numbers_142 (by decide) ?_
  refine r_icmp_ne_f hJ (tgt := 150) (rfl) dL_numbers_143 (by decide) ?_
  refine r_iconst hJ (v := nI 1) dL_numbers_146 (by decide) ?_
  refine r_goto hJ (tgt := 151) dL_numbers_147 (by decide) ?_
  refine r_istore_n hJ dL_numbers_151 rfl (jp1 rfl rfl) ?_
  refine r_goto hJ (tgt := 340) dL_numbers_152 (by decide) ?_
  refine r_iload_n hJ dL_numbers_340 rfl jg3 ?_
  refine r_iload hJ dL_numbers_341 jg7 ?_
  refine r_if_ne_f hJ (tgt := 350) (rfl) dL_numbers_343 (by decide) ?_
  refine r_iconst hJ (v := nI 1) dL_numbers_346 (by decide) ?_
  refine r_goto hJ (tgt := 351) dL_numbers_347 (by decide) ?_
  refine r_iaddN hJ dL_numbers_351 ?_
  refine r_istore_n hJ dL_numbers_352 rfl (jp3 rfl rfl) ?_
  refine r_iload hJ dL_numbers_353 jg4 ?_
  refine r_iload hJ dL_numbers_355 jg7 ?_
  refine r_iconst hJ (v := nI 1) dL_numbers_357 (by decide) ?_
  refine r_icmp_ne_t hJ (tgt := 365) (by decide) dL_numbers_358 (by decide) ?_
  refine r_iconst hJ (v := nI 0) dL_numbers_365 (by decide) ?_
  refine r_iaddN hJ dL_numbers_366 ?_
  refine r_istore hJ dL_numbers_367 (jp4 rfl rfl) ?_
  refine r_iload hJ dL_numbers_369 jg5 ?_
  refine r_aload_n hJ dL_numbers_371 rfl jg0 ?_
  refine r_iload hJ dL_numbers_372 jg6 ?_
  refine r_iconst hJ (v := nI 5) dL_numbers_374 (by decide) ?_
  refine r_V2v hJ kL_76 (rcv4 E) (l_num (by omega) hok (by decide) rfl) dL_numbers_375 ⟨by decide, by decide⟩ (Nat.le_of_ble_eq_true rfl) ?_
  refine r_iadd hJ dL_numbers_378 ?_
  refine r_istore hJ dL_numbers_379 (jp5 rfl rfl) ?_
  refine r_iinc hJ dL_numbers_381 jg6 (ii1 _) (jp6 rfl rfl) ?_
  refine r_goto hJ (tgt := 19) dL_numbers_384 (by decide) ?_
  exact r_fgt hJ (lless_s (lless_s (lless_s (lless_s (lless_s (lless_s (lless_s (lless_n (lless_n lless_0))))))))) kk
theorem num_h10 {l : Launch} {E : jE} {n0 cap : Nat} {J : jT} (hJ : jR l E RL cL_numbers 9 10 n0 cap J) {S : jS} {A : jO} {K : Nat → Nat} {y : Int64 × Nat} {z t n c0 c1 : Nat} {W : Int32} {h b e le g w : Nat} (hz : S 0 1 3 = nI z) (hz6 : z ≤ 64) (hn : n < z) (hP : PI (S 0)) (hok : okN S (nI n) = true) (hh : h < 8) (v1 : S 0 2 n = nI h) (e3 : S 0 3 n = nI b) (e4 : S 0 4 n = nI e) (e5 : S 0 5 n = nI le) (e6 : S 0 6 n = nI g) (e7 : S 0 7 n = nI w) (hbe : b < e) (hel : e ≤ le) (hbt : b ≤ t) (htl : t < le) (hlb : le < 2 ^ 30) (hg0 : 0 < g) (hgb : g < 2 ^ 30) (hw3 : w ≤ 3) (hte : t < e) (hs : stg (S 0) n = nI 1) (hw0 : w = 0)
    (kk : J (setO S 1 (S 0), (K, y)) 19 [some (.ref (ad E 11 0)), some (.int (nI 1)), some (.int (nI t)), some (.int (nI (c0 + 0))), some (.int (nI (c1 + 1))), some (.int (W + S 0 7 n)), some (.int (nI (n + 1))), none, none] []) : J (setO S 1 A, (K, y)) 19 [some (.ref (ad E 11 0)), some (.int (nI 1)), some (.int (nI t)), some (.int (nI c0)), some (.int (nI c1)), some (.int (W)), some (.int (nI n)), none, none] [] := by
  have hn64 : n < 64 := by omega
  have hf : ¬ S 0 2 n = -1 := by rw [v1]; exact nI_m1 (by omega)
  have v0 : ofN (S 0) n 0 = nI 1 := hs
  have v5 : ofN (S 0) n 5 = nI w := e7
  have v2 : ofN (S 0) n 2 = nI b := (if_neg hf).trans e3
  have v3 : ofN (S 0) n 3 = nI e := (if_neg hf).trans e4
  have v4 : ofN (S 0) n 4 = nI le := (if_neg hf).trans e5
  have v8 : ofN (S 0) n 8 = nI g := e6
  subst hw0
  have v6 : ofN (S 0) n 6 = -1 := if_neg (by rw [e7]; decide)
  refine r_iload hJ dL_numbers_19 jg6 ?_
  refine r_aload_n hJ dL_numbers_21 rfl jg0 ?_
  refine r_iconst hJ (v := nI 3) dL_numbers_22 (by decide) ?_
  refine r_V1v hJ kL_37 (rcv4 E) (l_set hz) dL_numbers_23 ⟨by decide, by decide⟩ (Nat.le_of_ble_eq_true rfl) ?_
  refine r_icmp_ge_f hJ (tgt := 387) (nI_ge hn (by omega)) dL_numbers_26 (by decide) ?_
  refine r_iload_n hJ dL_numbers_29 rfl jg1 ?_
  refine r_if_eq_f hJ (tgt := 387) (by decide) dL_numbers_30 (by decide) ?_
  refine r_aload_n hJ dL_numbers_33 rfl jg0 ?_
  refine r_iload hJ dL_numbers_34 jg6 ?_
  refine r_iconst hJ (v := nI 0) dL_numbers_36 (by decide) ?_
  refine r_V2v hJ kL_76 (rcv4 E) (l_num (by omega) hok (by decide) (v0)) dL_numbers_37 ⟨by decide, by decide⟩ (Nat.le_of_ble_eq_true rfl) ?_
  refine r_istore hJ dL_numbers_40 (jp7 rfl rfl) ?_
  refine r_aload_n hJ dL_numbers_42 rfl jg0 ?_
  refine r_iload hJ dL_numbers_43 jg6 ?_
  refine r_iconst hJ (v := nI 1) dL_numbers_45 (by decide) ?_
  refine r_V2v hJ kL_76 (rcv4 E) (l_num (by omega) hok (by decide) (v1)) dL_numbers_46 ⟨by decide, by decide⟩ (Nat.le_of_ble_eq_true rfl) ?_
  refine r_istore hJ dL_numbers_49 (jp8 rfl rfl) ?_
  refine r_iload hJ dL_numbers_51 jg8 ?_
  refine r_iconst hJ (v := (-1)) dL_numbers_53 (by decide) ?_
  refine r_icmp_ne_t hJ (tgt := 61) (nI_m1 (by omega)) dL_numbers_54 (by decide) ?_
  refine r_iconst hJ (v := nI 0) dL_numbers_61 (by decide) ?_
  refine r_iload hJ dL_numbers_62 jg7 ?_
  refine r_if_ne_t hJ (tgt := 71) (by decide) dL_numbers_64 (by decide) ?_
  refine r_iconst hJ (v := nI 0) dL_numbers_71 (by decide) ?_
  refine r_icmp_ne_f hJ (tgt := 102) (rfl) dL_numbers_72 (by decide) ?_
  refine r_aload_n hJ dL_numbers_75 rfl jg0 ?_
  refine r_iload hJ dL_numbers_76 jg6 ?_
  refine r_iconst hJ (v := nI 5) dL_numbers_78 (by decide) ?_
  refine r_V2v hJ kL_76 (rcv4 E) (l_num (by omega) hok (by decide) (v5)) dL_numbers_79 ⟨by decide, by decide⟩ (Nat.le_of_ble_eq_true rfl) ?_
  refine r_iconst hJ (v := nI 3) dL_numbers_82 (by decide) ?_
  refine r_icmp_gt_f hJ (tgt := 102) (nI_nlt (by omega) (by omega)) dL_numbers_83 (by decide) ?_
  refine r_aload_n hJ dL_numbers_86 rfl jg0 ?_
  refine r_iload hJ dL_numbers_87 jg6 ?_
  refine r_iconst hJ (v := nI 0) dL_numbers_89 (by decide) ?_
  refine r_V2v hJ kL_79 (rcv4 E) (l_who hP (by omega) hok) dL_numbers_90 ⟨by decide, by decide⟩ (Nat.le_of_ble_eq_true rfl) ?_
  refine r_iload hJ dL_numbers_93 jg8 ?_
  refine r_icmp_ne_f hJ (tgt := 102) (v1) dL_numbers_95 (by decide) ?_
  refine r_iconst hJ (v := nI 1) dL_numbers_98 (by decide) ?_
  refine r_goto hJ (tgt := 103) dL_numbers_99 (by decide) ?_
  refine r_istore_n hJ dL_numbers_103 rfl (jp1 rfl rfl) ?_
  refine r_iload hJ dL_numbers_104 jg7 ?_
  refine r_if_ne_t hJ (tgt := 155) (by decide) dL_numbers_106 (by decide) ?_
  refine r_iload_n hJ dL_numbers_155 rfl jg1 ?_
  refine r_if_eq_f hJ (tgt := 219) (by decide) dL_numbers_156 (by decide) ?_
  refine r_aload_n hJ dL_numbers_159 rfl jg0 ?_
  refine r_iload hJ dL_numbers_160 jg6 ?_
  refine r_iconst hJ (v := nI 2) dL_numbers_162 (by decide) ?_
  refine r_V2v hJ kL_76 (rcv4 E) (l_num (by omega) hok (by decide) (v2)) dL_numbers_163 ⟨by decide, by decide⟩ (Nat.le_of_ble_eq_true rfl) ?_
  refine r_aload_n hJ dL_numbers_166 rfl jg0 ?_
  refine r_iload hJ dL_numbers_167 jg6 ?_
  refine r_iconst hJ (v := nI 3) dL_numbers_169 (by decide) ?_
  refine r_V2v hJ kL_76 (rcv4 E) (l_num (by omega) hok (by decide) (v3)) dL_numbers_170 ⟨by decide, by decide⟩ (Nat.le_of_ble_eq_true rfl) ?_
  refine r_icmp_ge_f hJ (tgt := 219) (nI_ge hbe (by omega)) dL_numbers_173 (by decide) ?_
  refine r_aload_n hJ dL_numbers_176 rfl jg0 ?_
  refine r_iload hJ dL_numbers_177 jg6 ?_
  refine r_iconst hJ (v := nI 3) dL_numbers_179 (by decide) ?_
  refine r_V2v hJ kL_76 (rcv4 E) (l_num (by omega) hok (by decide) (v3)) dL_numbers_180 ⟨by decide, by decide⟩ (Nat.le_of_ble_eq_true rfl) ?_
  refine r_aload_n hJ dL_numbers_183 rfl jg0 ?_
  refine r_iload hJ dL_numbers_184 jg6 ?_
  refine r_iconst hJ (v := nI 4) dL_numbers_186 (by decide) ?_
  refine r_V2v hJ kL_76 (rcv4 E) (l_num (by omega) hok (by decide) (v4)) dL_numbers_187 ⟨by decide, by decide⟩ (Nat.le_of_ble_eq_true rfl) ?_
  refine r_icmp_gt_f hJ (tgt := 219) (nI_nlt hel (by omega)) dL_numbers_190 (by decide) ?_
  refine r_aload_n hJ dL_numbers_193 rfl jg0 ?_
  refine r_iload hJ dL_numbers_194 jg6 ?_
  refine r_iconst hJ (v := nI 2) dL_numbers_196 (by decide) ?_
  refine r_V2v hJ kL_76 (rcv4 E) (l_num (by omega) hok (by decide) (v2)) dL_numbers_197 ⟨by decide, by decide⟩ (Nat.le_of_ble_eq_true rfl) ?_
  refine r_iload_n hJ dL_numbers_200 rfl jg2 ?_
  refine r_icmp_gt_f hJ (tgt := 219) (nI_nlt hbt (by omega)) dL_numbers_201 (by decide) ?_
  refine r_iload_n hJ dL_numbers_204 rfl jg2 ?_
  refine r_aload_n hJ dL_numbers_205 rfl jg0 ?_
  refine r_iload hJ dL_numbers_206 jg6 ?_
  refine r_iconst hJ (v := nI 4) dL_numbers_208 (by decide) ?_
  refine r_V2v hJ kL_76 (rcv4 E) (l_num (by omega) hok (by decide) (v4)) dL_numbers_209 ⟨by decide, by decide⟩ (Nat.le_of_ble_eq_true rfl) ?_
  refine r_icmp_ge_f hJ (tgt := 219) (nI_ge htl (by omega)) dL_numbers_212 (by decide) ?_
  refine r_iconst hJ (v := nI 1) dL_numbers_215 (by decide) ?_
  refine r_goto hJ (tgt := 220) dL_numbers_216 (by decide) ?_
  refine r_istore_n hJ dL_numbers_220 rfl (jp1 rfl rfl) ?_
  refine r_iload_n hJ dL_numbers_221 rfl jg1 ?_
  refine r_if_eq_f hJ (tgt := 306) (by decide) dL_numbers_222 (by decide) ?_
  refine r_iload hJ dL_numbers_225 jg7 ?_
  refine r_iconst hJ (v := nI 1) dL_numbers_227 (by decide) ?_
  refine r_icmp_ne_f hJ (tgt := 235) (rfl) dL_numbers_228 (by decide) ?_
  refine r_iconst hJ (v := nI 1) dL_numbers_231 (by decide) ?_
  refine r_goto hJ (tgt := 236) dL_numbers_232 (by decide) ?_
  refine r_iload_n hJ dL_numbers_236 rfl jg2 ?_
  refine r_aload_n hJ dL_numbers_237 rfl jg0 ?_
  refine r_iload hJ dL_numbers_238 jg6 ?_
  refine r_iconst hJ (v := nI 3) dL_numbers_240 (by decide) ?_
  refine r_V2v hJ kL_76 (rcv4 E) (l_num (by omega) hok (by decide) (v3)) dL_numbers_241 ⟨by decide, by decide⟩ (Nat.le_of_ble_eq_true rfl) ?_
  refine r_icmp_ge_f hJ (tgt := 251) (nI_ge hte (by omega)) dL_numbers_244 (by decide) ?_
  refine r_iconst hJ (v := nI 1) dL_numbers_247 (by decide) ?_
  refine r_goto hJ (tgt := 252) dL_numbers_248 (by decide) ?_
  refine r_icmp_ne_f hJ (tgt := 306) (rfl) dL_numbers_252 (by decide) ?_
  refine r_aload_n hJ dL_numbers_255 rfl jg0 ?_
  refine r_iload hJ dL_numbers_256 jg6 ?_
  refine r_bipush hJ (v := nI 6) dL_numbers_258 (by decide) ?_
  refine r_V2v hJ kL_76 (rcv4 E) (l_num (by omega) hok (by decide) v6) dL_numbers_260 ⟨by decide, by decide⟩ (Nat.le_of_ble_eq_true rfl) ?_
  refine r_iload hJ dL_numbers_263 jg8 ?_
  refine r_icmp_eq_f hJ (tgt := 306) (fun q => nI_m1 (n := h) (by omega) q.symm) dL_numbers_265 (by decide) ?_
  refine r_aload_n hJ dL_numbers_268 rfl jg0 ?_
  refine r_iload hJ dL_numbers_269 jg6 ?_
  refine r_iconst hJ (v := nI 5) dL_numbers_271 (by decide) ?_
  refine r_V2v hJ kL_76 (rcv4 E) (l_num (by omega) hok (by decide) (v5)) dL_numbers_272 ⟨by decide, by decide⟩ (Nat.le_of_ble_eq_true rfl) ?_
  refine r_if_le_t hJ (tgt := 282) (by decide) dL_numbers_275 (by decide) ?_
  refine r_iconst hJ (v := nI 0) dL_numbers_282 (by decide) ?_
  refine r_aload_n hJ dL_numbers_283 rfl jg0 ?_
  refine r_iload hJ dL_numbers_284 jg6 ?_
  refine r_bipush hJ (v := nI 6) dL_numbers_286 (by decide) ?_
  refine r_V2v hJ kL_76 (rcv4 E) (l_num (by omega) hok (by decide) v6) dL_numbers_288 ⟨by decide, by decide⟩ (Nat.le_of_ble_eq_true rfl) ?_
  refine r_if_lt_t hJ (tgt := 298) (by decide) dL_numbers_291 (by decide) ?_
  refine r_iconst hJ (v := nI 0) dL_numbers_298 (by decide) ?_
  refine r_icmp_ne_f hJ (tgt := 306) (rfl) dL_numbers_299 (by decide) ?_
  refine r_iconst hJ (v := nI 1) dL_numbers_302 (by decide) ?_
  refine r_goto hJ (tgt := 307) dL_numbers_303 (by decide) ?_
  refine r_istore_n hJ dL_numbers_307 rfl (jp1 rfl rfl) ?_
  refine r_iload_n hJ dL_numbers_308 rfl jg1 ?_
  refine r_if_eq_f hJ (tgt := 338) (by decide) dL_numbers_309 (by decide) ?_
  refine r_aload_n hJ dL_numbers_312 rfl jg0 ?_
  refine r_iload hJ dL_numbers_313 jg8 ?_
  refine r_iload hJ dL_numbers_315 jg6 ?_
  refine r_V2v hJ kL_82 (rcv4 E) (l_wis hP hh hn64 hok v1) dL_numbers_317 ⟨by decide, by decide⟩ (Nat.le_of_ble_eq_true rfl) ?_
  refine r_if_ne_f hJ (tgt := 338) (rfl) dL_numbers_320 (by decide) ?_
  refine r_aload_n hJ dL_numbers_323 rfl jg0 ?_
  refine r_iload hJ dL_numbers_324 jg6 ?_
  refine r_bipush hJ (v := nI 8) dL_numbers_326 (by decide) ?_
  refine r_V2v hJ kL_76 (rcv4 E) (l_num (by omega) hok (by decide) (v8)) dL_numbers_328 ⟨by decide, by decide⟩ (Nat.le_of_ble_eq_true rfl) ?_
  refine r_if_le_f hJ (tgt := 338) (Int32.not_le.mpr ((nI_0lt (by omega)).mpr hg0)) dL_numbers_331 (by decide) ?_
  refine r_iconst hJ (v := nI 1) dL_numbers_334 (by decide) ?_
  refine r_goto hJ (tgt := 339) dL_numbers_335 (by decide) ?_
  refine r_istore_n hJ dL_numbers_339 rfl (jp1 rfl rfl) ?_
  refine r_iload_n hJ dL_numbers_340 rfl jg3 ?_
  refine r_iload hJ dL_numbers_341 jg7 ?_
  refine r_if_ne_t hJ (tgt := 350) (by decide) dL_numbers_343 (by decide) ?_
  refine r_iconst hJ (v := nI 0) dL_numbers_350 (by decide) ?_
  refine r_iaddN hJ dL_numbers_351 ?_
  refine r_istore_n hJ dL_numbers_352 rfl (jp3 rfl rfl) ?_
  refine r_iload hJ dL_numbers_353 jg4 ?_
  refine r_iload hJ dL_numbers_355 jg7 ?_
  refine r_iconst hJ (v := nI 1) dL_numbers_357 (by decide) ?_
  refine r_icmp_ne_f hJ (tgt := 365) (rfl) dL_numbers_358 (by decide) ?_
  refine r_iconst hJ (v := nI 1) dL_numbers_361 (by decide) ?_
  refine r_goto hJ (tgt := 366) dL_numbers_362 (by decide) ?_
  refine r_iaddN hJ dL_numbers_366 ?_
  refine r_istore hJ dL_numbers_367 (jp4 rfl rfl) ?_
  refine r_iload hJ dL_numbers_369 jg5 ?_
  refine r_aload_n hJ dL_numbers_371 rfl jg0 ?_
  refine r_iload hJ dL_numbers_372 jg6 ?_
  refine r_iconst hJ (v := nI 5) dL_numbers_374 (by decide) ?_
  refine r_V2v hJ kL_76 (rcv4 E) (l_num (by omega) hok (by decide) rfl) dL_numbers_375 ⟨by decide, by decide⟩ (Nat.le_of_ble_eq_true rfl) ?_
  refine r_iadd hJ dL_numbers_378 ?_
  refine r_istore hJ dL_numbers_379 (jp5 rfl rfl) ?_
  refine r_iinc hJ dL_numbers_381 jg6 (ii1 _) (jp6 rfl rfl) ?_
  refine r_goto hJ (tgt := 19) dL_numbers_384 (by decide) ?_
  exact r_fgt hJ (lless_s (lless_s (lless_s (lless_s (lless_s (lless_s (lless_s (lless_n (lless_n lless_0))))))))) kk
theorem num_h11 {l : Launch} {E : jE} {n0 cap : Nat} {J : jT} (hJ : jR l E RL cL_numbers 9 10 n0 cap J) {S : jS} {A : jO} {K : Nat → Nat} {y : Int64 × Nat} {z t n c0 c1 : Nat} {W : Int32} {h b e le g w h' : Nat} (hz : S 0 1 3 = nI z) (hz6 : z ≤ 64) (hn : n < z) (hP : PI (S 0)) (hok : okN S (nI n) = true) (hh : h < 8) (v1 : S 0 2 n = nI h) (e3 : S 0 3 n = nI b) (e4 : S 0 4 n = nI e) (e5 : S 0 5 n = nI le) (e6 : S 0 6 n = nI g) (e7 : S 0 7 n = nI w) (hbe : b < e) (hel : e ≤ le) (hbt : b ≤ t) (htl : t < le) (hlb : le < 2 ^ 30) (hg0 : 0 < g) (hgb : g < 2 ^ 30) (hw3 : w ≤ 3) (hte : t < e) (hs : stg (S 0) n = nI 1) (hw0 : 0 < w) (h8 : h' < 8) (e8 : S 0 8 (n * 3) = nI h') (hne : ¬ h' = h)
    (kk : J (setO S 1 (S 0), (K, y)) 19 [some (.ref (ad E 11 0)), some (.int (nI 1)), some (.int (nI t)), some (.int (nI (c0 + 0))), some (.int (nI (c1 + 1))), some (.int (W + S 0 7 n)), some (.int (nI (n + 1))), none, none] []) : J (setO S 1 A, (K, y)) 19 [some (.ref (ad E 11 0)), some (.int (nI 1)), some (.int (nI t)), some (.int (nI c0)), some (.int (nI c1)), some (.int (W)), some (.int (nI n)), none, none] [] := by
  have hn64 : n < 64 := by omega
  have hf : ¬ S 0 2 n = -1 := by rw [v1]; exact nI_m1 (by omega)
  have v0 : ofN (S 0) n 0 = nI 1 := hs
  have v5 : ofN (S 0) n 5 = nI w := e7
  have v2 : ofN (S 0) n 2 = nI b := (if_neg hf).trans e3
  have v3 : ofN (S 0) n 3 = nI e := (if_neg hf).trans e4
  have v4 : ofN (S 0) n 4 = nI le := (if_neg hf).trans e5
  have v8 : ofN (S 0) n 8 = nI g := e6
  have v6 : ofN (S 0) n 6 = nI h' := (if_pos (by rw [e7]; exact (nI_0lt (by omega)).mpr hw0)).trans e8
  refine r_iload hJ dL_numbers_19 jg6 ?_
  refine r_aload_n hJ dL_numbers_21 rfl jg0 ?_
  refine r_iconst hJ (v := nI 3) dL_numbers_22 (by decide) ?_
  refine r_V1v hJ kL_37 (rcv4 E) (l_set hz) dL_numbers_23 ⟨by decide, by decide⟩ (Nat.le_of_ble_eq_true rfl) ?_
  refine r_icmp_ge_f hJ (tgt := 387) (nI_ge hn (by omega)) dL_numbers_26 (by decide) ?_
  refine r_iload_n hJ dL_numbers_29 rfl jg1 ?_
  refine r_if_eq_f hJ (tgt := 387) (by decide) dL_numbers_30 (by decide) ?_
  refine r_aload_n hJ dL_numbers_33 rfl jg0 ?_
  refine r_iload hJ dL_numbers_34 jg6 ?_
  refine r_iconst hJ (v := nI 0) dL_numbers_36 (by decide) ?_
  refine r_V2v hJ kL_76 (rcv4 E) (l_num (by omega) hok (by decide) (v0)) dL_numbers_37 ⟨by decide, by decide⟩ (Nat.le_of_ble_eq_true rfl) ?_
  refine r_istore hJ dL_numbers_40 (jp7 rfl rfl) ?_
  refine r_aload_n hJ dL_numbers_42 rfl jg0 ?_
  refine r_iload hJ dL_numbers_43 jg6 ?_
  refine r_iconst hJ (v := nI 1) dL_numbers_45 (by decide) ?_
  refine r_V2v hJ kL_76 (rcv4 E) (l_num (by omega) hok (by decide) (v1)) dL_numbers_46 ⟨by decide, by decide⟩ (Nat.le_of_ble_eq_true rfl) ?_
  refine r_istore hJ dL_numbers_49 (jp8 rfl rfl) ?_
  refine r_iload hJ dL_numbers_51 jg8 ?_
  refine r_iconst hJ (v := (-1)) dL_numbers_53 (by decide) ?_
  refine r_icmp_ne_t hJ (tgt := 61) (nI_m1 (by omega)) dL_numbers_54 (by decide) ?_
  refine r_iconst hJ (v := nI 0) dL_numbers_61 (by decide) ?_
  refine r_iload hJ dL_numbers_62 jg7 ?_
  refine r_if_ne_t hJ (tgt := 71) (by decide) dL_numbers_64 (by decide) ?_
  refine r_iconst hJ (v := nI 0) dL_numbers_71 (by decide) ?_
  refine r_icmp_ne_f hJ (tgt := 102) (rfl) dL_numbers_72 (by decide) ?_
  refine r_aload_n hJ dL_numbers_75 rfl jg0 ?_
  refine r_iload hJ dL_numbers_76 jg6 ?_
  refine r_iconst hJ (v := nI 5) dL_numbers_78 (by decide) ?_
  refine r_V2v hJ kL_76 (rcv4 E) (l_num (by omega) hok (by decide) (v5)) dL_numbers_79 ⟨by decide, by decide⟩ (Nat.le_of_ble_eq_true rfl) ?_
  refine r_iconst hJ (v := nI 3) dL_numbers_82 (by decide) ?_
  refine r_icmp_gt_f hJ (tgt := 102) (nI_nlt (by omega) (by omega)) dL_numbers_83 (by decide) ?_
  refine r_aload_n hJ dL_numbers_86 rfl jg0 ?_
  refine r_iload hJ dL_numbers_87 jg6 ?_
  refine r_iconst hJ (v := nI 0) dL_numbers_89 (by decide) ?_
  refine r_V2v hJ kL_79 (rcv4 E) (l_who hP (by omega) hok) dL_numbers_90 ⟨by decide, by decide⟩ (Nat.le_of_ble_eq_true rfl) ?_
  refine r_iload hJ dL_numbers_93 jg8 ?_
  refine r_icmp_ne_f hJ (tgt := 102) (v1) dL_numbers_95 (by decide) ?_
  refine r_iconst hJ (v := nI 1) dL_numbers_98 (by decide) ?_
  refine r_goto hJ (tgt := 103) dL_numbers_99 (by decide) ?_
  refine r_istore_n hJ dL_numbers_103 rfl (jp1 rfl rfl) ?_
  refine r_iload hJ dL_numbers_104 jg7 ?_
  refine r_if_ne_t hJ (tgt := 155) (by decide) dL_numbers_106 (by decide) ?_
  refine r_iload_n hJ dL_numbers_155 rfl jg1 ?_
  refine r_if_eq_f hJ (tgt := 219) (by decide) dL_numbers_156 (by decide) ?_
  refine r_aload_n hJ dL_numbers_159 rfl jg0 ?_
  refine r_iload hJ dL_numbers_160 jg6 ?_
  refine r_iconst hJ (v := nI 2) dL_numbers_162 (by decide) ?_
  refine r_V2v hJ kL_76 (rcv4 E) (l_num (by omega) hok (by decide) (v2)) dL_numbers_163 ⟨by decide, by decide⟩ (Nat.le_of_ble_eq_true rfl) ?_
  refine r_aload_n hJ dL_numbers_166 rfl jg0 ?_
  refine r_iload hJ dL_numbers_167 jg6 ?_
  refine r_iconst hJ (v := nI 3) dL_numbers_169 (by decide) ?_
  refine r_V2v hJ kL_76 (rcv4 E) (l_num (by omega) hok (by decide) (v3)) dL_numbers_170 ⟨by decide, by decide⟩ (Nat.le_of_ble_eq_true rfl) ?_
  refine r_icmp_ge_f hJ (tgt := 219) (nI_ge hbe (by omega)) dL_numbers_173 (by decide) ?_
  refine r_aload_n hJ dL_numbers_176 rfl jg0 ?_
  refine r_iload hJ dL_numbers_177 jg6 ?_
  refine r_iconst hJ (v := nI 3) dL_numbers_179 (by decide) ?_
  refine r_V2v hJ kL_76 (rcv4 E) (l_num (by omega) hok (by decide) (v3)) dL_numbers_180 ⟨by decide, by decide⟩ (Nat.le_of_ble_eq_true rfl) ?_
  refine r_aload_n hJ dL_numbers_183 rfl jg0 ?_
  refine r_iload hJ dL_numbers_184 jg6 ?_
  refine r_iconst hJ (v := nI 4) dL_numbers_186 (by decide) ?_
  refine r_V2v hJ kL_76 (rcv4 E) (l_num (by omega) hok (by decide) (v4)) dL_numbers_187 ⟨by decide, by decide⟩ (Nat.le_of_ble_eq_true rfl) ?_
  refine r_icmp_gt_f hJ (tgt := 219) (nI_nlt hel (by omega)) dL_numbers_190 (by decide) ?_
  refine r_aload_n hJ dL_numbers_193 rfl jg0 ?_
  refine r_iload hJ dL_numbers_194 jg6 ?_
  refine r_iconst hJ (v := nI 2) dL_numbers_196 (by decide) ?_
  refine r_V2v hJ kL_76 (rcv4 E) (l_num (by omega) hok (by decide) (v2)) dL_numbers_197 ⟨by decide, by decide⟩ (Nat.le_of_ble_eq_true rfl) ?_
  refine r_iload_n hJ dL_numbers_200 rfl jg2 ?_
  refine r_icmp_gt_f hJ (tgt := 219) (nI_nlt hbt (by omega)) dL_numbers_201 (by decide) ?_
  refine r_iload_n hJ dL_numbers_204 rfl jg2 ?_
  refine r_aload_n hJ dL_numbers_205 rfl jg0 ?_
  refine r_iload hJ dL_numbers_206 jg6 ?_
  refine r_iconst hJ (v := nI 4) dL_numbers_208 (by decide) ?_
  refine r_V2v hJ kL_76 (rcv4 E) (l_num (by omega) hok (by decide) (v4)) dL_numbers_209 ⟨by decide, by decide⟩ (Nat.le_of_ble_eq_true rfl) ?_
  refine r_icmp_ge_f hJ (tgt := 219) (nI_ge htl (by omega)) dL_numbers_212 (by decide) ?_
  refine r_iconst hJ (v := nI 1) dL_numbers_215 (by decide) ?_
  refine r_goto hJ (tgt := 220) dL_numbers_216 (by decide) ?_
  refine r_istore_n hJ dL_numbers_220 rfl (jp1 rfl rfl) ?_
  refine r_iload_n hJ dL_numbers_221 rfl jg1 ?_
  refine r_if_eq_f hJ (tgt := 306) (by decide) dL_numbers_222 (by decide) ?_
  refine r_iload hJ dL_numbers_225 jg7 ?_
  refine r_iconst hJ (v := nI 1) dL_numbers_227 (by decide) ?_
  refine r_icmp_ne_f hJ (tgt := 235) (rfl) dL_numbers_228 (by decide) ?_
  refine r_iconst hJ (v := nI 1) dL_numbers_231 (by decide) ?_
  refine r_goto hJ (tgt := 236) dL_numbers_232 (by decide) ?_
  refine r_iload_n hJ dL_numbers_236 rfl jg2 ?_
  refine r_aload_n hJ dL_numbers_237 rfl jg0 ?_
  refine r_iload hJ dL_numbers_238 jg6 ?_
  refine r_iconst hJ (v := nI 3) dL_numbers_240 (by decide) ?_
  refine r_V2v hJ kL_76 (rcv4 E) (l_num (by omega) hok (by decide) (v3)) dL_numbers_241 ⟨by decide, by decide⟩ (Nat.le_of_ble_eq_true rfl) ?_
  refine r_icmp_ge_f hJ (tgt := 251) (nI_ge hte (by omega)) dL_numbers_244 (by decide) ?_
  refine r_iconst hJ (v := nI 1) dL_numbers_247 (by decide) ?_
  refine r_goto hJ (tgt := 252) dL_numbers_248 (by decide) ?_
  refine r_icmp_ne_f hJ (tgt := 306) (rfl) dL_numbers_252 (by decide) ?_
  refine r_aload_n hJ dL_numbers_255 rfl jg0 ?_
  refine r_iload hJ dL_numbers_256 jg6 ?_
  refine r_bipush hJ (v := nI 6) dL_numbers_258 (by decide) ?_
  refine r_V2v hJ kL_76 (rcv4 E) (l_num (by omega) hok (by decide) (v6)) dL_numbers_260 ⟨by decide, by decide⟩ (Nat.le_of_ble_eq_true rfl) ?_
  refine r_iload hJ dL_numbers_263 jg8 ?_
  refine r_icmp_eq_f hJ (tgt := 306) (fun q => hne ((nI_eq (by omega) (by omega)).mp q)) dL_numbers_265 (by decide) ?_
  refine r_aload_n hJ dL_numbers_268 rfl jg0 ?_
  refine r_iload hJ dL_numbers_269 jg6 ?_
  refine r_iconst hJ (v := nI 5) dL_numbers_271 (by decide) ?_
  refine r_V2v hJ kL_76 (rcv4 E) (l_num (by omega) hok (by decide) (v5)) dL_numbers_272 ⟨by decide, by decide⟩ (Nat.le_of_ble_eq_true rfl) ?_
  refine r_if_le_f hJ (tgt := 282) (Int32.not_le.mpr ((nI_0lt (by omega)).mpr hw0)) dL_numbers_275 (by decide) ?_
  refine r_iconst hJ (v := nI 1) dL_numbers_278 (by decide) ?_
  refine r_goto hJ (tgt := 283) dL_numbers_279 (by decide) ?_
  refine r_aload_n hJ dL_numbers_283 rfl jg0 ?_
  refine r_iload hJ dL_numbers_284 jg6 ?_
  refine r_bipush hJ (v := nI 6) dL_numbers_286 (by decide) ?_
  refine r_V2v hJ kL_76 (rcv4 E) (l_num (by omega) hok (by decide) (v6)) dL_numbers_288 ⟨by decide, by decide⟩ (Nat.le_of_ble_eq_true rfl) ?_
  refine r_if_lt_f hJ (tgt := 298) (nI_pos (by omega)) dL_numbers_291 (by decide) ?_
  refine r_iconst hJ (v := nI 1) dL_numbers_294 (by decide) ?_
  refine r_goto hJ (tgt := 299) dL_numbers_295 (by decide) ?_
  refine r_icmp_ne_f hJ (tgt := 306) (rfl) dL_numbers_299 (by decide) ?_
  refine r_iconst hJ (v := nI 1) dL_numbers_302 (by decide) ?_
  refine r_goto hJ (tgt := 307) dL_numbers_303 (by decide) ?_
  refine r_istore_n hJ dL_numbers_307 rfl (jp1 rfl rfl) ?_
  refine r_iload_n hJ dL_numbers_308 rfl jg1 ?_
  refine r_if_eq_f hJ (tgt := 338) (by decide) dL_numbers_309 (by decide) ?_
  refine r_aload_n hJ dL_numbers_312 rfl jg0 ?_
  refine r_iload hJ dL_numbers_313 jg8 ?_
  refine r_iload hJ dL_numbers_315 jg6 ?_
  refine r_V2v hJ kL_82 (rcv4 E) (l_wis hP hh hn64 hok v1) dL_numbers_317 ⟨by decide, by decide⟩ (Nat.le_of_ble_eq_true rfl) ?_
  refine r_if_ne_f hJ (tgt := 338) (rfl) dL_numbers_320 (by decide) ?_
  refine r_aload_n hJ dL_numbers_323 rfl jg0 ?_
  refine r_iload hJ dL_numbers_324 jg6 ?_
  refine r_bipush hJ (v := nI 8) dL_numbers_326 (by decide) ?_
  refine r_V2v hJ kL_76 (rcv4 E) (l_num (by omega) hok (by decide) (v8)) dL_numbers_328 ⟨by decide, by decide⟩ (Nat.le_of_ble_eq_true rfl) ?_
  refine r_if_le_f hJ (tgt := 338) (Int32.not_le.mpr ((nI_0lt (by omega)).mpr hg0)) dL_numbers_331 (by decide) ?_
  refine r_iconst hJ (v := nI 1) dL_numbers_334 (by decide) ?_
  refine r_goto hJ (tgt := 339) dL_numbers_335 (by decide) ?_
  refine r_istore_n hJ dL_numbers_339 rfl (jp1 rfl rfl) ?_
  refine r_iload_n hJ dL_numbers_340 rfl jg3 ?_
  refine r_iload hJ dL_numbers_341 jg7 ?_
  refine r_if_ne_t hJ (tgt := 350) (by decide) dL_numbers_343 (by decide) ?_
  refine r_iconst hJ (v := nI 0) dL_numbers_350 (by decide) ?_
  refine r_iaddN hJ dL_numbers_351 ?_
  refine r_istore_n hJ dL_numbers_352 rfl (jp3 rfl rfl) ?_
  refine r_iload hJ dL_numbers_353 jg4 ?_
  refine r_iload hJ dL_numbers_355 jg7 ?_
  refine r_iconst hJ (v := nI 1) dL_numbers_357 (by decide) ?_
  refine r_icmp_ne_f hJ (tgt := 365) (rfl) dL_numbers_358 (by decide) ?_
  refine r_iconst hJ (v := nI 1) dL_numbers_361 (by decide) ?_
  refine r_goto hJ (tgt := 366) dL_numbers_362 (by decide) ?_
  refine r_iaddN hJ dL_numbers_366 ?_
  refine r_istore hJ dL_numbers_367 (jp4 rfl rfl) ?_
  refine r_iload hJ dL_numbers_369 jg5 ?_
  refine r_aload_n hJ dL_numbers_371 rfl jg0 ?_
  refine r_iload hJ dL_numbers_372 jg6 ?_
  refine r_iconst hJ (v := nI 5) dL_numbers_374 (by decide) ?_
  refine r_V2v hJ kL_76 (rcv4 E) (l_num (by omega) hok (by decide) rfl) dL_numbers_375 ⟨by decide, by decide⟩ (Nat.le_of_ble_eq_true rfl) ?_
  refine r_iadd hJ dL_numbers_378 ?_
  refine r_istore hJ dL_numbers_379 (jp5 rfl rfl) ?_
  refine r_iinc hJ dL_numbers_381 jg6 (ii1 _) (jp6 rfl rfl) ?_
  refine r_goto hJ (tgt := 19) dL_numbers_384 (by decide) ?_
  exact r_fgt hJ (lless_s (lless_s (lless_s (lless_s (lless_s (lless_s (lless_s (lless_n (lless_n lless_0))))))))) kk
theorem num_h20 {l : Launch} {E : jE} {n0 cap : Nat} {J : jT} (hJ : jR l E RL cL_numbers 9 10 n0 cap J) {S : jS} {A : jO} {K : Nat → Nat} {y : Int64 × Nat} {z t n c0 c1 : Nat} {W : Int32} {h b e le g w : Nat} (hz : S 0 1 3 = nI z) (hz6 : z ≤ 64) (hn : n < z) (hP : PI (S 0)) (hok : okN S (nI n) = true) (hh : h < 8) (v1 : S 0 2 n = nI h) (e3 : S 0 3 n = nI b) (e4 : S 0 4 n = nI e) (e5 : S 0 5 n = nI le) (e6 : S 0 6 n = nI g) (e7 : S 0 7 n = nI w) (hbe : b < e) (hel : e ≤ le) (hbt : b ≤ t) (htl : t < le) (hlb : le < 2 ^ 30) (hg0 : 0 < g) (hgb : g < 2 ^ 30) (hw3 : w ≤ 3) (hte : e ≤ t) (hs : stg (S 0) n = nI 2) (hw0 : w = 0)
    (kk : J (setO S 1 (S 0), (K, y)) 19 [some (.ref (ad E 11 0)), some (.int (nI 1)), some (.int (nI t)), some (.int (nI (c0 + 0))), some (.int (nI (c1 + 0))), some (.int (W + S 0 7 n)), some (.int (nI (n + 1))), none, none] []) : J (setO S 1 A, (K, y)) 19 [some (.ref (ad E 11 0)), some (.int (nI 1)), some (.int (nI t)), some (.int (nI c0)), some (.int (nI c1)), some (.int (W)), some (.int (nI n)), none, none] [] := by
  have hn64 : n < 64 := by omega
  have hf : ¬ S 0 2 n = -1 := by rw [v1]; exact nI_m1 (by omega)
  have v0 : ofN (S 0) n 0 = nI 2 := hs
  have v5 : ofN (S 0) n 5 = nI w := e7
  have v2 : ofN (S 0) n 2 = nI b := (if_neg hf).trans e3
  have v3 : ofN (S 0) n 3 = nI e := (if_neg hf).trans e4
  have v4 : ofN (S 0) n 4 = nI le := (if_neg hf).trans e5
  have v8 : ofN (S 0) n 8 = nI g := e6
  subst hw0
  have v6 : ofN (S 0) n 6 = -1 := if_neg (by rw [e7]; decide)
  refine r_iload hJ dL_numbers_19 jg6 ?_
  refine r_aload_n hJ dL_numbers_21 rfl jg0 ?_
  refine r_iconst hJ (v := nI 3) dL_numbers_22 (by decide) ?_
  refine r_V1v hJ kL_37 (rcv4 E) (l_set hz) dL_numbers_23 ⟨by decide, by decide⟩ (Nat.le_of_ble_eq_true rfl) ?_
  refine r_icmp_ge_f hJ (tgt := 387) (nI_ge hn (by omega)) dL_numbers_26 (by decide) ?_
  refine r_iload_n hJ dL_numbers_29 rfl jg1 ?_
  refine r_if_eq_f hJ (tgt := 387) (by decide) dL_numbers_30 (by decide) ?_
  refine r_aload_n hJ dL_numbers_33 rfl jg0 ?_
  refine r_iload hJ dL_numbers_34 jg6 ?_
  refine r_iconst hJ (v := nI 0) dL_numbers_36 (by decide) ?_
  refine r_V2v hJ kL_76 (rcv4 E) (l_num (by omega) hok (by decide) (v0)) dL_numbers_37 ⟨by decide, by decide⟩ (Nat.le_of_ble_eq_true rfl) ?_
  refine r_istore hJ dL_numbers_40 (jp7 rfl rfl) ?_
  refine r_aload_n hJ dL_numbers_42 rfl jg0 ?_
  refine r_iload hJ dL_numbers_43 jg6 ?_
  refine r_iconst hJ (v := nI 1) dL_numbers_45 (by decide) ?_
  refine r_V2v hJ kL_76 (rcv4 E) (l_num (by omega) hok (by decide) (v1)) dL_numbers_46 ⟨by decide, by decide⟩ (Nat.le_of_ble_eq_true rfl) ?_
  refine r_istore hJ dL_numbers_49 (jp8 rfl rfl) ?_
  refine r_iload hJ dL_numbers_51 jg8 ?_
  refine r_iconst hJ (v := (-1)) dL_numbers_53 (by decide) ?_
  refine r_icmp_ne_t hJ (tgt := 61) (nI_m1 (by omega)) dL_numbers_54 (by decide) ?_
  refine r_iconst hJ (v := nI 0) dL_numbers_61 (by decide) ?_
  refine r_iload hJ dL_numbers_62 jg7 ?_
  refine r_if_ne_t hJ (tgt := 71) (by decide) dL_numbers_64 (by decide) ?_
  refine r_iconst hJ (v := nI 0) dL_numbers_71 (by decide) ?_
  refine r_icmp_ne_f hJ (tgt := 102) (rfl) dL_numbers_72 (by decide) ?_
  refine r_aload_n hJ dL_numbers_75 rfl jg0 ?_
  refine r_iload hJ dL_numbers_76 jg6 ?_
  refine r_iconst hJ (v := nI 5) dL_numbers_78 (by decide) ?_
  refine r_V2v hJ kL_76 (rcv4 E) (l_num (by omega) hok (by decide) (v5)) dL_numbers_79 ⟨by decide, by decide⟩ (Nat.le_of_ble_eq_true rfl) ?_
  refine r_iconst hJ (v := nI 3) dL_numbers_82 (by decide) ?_
  refine r_icmp_gt_f hJ (tgt := 102) (nI_nlt (by omega) (by omega)) dL_numbers_83 (by decide) ?_
  refine r_aload_n hJ dL_numbers_86 rfl jg0 ?_
  refine r_iload hJ dL_numbers_87 jg6 ?_
  refine r_iconst hJ (v := nI 0) dL_numbers_89 (by decide) ?_
  refine r_V2v hJ kL_79 (rcv4 E) (l_who hP (by omega) hok) dL_numbers_90 ⟨by decide, by decide⟩ (Nat.le_of_ble_eq_true rfl) ?_
  refine r_iload hJ dL_numbers_93 jg8 ?_
  refine r_icmp_ne_f hJ (tgt := 102) (v1) dL_numbers_95 (by decide) ?_
  refine r_iconst hJ (v := nI 1) dL_numbers_98 (by decide) ?_
  refine r_goto hJ (tgt := 103) dL_numbers_99 (by decide) ?_
  refine r_istore_n hJ dL_numbers_103 rfl (jp1 rfl rfl) ?_
  refine r_iload hJ dL_numbers_104 jg7 ?_
  refine r_if_ne_t hJ (tgt := 155) (by decide) dL_numbers_106 (by decide) ?_
  refine r_iload_n hJ dL_numbers_155 rfl jg1 ?_
  refine r_if_eq_f hJ (tgt := 219) (by decide) dL_numbers_156 (by decide) ?_
  refine r_aload_n hJ dL_numbers_159 rfl jg0 ?_
  refine r_iload hJ dL_numbers_160 jg6 ?_
  refine r_iconst hJ (v := nI 2) dL_numbers_162 (by decide) ?_
  refine r_V2v hJ kL_76 (rcv4 E) (l_num (by omega) hok (by decide) (v2)) dL_numbers_163 ⟨by decide, by decide⟩ (Nat.le_of_ble_eq_true rfl) ?_
  refine r_aload_n hJ dL_numbers_166 rfl jg0 ?_
  refine r_iload hJ dL_numbers_167 jg6 ?_
  refine r_iconst hJ (v := nI 3) dL_numbers_169 (by decide) ?_
  refine r_V2v hJ kL_76 (rcv4 E) (l_num (by omega) hok (by decide) (v3)) dL_numbers_170 ⟨by decide, by decide⟩ (Nat.le_of_ble_eq_true rfl) ?_
  refine r_icmp_ge_f hJ (tgt := 219) (nI_ge hbe (by omega)) dL_numbers_173 (by decide) ?_
  refine r_aload_n hJ dL_numbers_176 rfl jg0 ?_
  refine r_iload hJ dL_numbers_177 jg6 ?_
  refine r_iconst hJ (v := nI 3) dL_numbers_179 (by decide) ?_
  refine r_V2v hJ kL_76 (rcv4 E) (l_num (by omega) hok (by decide) (v3)) dL_numbers_180 ⟨by decide, by decide⟩ (Nat.le_of_ble_eq_true rfl) ?_
  refine r_aload_n hJ dL_numbers_183 rfl jg0 ?_
  refine r_iload hJ dL_numbers_184 jg6 ?_
  refine r_iconst hJ (v := nI 4) dL_numbers_186 (by decide) ?_
  refine r_V2v hJ kL_76 (rcv4 E) (l_num (by omega) hok (by decide) (v4)) dL_numbers_187 ⟨by decide, by decide⟩ (Nat.le_of_ble_eq_true rfl) ?_
  refine r_icmp_gt_f hJ (tgt := 219) (nI_nlt hel (by omega)) dL_numbers_190 (by decide) ?_
  refine r_aload_n hJ dL_numbers_193 rfl jg0 ?_
  refine r_iload hJ dL_numbers_194 jg6 ?_
  refine r_iconst hJ (v := nI 2) dL_numbers_196 (by decide) ?_
  refine r_V2v hJ kL_76 (rcv4 E) (l_num (by omega) hok (by decide) (v2)) dL_numbers_197 ⟨by decide, by decide⟩ (Nat.le_of_ble_eq_true rfl) ?_
  refine r_iload_n hJ dL_numbers_200 rfl jg2 ?_
  refine r_icmp_gt_f hJ (tgt := 219) (nI_nlt hbt (by omega)) dL_numbers_201 (by decide) ?_
  refine r_iload_n hJ dL_numbers_204 rfl jg2 ?_
  refine r_aload_n hJ dL_numbers_205 rfl jg0 ?_
  refine r_iload hJ dL_numbers_206 jg6 ?_
  refine r_iconst hJ (v := nI 4) dL_numbers_208 (by decide) ?_
  refine r_V2v hJ kL_76 (rcv4 E) (l_num (by omega) hok (by decide) (v4)) dL_numbers_209 ⟨by decide, by decide⟩ (Nat.le_of_ble_eq_true rfl) ?_
  refine r_icmp_ge_f hJ (tgt := 219) (nI_ge htl (by omega)) dL_numbers_212 (by decide) ?_
  refine r_iconst hJ (v := nI 1) dL_numbers_215 (by decide) ?_
  refine r_goto hJ (tgt := 220) dL_numbers_216 (by decide) ?_
  refine r_istore_n hJ dL_numbers_220 rfl (jp1 rfl rfl) ?_
  refine r_iload_n hJ dL_numbers_221 rfl jg1 ?_
  refine r_if_eq_f hJ (tgt := 306) (by decide) dL_numbers_222 (by decide) ?_
  refine r_iload hJ dL_numbers_225 jg7 ?_
  refine r_iconst hJ (v := nI 1) dL_numbers_227 (by decide) ?_
  refine r_icmp_ne_t hJ (tgt := 235) (by decide) dL_numbers_228 (by decide) ?_
  refine r_iconst hJ (v := nI 0) dL_numbers_235 (by decide) ?_
  refine r_iload_n hJ dL_numbers_236 rfl jg2 ?_
  refine r_aload_n hJ dL_numbers_237 rfl jg0 ?_
  refine r_iload hJ dL_numbers_238 jg6 ?_
  refine r_iconst hJ (v := nI 3) dL_numbers_240 (by decide) ?_
  refine r_V2v hJ kL_76 (rcv4 E) (l_num (by omega) hok (by decide) (v3)) dL_numbers_241 ⟨by decide, by decide⟩ (Nat.le_of_ble_eq_true rfl) ?_
  refine r_icmp_ge_t hJ (tgt := 251) (nI_le hte (by omega)) dL_numbers_244 (by decide) ?_
  refine r_iconst hJ (v := nI 0) dL_numbers_251 (by decide) ?_
  refine r_icmp_ne_f hJ (tgt := 306) (rfl) dL_numbers_252 (by decide) ?_
  refine r_aload_n hJ dL_numbers_255 rfl jg0 ?_
  refine r_iload hJ dL_numbers_256 jg6 ?_
  refine r_bipush hJ (v := nI 6) dL_numbers_258 (by decide) ?_
  refine r_V2v hJ kL_76 (rcv4 E) (l_num (by omega) hok (by decide) v6) dL_numbers_260 ⟨by decide, by decide⟩ (Nat.le_of_ble_eq_true rfl) ?_
  refine r_iload hJ dL_numbers_263 jg8 ?_
  refine r_icmp_eq_f hJ (tgt := 306) (fun q => nI_m1 (n := h) (by omega) q.symm) dL_numbers_265 (by decide) ?_
  refine r_aload_n hJ dL_numbers_268 rfl jg0 ?_
  refine r_iload hJ dL_numbers_269 jg6 ?_
  refine r_iconst hJ (v := nI 5) dL_numbers_271 (by decide) ?_
  refine r_V2v hJ kL_76 (rcv4 E) (l_num (by omega) hok (by decide) (v5)) dL_numbers_272 ⟨by decide, by decide⟩ (Nat.le_of_ble_eq_true rfl) ?_
  refine r_if_le_t hJ (tgt := 282) (by decide) dL_numbers_275 (by decide) ?_
  refine r_iconst hJ (v := nI 0) dL_numbers_282 (by decide) ?_
  refine r_aload_n hJ dL_numbers_283 rfl jg0 ?_
  refine r_iload hJ dL_numbers_284 jg6 ?_
  refine r_bipush hJ (v := nI 6) dL_numbers_286 (by decide) ?_
  refine r_V2v hJ kL_76 (rcv4 E) (l_num (by omega) hok (by decide) v6) dL_numbers_288 ⟨by decide, by decide⟩ (Nat.le_of_ble_eq_true rfl) ?_
  refine r_if_lt_t hJ (tgt := 298) (by decide) dL_numbers_291 (by decide) ?_
  refine r_iconst hJ (v := nI 0) dL_numbers_298 (by decide) ?_
  refine r_icmp_ne_f hJ (tgt := 306) (rfl) dL_numbers_299 (by decide) ?_
  refine r_iconst hJ (v := nI 1) dL_numbers_302 (by decide) ?_
  refine r_goto hJ (tgt := 307) dL_numbers_303 (by decide) ?_
  refine r_istore_n hJ dL_numbers_307 rfl (jp1 rfl rfl) ?_
  refine r_iload_n hJ dL_numbers_308 rfl jg1 ?_
  refine r_if_eq_f hJ (tgt := 338) (by decide) dL_numbers_309 (by decide) ?_
  refine r_aload_n hJ dL_numbers_312 rfl jg0 ?_
  refine r_iload hJ dL_numbers_313 jg8 ?_
  refine r_iload hJ dL_numbers_315 jg6 ?_
  refine r_V2v hJ kL_82 (rcv4 E) (l_wis hP hh hn64 hok v1) dL_numbers_317 ⟨by decide, by decide⟩ (Nat.le_of_ble_eq_true rfl) ?_
  refine r_if_ne_f hJ (tgt := 338) (rfl) dL_numbers_320 (by decide) ?_
  refine r_aload_n hJ dL_numbers_323 rfl jg0 ?_
  refine r_iload hJ dL_numbers_324 jg6 ?_
  refine r_bipush hJ (v := nI 8) dL_numbers_326 (by decide) ?_
  refine r_V2v hJ kL_76 (rcv4 E) (l_num (by omega) hok (by decide) (v8)) dL_numbers_328 ⟨by decide, by decide⟩ (Nat.le_of_ble_eq_true rfl) ?_
  refine r_if_le_f hJ (tgt := 338) (Int32.not_le.mpr ((nI_0lt (by omega)).mpr hg0)) dL_numbers_331 (by decide) ?_
  refine r_iconst hJ (v := nI 1) dL_numbers_334 (by decide) ?_
  refine r_goto hJ (tgt := 339) dL_numbers_335 (by decide) ?_
  refine r_istore_n hJ dL_numbers_339 rfl (jp1 rfl rfl) ?_
  refine r_iload_n hJ dL_numbers_340 rfl jg3 ?_
  refine r_iload hJ dL_numbers_341 jg7 ?_
  refine r_if_ne_t hJ (tgt := 350) (by decide) dL_numbers_343 (by decide) ?_
  refine r_iconst hJ (v := nI 0) dL_numbers_350 (by decide) ?_
  refine r_iaddN hJ dL_numbers_351 ?_
  refine r_istore_n hJ dL_numbers_352 rfl (jp3 rfl rfl) ?_
  refine r_iload hJ dL_numbers_353 jg4 ?_
  refine r_iload hJ dL_numbers_355 jg7 ?_
  refine r_iconst hJ (v := nI 1) dL_numbers_357 (by decide) ?_
  refine r_icmp_ne_t hJ (tgt := 365) (by decide) dL_numbers_358 (by decide) ?_
  refine r_iconst hJ (v := nI 0) dL_numbers_365 (by decide) ?_
  refine r_iaddN hJ dL_numbers_366 ?_
  refine r_istore hJ dL_numbers_367 (jp4 rfl rfl) ?_
  refine r_iload hJ dL_numbers_369 jg5 ?_
  refine r_aload_n hJ dL_numbers_371 rfl jg0 ?_
  refine r_iload hJ dL_numbers_372 jg6 ?_
  refine r_iconst hJ (v := nI 5) dL_numbers_374 (by decide) ?_
  refine r_V2v hJ kL_76 (rcv4 E) (l_num (by omega) hok (by decide) rfl) dL_numbers_375 ⟨by decide, by decide⟩ (Nat.le_of_ble_eq_true rfl) ?_
  refine r_iadd hJ dL_numbers_378 ?_
  refine r_istore hJ dL_numbers_379 (jp5 rfl rfl) ?_
  refine r_iinc hJ dL_numbers_381 jg6 (ii1 _) (jp6 rfl rfl) ?_
  refine r_goto hJ (tgt := 19) dL_numbers_384 (by decide) ?_
  exact r_fgt hJ (lless_s (lless_s (lless_s (lless_s (lless_s (lless_s (lless_s (lless_n (lless_n lless_0))))))))) kk
theorem num_h21 {l : Launch} {E : jE} {n0 cap : Nat} {J : jT} (hJ : jR l E RL cL_numbers 9 10 n0 cap J) {S : jS} {A : jO} {K : Nat → Nat} {y : Int64 × Nat} {z t n c0 c1 : Nat} {W : Int32} {h b e le g w h' : Nat} (hz : S 0 1 3 = nI z) (hz6 : z ≤ 64) (hn : n < z) (hP : PI (S 0)) (hok : okN S (nI n) = true) (hh : h < 8) (v1 : S 0 2 n = nI h) (e3 : S 0 3 n = nI b) (e4 : S 0 4 n = nI e) (e5 : S 0 5 n = nI le) (e6 : S 0 6 n = nI g) (e7 : S 0 7 n = nI w) (hbe : b < e) (hel : e ≤ le) (hbt : b ≤ t) (htl : t < le) (hlb : le < 2 ^ 30) (hg0 : 0 < g) (hgb : g < 2 ^ 30) (hw3 : w ≤ 3) (hte : e ≤ t) (hs : stg (S 0) n = nI 2) (hw0 : 0 < w) (h8 : h' < 8) (e8 : S 0 8 (n * 3) = nI h') (hne : ¬ h' = h)
    (kk : J (setO S 1 (S 0), (K, y)) 19 [some (.ref (ad E 11 0)), some (.int (nI 1)), some (.int (nI t)), some (.int (nI (c0 + 0))), some (.int (nI (c1 + 0))), some (.int (W + S 0 7 n)), some (.int (nI (n + 1))), none, none] []) : J (setO S 1 A, (K, y)) 19 [some (.ref (ad E 11 0)), some (.int (nI 1)), some (.int (nI t)), some (.int (nI c0)), some (.int (nI c1)), some (.int (W)), some (.int (nI n)), none, none] [] := by
  have hn64 : n < 64 := by omega
  have hf : ¬ S 0 2 n = -1 := by rw [v1]; exact nI_m1 (by omega)
  have v0 : ofN (S 0) n 0 = nI 2 := hs
  have v5 : ofN (S 0) n 5 = nI w := e7
  have v2 : ofN (S 0) n 2 = nI b := (if_neg hf).trans e3
  have v3 : ofN (S 0) n 3 = nI e := (if_neg hf).trans e4
  have v4 : ofN (S 0) n 4 = nI le := (if_neg hf).trans e5
  have v8 : ofN (S 0) n 8 = nI g := e6
  have v6 : ofN (S 0) n 6 = nI h' := (if_pos (by rw [e7]; exact (nI_0lt (by omega)).mpr hw0)).trans e8
  refine r_iload hJ dL_numbers_19 jg6 ?_
  refine r_aload_n hJ dL_numbers_21 rfl jg0 ?_
  refine r_iconst hJ (v := nI 3) dL_numbers_22 (by decide) ?_
  refine r_V1v hJ kL_37 (rcv4 E) (l_set hz) dL_numbers_23 ⟨by decide, by decide⟩ (Nat.le_of_ble_eq_true rfl) ?_
  refine r_icmp_ge_f hJ (tgt := 387) (nI_ge hn (by omega)) dL_numbers_26 (by decide) ?_
  refine r_iload_n hJ dL_numbers_29 rfl jg1 ?_
  refine r_if_eq_f hJ (tgt := 387) (by decide) dL_numbers_30 (by decide) ?_
  refine r_aload_n hJ dL_numbers_33 rfl jg0 ?_
  refine r_iload hJ dL_numbers_34 jg6 ?_
  refine r_iconst hJ (v := nI 0) dL_numbers_36 (by decide) ?_
  refine r_V2v hJ kL_76 (rcv4 E) (l_num (by omega) hok (by decide) (v0)) dL_numbers_37 ⟨by decide, by decide⟩ (Nat.le_of_ble_eq_true rfl) ?_
  refine r_istore hJ dL_numbers_40 (jp7 rfl rfl) ?_
  refine r_aload_n hJ dL_numbers_42 rfl jg0 ?_
  refine r_iload hJ dL_numbers_43 jg6 ?_
  refine r_iconst hJ (v := nI 1) dL_numbers_45 (by decide) ?_
  refine r_V2v hJ kL_76 (rcv4 E) (l_num (by omega) hok (by decide) (v1)) dL_numbers_46 ⟨by decide, by decide⟩ (Nat.le_of_ble_eq_true rfl) ?_
  refine r_istore hJ dL_numbers_49 (jp8 rfl rfl) ?_
  refine r_iload hJ dL_numbers_51 jg8 ?_
  refine r_iconst hJ (v := (-1)) dL_numbers_53 (by decide) ?_
  refine r_icmp_ne_t hJ (tgt := 61) (nI_m1 (by omega)) dL_numbers_54 (by decide) ?_
  refine r_iconst hJ (v := nI 0) dL_numbers_61 (by decide) ?_
  refine r_iload hJ dL_numbers_62 jg7 ?_
  refine r_if_ne_t hJ (tgt := 71) (by decide) dL_numbers_64 (by decide) ?_
  refine r_iconst hJ (v := nI 0) dL_numbers_71 (by decide) ?_
  refine r_icmp_ne_f hJ (tgt := 102) (rfl) dL_numbers_72 (by decide) ?_
  refine r_aload_n hJ dL_numbers_75 rfl jg0 ?_
  refine r_iload hJ dL_numbers_76 jg6 ?_
  refine r_iconst hJ (v := nI 5) dL_numbers_78 (by decide) ?_
  refine r_V2v hJ kL_76 (rcv4 E) (l_num (by omega) hok (by decide) (v5)) dL_numbers_79 ⟨by decide, by decide⟩ (Nat.le_of_ble_eq_true rfl) ?_
  refine r_iconst hJ (v := nI 3) dL_numbers_82 (by decide) ?_
  refine r_icmp_gt_f hJ (tgt := 102) (nI_nlt (by omega) (by omega)) dL_numbers_83 (by decide) ?_
  refine r_aload_n hJ dL_numbers_86 rfl jg0 ?_
  refine r_iload hJ dL_numbers_87 jg6 ?_
  refine r_iconst hJ (v := nI 0) dL_numbers_89 (by decide) ?_
  refine r_V2v hJ kL_79 (rcv4 E) (l_who hP (by omega) hok) dL_numbers_90 ⟨by decide, by decide⟩ (Nat.le_of_ble_eq_true rfl) ?_
  refine r_iload hJ dL_numbers_93 jg8 ?_
  refine r_icmp_ne_f hJ (tgt := 102) (v1) dL_numbers_95 (by decide) ?_
  refine r_iconst hJ (v := nI 1) dL_numbers_98 (by decide) ?_
  refine r_goto hJ (tgt := 103) dL_numbers_99 (by decide) ?_
  refine r_istore_n hJ dL_numbers_103 rfl (jp1 rfl rfl) ?_
  refine r_iload hJ dL_numbers_104 jg7 ?_
  refine r_if_ne_t hJ (tgt := 155) (by decide) dL_numbers_106 (by decide) ?_
  refine r_iload_n hJ dL_numbers_155 rfl jg1 ?_
  refine r_if_eq_f hJ (tgt := 219) (by decide) dL_numbers_156 (by decide) ?_
  refine r_aload_n hJ dL_numbers_159 rfl jg0 ?_
  refine r_iload hJ dL_numbers_160 jg6 ?_
  refine r_iconst hJ (v := nI 2) dL_numbers_162 (by decide) ?_
  refine r_V2v hJ kL_76 (rcv4 E) (l_num (by omega) hok (by decide) (v2)) dL_numbers_163 ⟨by decide, by decide⟩ (Nat.le_of_ble_eq_true rfl) ?_
  refine r_aload_n hJ dL_numbers_166 rfl jg0 ?_
  refine r_iload hJ dL_numbers_167 jg6 ?_
  refine r_iconst hJ (v := nI 3) dL_numbers_169 (by decide) ?_
  refine r_V2v hJ kL_76 (rcv4 E) (l_num (by omega) hok (by decide) (v3)) dL_numbers_170 ⟨by decide, by decide⟩ (Nat.le_of_ble_eq_true rfl) ?_
  refine r_icmp_ge_f hJ (tgt := 219) (nI_ge hbe (by omega)) dL_numbers_173 (by decide) ?_
  refine r_aload_n hJ dL_numbers_176 rfl jg0 ?_
  refine r_iload hJ dL_numbers_177 jg6 ?_
  refine r_iconst hJ (v := nI 3) dL_numbers_179 (by decide) ?_
  refine r_V2v hJ kL_76 (rcv4 E) (l_num (by omega) hok (by decide) (v3)) dL_numbers_180 ⟨by decide, by decide⟩ (Nat.le_of_ble_eq_true rfl) ?_
  refine r_aload_n hJ dL_numbers_183 rfl jg0 ?_
  refine r_iload hJ dL_numbers_184 jg6 ?_
  refine r_iconst hJ (v := nI 4) dL_numbers_186 (by decide) ?_
  refine r_V2v hJ kL_76 (rcv4 E) (l_num (by omega) hok (by decide) (v4)) dL_numbers_187 ⟨by decide, by decide⟩ (Nat.le_of_ble_eq_true rfl) ?_
  refine r_icmp_gt_f hJ (tgt := 219) (nI_nlt hel (by omega)) dL_numbers_190 (by decide) ?_
  refine r_aload_n hJ dL_numbers_193 rfl jg0 ?_
  refine r_iload hJ dL_numbers_194 jg6 ?_
  refine r_iconst hJ (v := nI 2) dL_numbers_196 (by decide) ?_
  refine r_V2v hJ kL_76 (rcv4 E) (l_num (by omega) hok (by decide) (v2)) dL_numbers_197 ⟨by decide, by decide⟩ (Nat.le_of_ble_eq_true rfl) ?_
  refine r_iload_n hJ dL_numbers_200 rfl jg2 ?_
  refine r_icmp_gt_f hJ (tgt := 219) (nI_nlt hbt (by omega)) dL_numbers_201 (by decide) ?_
  refine r_iload_n hJ dL_numbers_204 rfl jg2 ?_
  refine r_aload_n hJ dL_numbers_205 rfl jg0 ?_
  refine r_iload hJ dL_numbers_206 jg6 ?_
  refine r_iconst hJ (v := nI 4) dL_numbers_208 (by decide) ?_
  refine r_V2v hJ kL_76 (rcv4 E) (l_num (by omega) hok (by decide) (v4)) dL_numbers_209 ⟨by decide, by decide⟩ (Nat.le_of_ble_eq_true rfl) ?_
  refine r_icmp_ge_f hJ (tgt := 219) (nI_ge htl (by omega)) dL_numbers_212 (by decide) ?_
  refine r_iconst hJ (v := nI 1) dL_numbers_215 (by decide) ?_
  refine r_goto hJ (tgt := 220) dL_numbers_216 (by decide) ?_
  refine r_istore_n hJ dL_numbers_220 rfl (jp1 rfl rfl) ?_
  refine r_iload_n hJ dL_numbers_221 rfl jg1 ?_
  refine r_if_eq_f hJ (tgt := 306) (by decide) dL_numbers_222 (by decide) ?_
  refine r_iload hJ dL_numbers_225 jg7 ?_
  refine r_iconst hJ (v := nI 1) dL_numbers_227 (by decide) ?_
  refine r_icmp_ne_t hJ (tgt := 235) (by decide) dL_numbers_228 (by decide) ?_
  refine r_iconst hJ (v := nI 0) dL_numbers_235 (by decide) ?_
  refine r_iload_n hJ dL_numbers_236 rfl jg2 ?_
  refine r_aload_n hJ dL_numbers_237 rfl jg0 ?_
  refine r_iload hJ dL_numbers_238 jg6 ?_
  refine r_iconst hJ (v := nI 3) dL_numbers_240 (by decide) ?_
  refine r_V2v hJ kL_76 (rcv4 E) (l_num (by omega) hok (by decide) (v3)) dL_numbers_241 ⟨by decide, by decide⟩ (Nat.le_of_ble_eq_true rfl) ?_
  refine r_icmp_ge_t hJ (tgt := 251) (nI_le hte (by omega)) dL_numbers_244 (by decide) ?_
  refine r_iconst hJ (v := nI 0) dL_numbers_251 (by decide) ?_
  refine r_icmp_ne_f hJ (tgt := 306) (rfl) dL_numbers_252 (by decide) ?_
  refine r_aload_n hJ dL_numbers_255 rfl jg0 ?_
  refine r_iload hJ dL_numbers_256 jg6 ?_
  refine r_bipush hJ (v := nI 6) dL_numbers_258 (by decide) ?_
  refine r_V2v hJ kL_76 (rcv4 E) (l_num (by omega) hok (by decide) (v6)) dL_numbers_260 ⟨by decide, by decide⟩ (Nat.le_of_ble_eq_true rfl) ?_
  refine r_iload hJ dL_numbers_263 jg8 ?_
  refine r_icmp_eq_f hJ (tgt := 306) (fun q => hne ((nI_eq (by omega) (by omega)).mp q)) dL_numbers_265 (by decide) ?_
  refine r_aload_n hJ dL_numbers_268 rfl jg0 ?_
  refine r_iload hJ dL_numbers_269 jg6 ?_
  refine r_iconst hJ (v := nI 5) dL_numbers_271 (by decide) ?_
  refine r_V2v hJ kL_76 (rcv4 E) (l_num (by omega) hok (by decide) (v5)) dL_numbers_272 ⟨by decide, by decide⟩ (Nat.le_of_ble_eq_true rfl) ?_
  refine r_if_le_f hJ (tgt := 282) (Int32.not_le.mpr ((nI_0lt (by omega)).mpr hw0)) dL_numbers_275 (by decide) ?_
  refine r_iconst hJ (v := nI 1) dL_numbers_278 (by decide) ?_
  refine r_goto hJ (tgt := 283) dL_numbers_279 (by decide) ?_
  refine r_aload_n hJ dL_numbers_283 rfl jg0 ?_
  refine r_iload hJ dL_numbers_284 jg6 ?_
  refine r_bipush hJ (v := nI 6) dL_numbers_286 (by decide) ?_
  refine r_V2v hJ kL_76 (rcv4 E) (l_num (by omega) hok (by decide) (v6)) dL_numbers_288 ⟨by decide, by decide⟩ (Nat.le_of_ble_eq_true rfl) ?_
  refine r_if_lt_f hJ (tgt := 298) (nI_pos (by omega)) dL_numbers_291 (by decide) ?_
  refine r_iconst hJ (v := nI 1) dL_numbers_294 (by decide) ?_
  refine r_goto hJ (tgt := 299) dL_numbers_295 (by decide) ?_
  refine r_icmp_ne_f hJ (tgt := 306) (rfl) dL_numbers_299 (by decide) ?_
  refine r_iconst hJ (v := nI 1) dL_numbers_302 (by decide) ?_
  refine r_goto hJ (tgt := 307) dL_numbers_303 (by decide) ?_
  refine r_istore_n hJ dL_numbers_307 rfl (jp1 rfl rfl) ?_
  refine r_iload_n hJ dL_numbers_308 rfl jg1 ?_
  refine r_if_eq_f hJ (tgt := 338) (by decide) dL_numbers_309 (by decide) ?_
  refine r_aload_n hJ dL_numbers_312 rfl jg0 ?_
  refine r_iload hJ dL_numbers_313 jg8 ?_
  refine r_iload hJ dL_numbers_315 jg6 ?_
  refine r_V2v hJ kL_82 (rcv4 E) (l_wis hP hh hn64 hok v1) dL_numbers_317 ⟨by decide, by decide⟩ (Nat.le_of_ble_eq_true rfl) ?_
  refine r_if_ne_f hJ (tgt := 338) (rfl) dL_numbers_320 (by decide) ?_
  refine r_aload_n hJ dL_numbers_323 rfl jg0 ?_
  refine r_iload hJ dL_numbers_324 jg6 ?_
  refine r_bipush hJ (v := nI 8) dL_numbers_326 (by decide) ?_
  refine r_V2v hJ kL_76 (rcv4 E) (l_num (by omega) hok (by decide) (v8)) dL_numbers_328 ⟨by decide, by decide⟩ (Nat.le_of_ble_eq_true rfl) ?_
  refine r_if_le_f hJ (tgt := 338) (Int32.not_le.mpr ((nI_0lt (by omega)).mpr hg0)) dL_numbers_331 (by decide) ?_
  refine r_iconst hJ (v := nI 1) dL_numbers_334 (by decide) ?_
  refine r_goto hJ (tgt := 339) dL_numbers_335 (by decide) ?_
  refine r_istore_n hJ dL_numbers_339 rfl (jp1 rfl rfl) ?_
  refine r_iload_n hJ dL_numbers_340 rfl jg3 ?_
  refine r_iload hJ dL_numbers_341 jg7 ?_
  refine r_if_ne_t hJ (tgt := 350) (by decide) dL_numbers_343 (by decide) ?_
  refine r_iconst hJ (v := nI 0) dL_numbers_350 (by decide) ?_
  refine r_iaddN hJ dL_numbers_351 ?_
  refine r_istore_n hJ dL_numbers_352 rfl (jp3 rfl rfl) ?_
  refine r_iload hJ dL_numbers_353 jg4 ?_
  refine r_iload hJ dL_numbers_355 jg7 ?_
  refine r_iconst hJ (v := nI 1) dL_numbers_357 (by decide) ?_
  refine r_icmp_ne_t hJ (tgt := 365) (by decide) dL_numbers_358 (by decide) ?_
  refine r_iconst hJ (v := nI 0) dL_numbers_365 (by decide) ?_
  refine r_iaddN hJ dL_numbers_366 ?_
  refine r_istore hJ dL_numbers_367 (jp4 rfl rfl) ?_
  refine r_iload hJ dL_numbers_369 jg5 ?_
  refine r_aload_n hJ dL_numbers_371 rfl jg0 ?_
  refine r_iload hJ dL_numbers_372 jg6 ?_
  refine r_iconst hJ (v := nI 5) dL_numbers_374 (by decide) ?_
  refine r_V2v hJ kL_76 (rcv4 E) (l_num (by omega) hok (by decide) rfl) dL_numbers_375 ⟨by decide, by decide⟩ (Nat.le_of_ble_eq_true rfl) ?_
  refine r_iadd hJ dL_numbers_378 ?_
  refine r_istore hJ dL_numbers_379 (jp5 rfl rfl) ?_
  refine r_iinc hJ dL_numbers_381 jg6 (ii1 _) (jp6 rfl rfl) ?_
  refine r_goto hJ (tgt := 19) dL_numbers_384 (by decide) ?_
  exact r_fgt hJ (lless_s (lless_s (lless_s (lless_s (lless_s (lless_s (lless_s (lless_n (lless_n lless_0))))))))) kk
theorem c_numbers {l : Launch} {E : jE} {S : jS} {A : jO} {K : Nat → Nat} {y : Int64 × Nat} {z t C R : Nat} (ht : t ≤ 20000) (hC : C < 2 ^ 30) (hR : R < 2 ^ 30) (hX : XV (S 0) z t 64 C R) :
    Ct l E yL_numbers cL_numbers 9 (some .boolean) 10 [.ref (ad E 11 0)] (setO S 1 A, (K, y)) (some (.int (nI 1))) (setO S 1 (S 0), (K, y)) := by
  obtain ⟨ht0, ⟨hz, hz4, hz6⟩, -⟩ := id hX.2.1
  have hP := hX.1
  refine Ct.of (by decide +kernel) (Nat.le_refl _) (Nat.le_of_ble_eq_true rfl) rfl (fun J hJ hF => ?_)
  have loop : ∀ (k n : Nat) (A : jO), n + k = z → (n = 0 ∨ A = S 0) → J (setO S 1 A, (K, y)) 19 [some (.ref (ad E 11 0)), some (.int (nI 1)), some (.int (nI t)), some (.int (nI (cS (S 0) 0 n))), some (.int (nI (cS (S 0) 1 n))), some (.int (sumA (S 0 7) n)), some (.int (nI n)), none, none] [] := by
    intro k
    induction k with
    | zero =>
      intro n A hnz hA
      have hA0 : A = S 0 := hA.resolve_left (by omega)
      obtain rfl : n = z := by omega
      subst hA0
      have hnz : n = n := rfl
      have hsum : cS (S 0) 0 n + cS (S 0) 1 n + cnt (fun i => decide (stg (S 0) i = nI 2)) n = n := cS_3 (S 0) n
      refine r_iload hJ dL_numbers_19 jg6 ?_
      refine r_aload_n hJ dL_numbers_21 rfl jg0 ?_
      refine r_iconst hJ (v := nI 3) dL_numbers_22 (by decide) ?_
      refine r_V1v hJ kL_37 (rcv4 E) (l_set hz) dL_numbers_23 ⟨by decide, by decide⟩ (Nat.le_of_ble_eq_true rfl) ?_
      refine r_icmp_ge_t hJ (tgt := 387) (by rw [← hnz]; exact nI_le (Nat.le_refl _) (by omega)) dL_numbers_26 (by decide) ?_
      refine r_iload_n hJ dL_numbers_387 rfl jg1 ?_
      refine r_if_eq_f hJ (tgt := 442) (by decide) dL_numbers_388 (by decide) ?_
      refine r_iload_n hJ dL_numbers_391 rfl jg3 ?_
      refine r_aload_n hJ dL_numbers_392 rfl jg0 ?_
      refine r_iconst hJ (v := nI 1) dL_numbers_393 (by decide) ?_
      refine r_V1v hJ kL_73 (rcv4 E) (l_cnt hz hz6 (by decide) (rfl)) dL_numbers_394 ⟨by decide, by decide⟩ (Nat.le_of_ble_eq_true rfl) ?_
      refine r_icmp_ne_f hJ (tgt := 442) (rfl) dL_numbers_397 (by decide) ?_
      refine r_iload hJ dL_numbers_400 jg4 ?_
      refine r_aload_n hJ dL_numbers_402 rfl jg0 ?_
      refine r_iconst hJ (v := nI 2) dL_numbers_403 (by decide) ?_
      refine r_V1v hJ kL_73 (rcv4 E) (l_cnt hz hz6 (by decide) (rfl)) dL_numbers_404 ⟨by decide, by decide⟩ (Nat.le_of_ble_eq_true rfl) ?_
      refine r_icmp_ne_f hJ (tgt := 442) (rfl) dL_numbers_407 (by decide) ?_
      refine r_iload_n hJ dL_numbers_410 rfl jg3 ?_
      refine r_iload hJ dL_numbers_411 jg4 ?_
      refine r_iaddN hJ dL_numbers_413 ?_
      refine r_aload_n hJ dL_numbers_414 rfl jg0 ?_
      refine r_iconst hJ (v := nI 3) dL_numbers_415 (by decide) ?_
      refine r_V1v hJ kL_73 (rcv4 E) (l_cnt hz hz6 (by decide) (rfl)) dL_numbers_416 ⟨by decide, by decide⟩ (Nat.le_of_ble_eq_true rfl) ?_
      refine r_iaddN hJ dL_numbers_419 ?_
      refine r_aload_n hJ dL_numbers_420 rfl jg0 ?_
      refine r_iconst hJ (v := nI 3) dL_numbers_421 (by decide) ?_
      refine r_V1v hJ kL_37 (rcv4 E) (l_set hz) dL_numbers_422 ⟨by decide, by decide⟩ (Nat.le_of_ble_eq_true rfl) ?_
      refine r_icmp_ne_f hJ (tgt := 442) (by rw [hsum]) dL_numbers_425 (by decide) ?_
      refine r_iload hJ dL_numbers_428 jg5 ?_
      refine r_aload_n hJ dL_numbers_430 rfl jg0 ?_
      refine r_iconst hJ (v := nI 4) dL_numbers_431 (by decide) ?_
      refine r_V1v hJ kL_73 (rcv4 E) (l_cnt hz hz6 (by decide) (rfl)) dL_numbers_432 ⟨by decide, by decide⟩ (Nat.le_of_ble_eq_true rfl) ?_
      refine r_icmp_ne_f hJ (tgt := 442) ((ofA_4 hX).symm) dL_numbers_435 (by decide) ?_
      refine r_iconst hJ (v := nI 1) dL_numbers_438 (by decide) ?_
      refine r_goto hJ (tgt := 443) dL_numbers_439 (by decide) ?_
      refine r_istore_n hJ dL_numbers_443 rfl (jp1 rfl rfl) ?_
      refine r_iload_n hJ dL_numbers_444 rfl jg1 ?_
      refine r_if_eq_f hJ (tgt := 493) (by decide) dL_numbers_445 (by decide) ?_
      refine r_aload_n hJ dL_numbers_448 rfl jg0 ?_
      refine r_iconst hJ (v := nI 5) dL_numbers_449 (by decide) ?_
      refine r_V1v hJ kL_73 (rcv4 E) (l_cnt hz hz6 (by decide) (rfl)) dL_numbers_450 ⟨by decide, by decide⟩ (Nat.le_of_ble_eq_true rfl) ?_
      refine r_aload_n hJ dL_numbers_453 rfl jg0 ?_
      refine r_bipush hJ (v := nI 8) dL_numbers_454 (by decide) ?_
      refine r_V1v hJ kL_73 (rcv4 E) (l_cnt hz hz6 (by decide) (rfl)) dL_numbers_456 ⟨by decide, by decide⟩ (Nat.le_of_ble_eq_true rfl) ?_
      refine r_aload_n hJ dL_numbers_459 rfl jg0 ?_
      refine r_iconst hJ (v := nI 2) dL_numbers_460 (by decide) ?_
      refine r_V1v hJ kL_73 (rcv4 E) (l_cnt hz hz6 (by decide) (rfl)) dL_numbers_461 ⟨by decide, by decide⟩ (Nat.le_of_ble_eq_true rfl) ?_
      refine r_iadd hJ dL_numbers_464 ?_
      refine r_aload_n hJ dL_numbers_465 rfl jg0 ?_
      refine r_iconst hJ (v := nI 3) dL_numbers_466 (by decide) ?_
      refine r_V1v hJ kL_73 (rcv4 E) (l_cnt hz hz6 (by decide) (rfl)) dL_numbers_467 ⟨by decide, by decide⟩ (Nat.le_of_ble_eq_true rfl) ?_
      refine r_iadd hJ dL_numbers_470 ?_
      refine r_icmp_ne_f hJ (tgt := 493) (ofA_5 hX) dL_numbers_471 (by decide) ?_
      refine r_aload_n hJ dL_numbers_474 rfl jg0 ?_
      refine r_bipush hJ (v := nI 7) dL_numbers_475 (by decide) ?_
      refine r_V1v hJ kL_73 (rcv4 E) (l_cnt hz hz6 (by decide) (rfl)) dL_numbers_477 ⟨by decide, by decide⟩ (Nat.le_of_ble_eq_true rfl) ?_
      refine r_aload_n hJ dL_numbers_480 rfl jg0 ?_
      refine r_bipush hJ (v := nI 6) dL_numbers_481 (by decide) ?_
      refine r_V1v hJ kL_73 (rcv4 E) (l_cnt hz hz6 (by decide) (rfl)) dL_numbers_483 ⟨by decide, by decide⟩ (Nat.le_of_ble_eq_true rfl) ?_
      refine r_icmp_gt_f hJ (tgt := 493) (Int32.not_lt.mpr (ofA_7 hR hX)) dL_numbers_486 (by decide) ?_
      refine r_iconst hJ (v := nI 1) dL_numbers_489 (by decide) ?_
      refine r_goto hJ (tgt := 494) dL_numbers_490 (by decide) ?_
      exact ret_z hF dL_numbers_494 (by decide) rfl rfl
    | succ k ih =>
      intro n A hnz hA
      have hn : n < z := by omega
      have hok := okN_of hz hz6 hn
      have hN := hX.2.2.1 n (by omega)
      rw [if_pos (by omega)] at hN
      have nx := ih (n + 1) (S 0) (by omega) (Or.inr rfl)
      have e0 : cS (S 0) 0 (n + 1) = cS (S 0) 0 n + (if decide (stg (S 0) n = nI 0) = true then 1 else 0) := rfl
      have e1 : cS (S 0) 1 (n + 1) = cS (S 0) 1 n + (if decide (stg (S 0) n = nI 1) = true then 1 else 0) := rfl
      have eW : sumA (S 0 7) (n + 1) = sumA (S 0 7) n + S 0 7 n := rfl
      rw [e0, e1, eW] at nx
      by_cases hf : S 0 2 n = -1
      · rw [stg_free hf, if_pos (by decide), if_neg (by decide)] at nx
        exact num_free hJ hz hz6 hn hP hok hf (NL_w0 hN hf) nx
      · obtain ⟨h, b, e, le, g, w, hh, v1, e3, e4, e5, e6, e7, hbe, hel, hbt, htl, hlb, hg0, hgb, hw3, hw8, hs⟩ := num_held (by omega) hC ht ht0 hX.2.2.2.1 hN hf
        by_cases hte : t < e
        · rw [if_pos hte] at hs
          rw [hs, if_neg (by decide), if_pos (by decide)] at nx
          rcases Nat.eq_zero_or_pos w with q | q
          · exact num_h10 hJ hz hz6 hn hP hok hh v1 e3 e4 e5 e6 e7 hbe hel hbt htl hlb hg0 hgb hw3 hte hs q nx
          · obtain ⟨h', x1, x2, x3⟩ := hw8 q
            exact num_h11 hJ hz hz6 hn hP hok hh v1 e3 e4 e5 e6 e7 hbe hel hbt htl hlb hg0 hgb hw3 hte hs q x1 x2 x3 nx
        · rw [if_neg hte] at hs
          rw [hs, if_neg (by decide), if_neg (by decide)] at nx
          rcases Nat.eq_zero_or_pos w with q | q
          · exact num_h20 hJ hz hz6 hn hP hok hh v1 e3 e4 e5 e6 e7 hbe hel hbt htl hlb hg0 hgb hw3 (Nat.not_lt.mp hte) hs q nx
          · obtain ⟨h', x1, x2, x3⟩ := hw8 q
            exact num_h21 hJ hz hz6 hn hP hok hh v1 e3 e4 e5 e6 e7 hbe hel hbt htl hlb hg0 hgb hw3 (Nat.not_lt.mp hte) hs q x1 x2 x3 nx
  refine r_iconst hJ (v := nI 1) dL_numbers_0 (by decide) ?_
  refine r_istore_n hJ dL_numbers_1 rfl (jp1 rfl rfl) ?_
  refine r_aload_n hJ dL_numbers_2 rfl jg0 ?_
  refine r_iconst hJ (v := nI 0) dL_numbers_3 (by decide) ?_
  refine r_V1v hJ kL_73 (rcv4 E) (l_cnt hz hz6 (by decide) ht0) dL_numbers_4 ⟨by decide, by decide⟩ (Nat.le_of_ble_eq_true rfl) ?_
  refine r_istore_n hJ dL_numbers_7 rfl (jp2 rfl rfl) ?_
  refine r_iconst hJ (v := nI 0) dL_numbers_8 (by decide) ?_
  refine r_istore_n hJ dL_numbers_9 rfl (jp3 rfl rfl) ?_
  refine r_iconst hJ (v := nI 0) dL_numbers_10 (by decide) ?_
  refine r_istore hJ dL_numbers_11 (jp4 rfl rfl) ?_
  refine r_iconst hJ (v := nI 0) dL_numbers_13 (by decide) ?_
  refine r_istore hJ dL_numbers_14 (jp5 rfl rfl) ?_
  refine r_iconst hJ (v := nI 0) dL_numbers_16 (by decide) ?_
  refine r_istore hJ dL_numbers_17 (jp6 rfl rfl) ?_
  exact loop z 0 A (by omega) (Or.inl rfl)

