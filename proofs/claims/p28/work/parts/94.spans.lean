/-! THE LAW'S spans -/
theorem spn_00 {l : Launch} {E : jE} {n0 cap : Nat} {J : jT} (hJ : jR l E RL cL_spans 9 10 n0 cap J) {S : jS} {A : jO} {K : Nat → Nat} {y : Int64 × Nat} {z M k sm lo f s : Nat} {en : Int32} (hz : S 0 1 3 = nI z) (hz6 : z ≤ 64) (hM : M ≤ 64) (hk : k < M) (hl6 : lo ≤ 64) (g0 : ofSp (S 0) z (nI k) (nI 0) = nI f) (g1 : ofSp (S 0) z (nI k) (nI 1) = nI s) (hen : ¬ nI f ≤ en) (hs0 : 0 < s) (hfs : f + s ≤ z) (g2 : S 0 2 f = -1) (g3 : S 0 2 (f + s - 1) = -1) (he : f + s = z) (hlo : s ≤ lo)
    (kk : J (setO S 1 A, (K, y)) 20 [some (.ref (ad E 11 0)), some (.int (nI M)), some (.int (nI (sm + s))), some (.int (nI lo)), some (.int (nI (f + s))), some (.int (nI 1)), some (.int (nI (k + 1))), none, none] []) : J (setO S 1 A, (K, y)) 20 [some (.ref (ad E 11 0)), some (.int (nI M)), some (.int (nI sm)), some (.int (nI lo)), some (.int (en)), some (.int (nI 1)), some (.int (nI k)), none, none] [] := by
  refine r_iload hJ dL_spans_20 jg6 ?_
  refine r_iload_n hJ dL_spans_22 rfl jg1 ?_
  refine r_icmp_ge_f hJ (tgt := 156) (nI_ge hk (by omega)) dL_spans_23 (by decide) ?_
  refine r_iload hJ dL_spans_26 jg5 ?_
  refine r_if_eq_f hJ (tgt := 156) (by decide) dL_spans_28 (by decide) ?_
  refine r_aload_n hJ dL_spans_31 rfl jg0 ?_
  refine r_iload hJ dL_spans_32 jg6 ?_
  refine r_iconst hJ (v := nI 0) dL_spans_34 (by decide) ?_
  refine r_V2v hJ kL_88 (rcv4 E) (l_span hz hz6 (by omega) (by decide) g0) dL_spans_35 ⟨by decide, by decide⟩ (Nat.le_of_ble_eq_true rfl) ?_
  refine r_istore hJ dL_spans_38 (jp7 rfl rfl) ?_
  refine r_aload_n hJ dL_spans_40 rfl jg0 ?_
  refine r_iload hJ dL_spans_41 jg6 ?_
  refine r_iconst hJ (v := nI 1) dL_spans_43 (by decide) ?_
  refine r_V2v hJ kL_88 (rcv4 E) (l_span hz hz6 (by omega) (by decide) g1) dL_spans_44 ⟨by decide, by decide⟩ (Nat.le_of_ble_eq_true rfl) ?_
  refine r_istore hJ dL_spans_47 (jp8 rfl rfl) ?_
  refine r_iload hJ dL_spans_49 jg7 ?_
  refine r_iload hJ dL_spans_51 jg4 ?_
  refine r_icmp_le_f hJ (tgt := 90) (hen) dL_spans_53 (by decide) ?_
  refine r_iload hJ dL_spans_56 jg8 ?_
  refine r_if_le_f hJ (tgt := 90) (Int32.not_le.mpr ((nI_0lt (by omega)).mpr hs0)) dL_spans_58 (by decide) ?_
  refine r_aload_n hJ dL_spans_61 rfl jg0 ?_
  refine r_iload hJ dL_spans_62 jg7 ?_
  refine r_iconst hJ (v := nI 0) dL_spans_64 (by decide) ?_
  refine r_V2v hJ kL_76 (rcv4 E) (l_num (by omega) (okN_of hz hz6 (by omega)) (by decide) (show ofN (S 0) f 0 = nI 0 from stg_free g2)) dL_spans_65 ⟨by decide, by decide⟩ (Nat.le_of_ble_eq_true rfl) ?_
  refine r_if_ne_f hJ (tgt := 90) (rfl) dL_spans_68 (by decide) ?_
  refine r_aload_n hJ dL_spans_71 rfl jg0 ?_
  refine r_iload hJ dL_spans_72 jg7 ?_
  refine r_iload hJ dL_spans_74 jg8 ?_
  refine r_iaddN hJ dL_spans_76 ?_
  refine r_iconst hJ (v := nI 1) dL_spans_77 (by decide) ?_
  refine r_isub hJ dL_spans_78 ?_
  rw [pk_sub (by omega)]
  refine r_iconst hJ (v := nI 0) dL_spans_79 (by decide) ?_
  refine r_V2v hJ kL_76 (rcv4 E) (l_num (by omega) (okN_of hz hz6 (by omega)) (by decide) (show ofN (S 0) (f + s - 1) 0 = nI 0 from stg_free g3)) dL_spans_80 ⟨by decide, by decide⟩ (Nat.le_of_ble_eq_true rfl) ?_
  refine r_if_ne_f hJ (tgt := 90) (rfl) dL_spans_83 (by decide) ?_
  refine r_iconst hJ (v := nI 1) dL_spans_86 (by decide) ?_
  refine r_goto hJ (tgt := 91) dL_spans_87 (by decide) ?_
  refine r_istore hJ dL_spans_91 (jp5 rfl rfl) ?_
  refine r_iload hJ dL_spans_93 jg7 ?_
  refine r_iload hJ dL_spans_95 jg8 ?_
  refine r_iaddN hJ dL_spans_97 ?_
  refine r_istore hJ dL_spans_98 (jp4 rfl rfl) ?_
  refine r_iload hJ dL_spans_100 jg5 ?_
  refine r_if_eq_f hJ (tgt := 129) (by decide) dL_spans_102 (by decide) ?_
  refine r_iload hJ dL_spans_105 jg4 ?_
  refine r_aload_n hJ dL_spans_107 rfl jg0 ?_
  refine r_iconst hJ (v := nI 3) dL_spans_108 (by decide) ?_
  refine r_V1v hJ kL_37 (rcv4 E) (l_set hz) dL_spans_109 ⟨by decide, by decide⟩ (Nat.le_of_ble_eq_true rfl) ?_
  refine r_icmp_eq_t hJ (tgt := 125) (by rw [he]) dL_spans_112 (by decide) ?_
  refine r_iconst hJ (v := nI 1) dL_spans_125 (by decide) ?_
  refine r_goto hJ (tgt := 130) dL_spans_126 (by decide) ?_
  refine r_istore hJ dL_spans_130 (jp5 rfl rfl) ?_
  refine r_iload_n hJ dL_spans_132 rfl jg2 ?_
  refine r_iload hJ dL_spans_133 jg8 ?_
  refine r_iaddN hJ dL_spans_135 ?_
  refine r_istore_n hJ dL_spans_136 rfl (jp2 rfl rfl) ?_
  refine r_iload hJ dL_spans_137 jg8 ?_
  refine r_iload_n hJ dL_spans_139 rfl jg3 ?_
  refine r_icmp_le_t hJ (tgt := 148) (nI_le hlo (by omega)) dL_spans_140 (by decide) ?_
  refine r_iload_n hJ dL_spans_148 rfl jg3 ?_
  refine r_istore_n hJ dL_spans_149 rfl (jp3 rfl rfl) ?_
  refine r_iinc hJ dL_spans_150 jg6 (ii1 _) (jp6 rfl rfl) ?_
  refine r_goto hJ (tgt := 20) dL_spans_153 (by decide) ?_
  exact r_fgt hJ (lless_s (lless_s (lless_s (lless_s (lless_s (lless_s (lless_s (lless_n (lless_n lless_0))))))))) kk
theorem spn_01 {l : Launch} {E : jE} {n0 cap : Nat} {J : jT} (hJ : jR l E RL cL_spans 9 10 n0 cap J) {S : jS} {A : jO} {K : Nat → Nat} {y : Int64 × Nat} {z M k sm lo f s : Nat} {en : Int32} (hz : S 0 1 3 = nI z) (hz6 : z ≤ 64) (hM : M ≤ 64) (hk : k < M) (hl6 : lo ≤ 64) (g0 : ofSp (S 0) z (nI k) (nI 0) = nI f) (g1 : ofSp (S 0) z (nI k) (nI 1) = nI s) (hen : ¬ nI f ≤ en) (hs0 : 0 < s) (hfs : f + s ≤ z) (g2 : S 0 2 f = -1) (g3 : S 0 2 (f + s - 1) = -1) (he : f + s = z) (hlo : lo < s)
    (kk : J (setO S 1 A, (K, y)) 20 [some (.ref (ad E 11 0)), some (.int (nI M)), some (.int (nI (sm + s))), some (.int (nI s)), some (.int (nI (f + s))), some (.int (nI 1)), some (.int (nI (k + 1))), none, none] []) : J (setO S 1 A, (K, y)) 20 [some (.ref (ad E 11 0)), some (.int (nI M)), some (.int (nI sm)), some (.int (nI lo)), some (.int (en)), some (.int (nI 1)), some (.int (nI k)), none, none] [] := by
  refine r_iload hJ dL_spans_20 jg6 ?_
  refine r_iload_n hJ dL_spans_22 rfl jg1 ?_
  refine r_icmp_ge_f hJ (tgt := 156) (nI_ge hk (by omega)) dL_spans_23 (by decide) ?_
  refine r_iload hJ dL_spans_26 jg5 ?_
  refine r_if_eq_f hJ (tgt := 156) (by decide) dL_spans_28 (by decide) ?_
  refine r_aload_n hJ dL_spans_31 rfl jg0 ?_
  refine r_iload hJ dL_spans_32 jg6 ?_
  refine r_iconst hJ (v := nI 0) dL_spans_34 (by decide) ?_
  refine r_V2v hJ kL_88 (rcv4 E) (l_span hz hz6 (by omega) (by decide) g0) dL_spans_35 ⟨by decide, by decide⟩ (Nat.le_of_ble_eq_true rfl) ?_
  refine r_istore hJ dL_spans_38 (jp7 rfl rfl) ?_
  refine r_aload_n hJ dL_spans_40 rfl jg0 ?_
  refine r_iload hJ dL_spans_41 jg6 ?_
  refine r_iconst hJ (v := nI 1) dL_spans_43 (by decide) ?_
  refine r_V2v hJ kL_88 (rcv4 E) (l_span hz hz6 (by omega) (by decide) g1) dL_spans_44 ⟨by decide, by decide⟩ (Nat.le_of_ble_eq_true rfl) ?_
  refine r_istore hJ dL_spans_47 (jp8 rfl rfl) ?_
  refine r_iload hJ dL_spans_49 jg7 ?_
  refine r_iload hJ dL_spans_51 jg4 ?_
  refine r_icmp_le_f hJ (tgt := 90) (hen) dL_spans_53 (by decide) ?_
  refine r_iload hJ dL_spans_56 jg8 ?_
  refine r_if_le_f hJ (tgt := 90) (Int32.not_le.mpr ((nI_0lt (by omega)).mpr hs0)) dL_spans_58 (by decide) ?_
  refine r_aload_n hJ dL_spans_61 rfl jg0 ?_
  refine r_iload hJ dL_spans_62 jg7 ?_
  refine r_iconst hJ (v := nI 0) dL_spans_64 (by decide) ?_
  refine r_V2v hJ kL_76 (rcv4 E) (l_num (by omega) (okN_of hz hz6 (by omega)) (by decide) (show ofN (S 0) f 0 = nI 0 from stg_free g2)) dL_spans_65 ⟨by decide, by decide⟩ (Nat.le_of_ble_eq_true rfl) ?_
  refine r_if_ne_f hJ (tgt := 90) (rfl) dL_spans_68 (by decide) ?_
  refine r_aload_n hJ dL_spans_71 rfl jg0 ?_
  refine r_iload hJ dL_spans_72 jg7 ?_
  refine r_iload hJ dL_spans_74 jg8 ?_
  refine r_iaddN hJ dL_spans_76 ?_
  refine r_iconst hJ (v := nI 1) dL_spans_77 (by decide) ?_
  refine r_isub hJ dL_spans_78 ?_
  rw [pk_sub (by omega)]
  refine r_iconst hJ (v := nI 0) dL_spans_79 (by decide) ?_
  refine r_V2v hJ kL_76 (rcv4 E) (l_num (by omega) (okN_of hz hz6 (by omega)) (by decide) (show ofN (S 0) (f + s - 1) 0 = nI 0 from stg_free g3)) dL_spans_80 ⟨by decide, by decide⟩ (Nat.le_of_ble_eq_true rfl) ?_
  refine r_if_ne_f hJ (tgt := 90) (rfl) dL_spans_83 (by decide) ?_
  refine r_iconst hJ (v := nI 1) dL_spans_86 (by decide) ?_
  refine r_goto hJ (tgt := 91) dL_spans_87 (by decide) ?_
  refine r_istore hJ dL_spans_91 (jp5 rfl rfl) ?_
  refine r_iload hJ dL_spans_93 jg7 ?_
  refine r_iload hJ dL_spans_95 jg8 ?_
  refine r_iaddN hJ dL_spans_97 ?_
  refine r_istore hJ dL_spans_98 (jp4 rfl rfl) ?_
  refine r_iload hJ dL_spans_100 jg5 ?_
  refine r_if_eq_f hJ (tgt := 129) (by decide) dL_spans_102 (by decide) ?_
  refine r_iload hJ dL_spans_105 jg4 ?_
  refine r_aload_n hJ dL_spans_107 rfl jg0 ?_
  refine r_iconst hJ (v := nI 3) dL_spans_108 (by decide) ?_
  refine r_V1v hJ kL_37 (rcv4 E) (l_set hz) dL_spans_109 ⟨by decide, by decide⟩ (Nat.le_of_ble_eq_true rfl) ?_
  refine r_icmp_eq_t hJ (tgt := 125) (by rw [he]) dL_spans_112 (by decide) ?_
  refine r_iconst hJ (v := nI 1) dL_spans_125 (by decide) ?_
  refine r_goto hJ (tgt := 130) dL_spans_126 (by decide) ?_
  refine r_istore hJ dL_spans_130 (jp5 rfl rfl) ?_
  refine r_iload_n hJ dL_spans_132 rfl jg2 ?_
  refine r_iload hJ dL_spans_133 jg8 ?_
  refine r_iaddN hJ dL_spans_135 ?_
  refine r_istore_n hJ dL_spans_136 rfl (jp2 rfl rfl) ?_
  refine r_iload hJ dL_spans_137 jg8 ?_
  refine r_iload_n hJ dL_spans_139 rfl jg3 ?_
  refine r_icmp_le_f hJ (tgt := 148) (nI_ge hlo (by omega)) dL_spans_140 (by decide) ?_
  refine r_iload hJ dL_spans_143 jg8 ?_
  refine r_goto hJ (tgt := 149) dL_spans_145 (by decide) ?_
  refine r_istore_n hJ dL_spans_149 rfl (jp3 rfl rfl) ?_
  refine r_iinc hJ dL_spans_150 jg6 (ii1 _) (jp6 rfl rfl) ?_
  refine r_goto hJ (tgt := 20) dL_spans_153 (by decide) ?_
  exact r_fgt hJ (lless_s (lless_s (lless_s (lless_s (lless_s (lless_s (lless_s (lless_n (lless_n lless_0))))))))) kk
theorem spn_10 {l : Launch} {E : jE} {n0 cap : Nat} {J : jT} (hJ : jR l E RL cL_spans 9 10 n0 cap J) {S : jS} {A : jO} {K : Nat → Nat} {y : Int64 × Nat} {z M k sm lo f s : Nat} {en : Int32} (hz : S 0 1 3 = nI z) (hz6 : z ≤ 64) (hM : M ≤ 64) (hk : k < M) (hl6 : lo ≤ 64) (g0 : ofSp (S 0) z (nI k) (nI 0) = nI f) (g1 : ofSp (S 0) z (nI k) (nI 1) = nI s) (hen : ¬ nI f ≤ en) (hs0 : 0 < s) (hfs : f + s ≤ z) (g2 : S 0 2 f = -1) (g3 : S 0 2 (f + s - 1) = -1) (he : f + s < z) (g4 : ¬ stg (S 0) (f + s) = 0) (hlo : s ≤ lo)
    (kk : J (setO S 1 A, (K, y)) 20 [some (.ref (ad E 11 0)), some (.int (nI M)), some (.int (nI (sm + s))), some (.int (nI lo)), some (.int (nI (f + s))), some (.int (nI 1)), some (.int (nI (k + 1))), none, none] []) : J (setO S 1 A, (K, y)) 20 [some (.ref (ad E 11 0)), some (.int (nI M)), some (.int (nI sm)), some (.int (nI lo)), some (.int (en)), some (.int (nI 1)), some (.int (nI k)), none, none] [] := by
  refine r_iload hJ dL_spans_20 jg6 ?_
  refine r_iload_n hJ dL_spans_22 rfl jg1 ?_
  refine r_icmp_ge_f hJ (tgt := 156) (nI_ge hk (by omega)) dL_spans_23 (by decide) ?_
  refine r_iload hJ dL_spans_26 jg5 ?_
  refine r_if_eq_f hJ (tgt := 156) (by decide) dL_spans_28 (by decide) ?_
  refine r_aload_n hJ dL_spans_31 rfl jg0 ?_
  refine r_iload hJ dL_spans_32 jg6 ?_
  refine r_iconst hJ (v := nI 0) dL_spans_34 (by decide) ?_
  refine r_V2v hJ kL_88 (rcv4 E) (l_span hz hz6 (by omega) (by decide) g0) dL_spans_35 ⟨by decide, by decide⟩ (Nat.le_of_ble_eq_true rfl) ?_
  refine r_istore hJ dL_spans_38 (jp7 rfl rfl) ?_
  refine r_aload_n hJ dL_spans_40 rfl jg0 ?_
  refine r_iload hJ dL_spans_41 jg6 ?_
  refine r_iconst hJ (v := nI 1) dL_spans_43 (by decide) ?_
  refine r_V2v hJ kL_88 (rcv4 E) (l_span hz hz6 (by omega) (by decide) g1) dL_spans_44 ⟨by decide, by decide⟩ (Nat.le_of_ble_eq_true rfl) ?_
  refine r_istore hJ dL_spans_47 (jp8 rfl rfl) ?_
  refine r_iload hJ dL_spans_49 jg7 ?_
  refine r_iload hJ dL_spans_51 jg4 ?_
  refine r_icmp_le_f hJ (tgt := 90) (hen) dL_spans_53 (by decide) ?_
  refine r_iload hJ dL_spans_56 jg8 ?_
  refine r_if_le_f hJ (tgt := 90) (Int32.not_le.mpr ((nI_0lt (by omega)).mpr hs0)) dL_spans_58 (by decide) ?_
  refine r_aload_n hJ dL_spans_61 rfl jg0 ?_
  refine r_iload hJ dL_spans_62 jg7 ?_
  refine r_iconst hJ (v := nI 0) dL_spans_64 (by decide) ?_
  refine r_V2v hJ kL_76 (rcv4 E) (l_num (by omega) (okN_of hz hz6 (by omega)) (by decide) (show ofN (S 0) f 0 = nI 0 from stg_free g2)) dL_spans_65 ⟨by decide, by decide⟩ (Nat.le_of_ble_eq_true rfl) ?_
  refine r_if_ne_f hJ (tgt := 90) (rfl) dL_spans_68 (by decide) ?_
  refine r_aload_n hJ dL_spans_71 rfl jg0 ?_
  refine r_iload hJ dL_spans_72 jg7 ?_
  refine r_iload hJ dL_spans_74 jg8 ?_
  refine r_iaddN hJ dL_spans_76 ?_
  refine r_iconst hJ (v := nI 1) dL_spans_77 (by decide) ?_
  refine r_isub hJ dL_spans_78 ?_
  rw [pk_sub (by omega)]
  refine r_iconst hJ (v := nI 0) dL_spans_79 (by decide) ?_
  refine r_V2v hJ kL_76 (rcv4 E) (l_num (by omega) (okN_of hz hz6 (by omega)) (by decide) (show ofN (S 0) (f + s - 1) 0 = nI 0 from stg_free g3)) dL_spans_80 ⟨by decide, by decide⟩ (Nat.le_of_ble_eq_true rfl) ?_
  refine r_if_ne_f hJ (tgt := 90) (rfl) dL_spans_83 (by decide) ?_
  refine r_iconst hJ (v := nI 1) dL_spans_86 (by decide) ?_
  refine r_goto hJ (tgt := 91) dL_spans_87 (by decide) ?_
  refine r_istore hJ dL_spans_91 (jp5 rfl rfl) ?_
  refine r_iload hJ dL_spans_93 jg7 ?_
  refine r_iload hJ dL_spans_95 jg8 ?_
  refine r_iaddN hJ dL_spans_97 ?_
  refine r_istore hJ dL_spans_98 (jp4 rfl rfl) ?_
  refine r_iload hJ dL_spans_100 jg5 ?_
  refine r_if_eq_f hJ (tgt := 129) (by decide) dL_spans_102 (by decide) ?_
  refine r_iload hJ dL_spans_105 jg4 ?_
  refine r_aload_n hJ dL_spans_107 rfl jg0 ?_
  refine r_iconst hJ (v := nI 3) dL_spans_108 (by decide) ?_
  refine r_V1v hJ kL_37 (rcv4 E) (l_set hz) dL_spans_109 ⟨by decide, by decide⟩ (Nat.le_of_ble_eq_true rfl) ?_
  refine r_icmp_eq_f hJ (tgt := 125) (fun q => absurd ((nI_eq (by omega) (by omega)).mp q) (by omega)) dL_spans_112 (by decide) ?_
  refine r_aload_n hJ dL_spans_115 rfl jg0 ?_
  refine r_iload hJ dL_spans_116 jg4 ?_
  refine r_iconst hJ (v := nI 0) dL_spans_118 (by decide) ?_
  refine r_V2v hJ kL_76 (rcv4 E) (l_num (by omega) (okN_of hz hz6 he) (by decide) rfl) dL_spans_119 ⟨by decide, by decide⟩ (Nat.le_of_ble_eq_true rfl) ?_
  refine r_if_eq_f hJ (tgt := 129) (g4) dL_spans_122 (by decide) ?_
  refine r_iconst hJ (v := nI 1) dL_spans_125 (by decide) ?_
  refine r_goto hJ (tgt := 130) dL_spans_126 (by decide) ?_
  refine r_istore hJ dL_spans_130 (jp5 rfl rfl) ?_
  refine r_iload_n hJ dL_spans_132 rfl jg2 ?_
  refine r_iload hJ dL_spans_133 jg8 ?_
  refine r_iaddN hJ dL_spans_135 ?_
  refine r_istore_n hJ dL_spans_136 rfl (jp2 rfl rfl) ?_
  refine r_iload hJ dL_spans_137 jg8 ?_
  refine r_iload_n hJ dL_spans_139 rfl jg3 ?_
  refine r_icmp_le_t hJ (tgt := 148) (nI_le hlo (by omega)) dL_spans_140 (by decide) ?_
  refine r_iload_n hJ dL_spans_148 rfl jg3 ?_
  refine r_istore_n hJ dL_spans_149 rfl (jp3 rfl rfl) ?_
  refine r_iinc hJ dL_spans_150 jg6 (ii1 _) (jp6 rfl rfl) ?_
  refine r_goto hJ (tgt := 20) dL_spans_153 (by decide) ?_
  exact r_fgt hJ (lless_s (lless_s (lless_s (lless_s (lless_s (lless_s (lless_s (lless_n (lless_n lless_0))))))))) kk
theorem spn_11 {l : Launch} {E : jE} {n0 cap : Nat} {J : jT} (hJ : jR l E RL cL_spans 9 10 n0 cap J) {S : jS} {A : jO} {K : Nat → Nat} {y : Int64 × Nat} {z M k sm lo f s : Nat} {en : Int32} (hz : S 0 1 3 = nI z) (hz6 : z ≤ 64) (hM : M ≤ 64) (hk : k < M) (hl6 : lo ≤ 64) (g0 : ofSp (S 0) z (nI k) (nI 0) = nI f) (g1 : ofSp (S 0) z (nI k) (nI 1) = nI s) (hen : ¬ nI f ≤ en) (hs0 : 0 < s) (hfs : f + s ≤ z) (g2 : S 0 2 f = -1) (g3 : S 0 2 (f + s - 1) = -1) (he : f + s < z) (g4 : ¬ stg (S 0) (f + s) = 0) (hlo : lo < s)
    (kk : J (setO S 1 A, (K, y)) 20 [some (.ref (ad E 11 0)), some (.int (nI M)), some (.int (nI (sm + s))), some (.int (nI s)), some (.int (nI (f + s))), some (.int (nI 1)), some (.int (nI (k + 1))), none, none] []) : J (setO S 1 A, (K, y)) 20 [some (.ref (ad E 11 0)), some (.int (nI M)), some (.int (nI sm)), some (.int (nI lo)), some (.int (en)), some (.int (nI 1)), some (.int (nI k)), none, none] [] := by
  refine r_iload hJ dL_spans_20 jg6 ?_
  refine r_iload_n hJ dL_spans_22 rfl jg1 ?_
  refine r_icmp_ge_f hJ (tgt := 156) (nI_ge hk (by omega)) dL_spans_23 (by decide) ?_
  refine r_iload hJ dL_spans_26 jg5 ?_
  refine r_if_eq_f hJ (tgt := 156) (by decide) dL_spans_28 (by decide) ?_
  refine r_aload_n hJ dL_spans_31 rfl jg0 ?_
  refine r_iload hJ dL_spans_32 jg6 ?_
  refine r_iconst hJ (v := nI 0) dL_spans_34 (by decide) ?_
  refine r_V2v hJ kL_88 (rcv4 E) (l_span hz hz6 (by omega) (by decide) g0) dL_spans_35 ⟨by decide, by decide⟩ (Nat.le_of_ble_eq_true rfl) ?_
  refine r_istore hJ dL_spans_38 (jp7 rfl rfl) ?_
  refine r_aload_n hJ dL_spans_40 rfl jg0 ?_
  refine r_iload hJ dL_spans_41 jg6 ?_
  refine r_iconst hJ (v := nI 1) dL_spans_43 (by decide) ?_
  refine r_V2v hJ kL_88 (rcv4 E) (l_span hz hz6 (by omega) (by decide) g1) dL_spans_44 ⟨by decide, by decide⟩ (Nat.le_of_ble_eq_true rfl) ?_
  refine r_istore hJ dL_spans_47 (jp8 rfl rfl) ?_
  refine r_iload hJ dL_spans_49 jg7 ?_
  refine r_iload hJ dL_spans_51 jg4 ?_
  refine r_icmp_le_f hJ (tgt := 90) (hen) dL_spans_53 (by decide) ?_
  refine r_iload hJ dL_spans_56 jg8 ?_
  refine r_if_le_f hJ (tgt := 90) (Int32.not_le.mpr ((nI_0lt (by omega)).mpr hs0)) dL_spans_58 (by decide) ?_
  refine r_aload_n hJ dL_spans_61 rfl jg0 ?_
  refine r_iload hJ dL_spans_62 jg7 ?_
  refine r_iconst hJ (v := nI 0) dL_spans_64 (by decide) ?_
  refine r_V2v hJ kL_76 (rcv4 E) (l_num (by omega) (okN_of hz hz6 (by omega)) (by decide) (show ofN (S 0) f 0 = nI 0 from stg_free g2)) dL_spans_65 ⟨by decide, by decide⟩ (Nat.le_of_ble_eq_true rfl) ?_
  refine r_if_ne_f hJ (tgt := 90) (rfl) dL_spans_68 (by decide) ?_
  refine r_aload_n hJ dL_spans_71 rfl jg0 ?_
  refine r_iload hJ dL_spans_72 jg7 ?_
  refine r_iload hJ dL_spans_74 jg8 ?_
  refine r_iaddN hJ dL_spans_76 ?_
  refine r_iconst hJ (v := nI 1) dL_spans_77 (by decide) ?_
  refine r_isub hJ dL_spans_78 ?_
  rw [pk_sub (by omega)]
  refine r_iconst hJ (v := nI 0) dL_spans_79 (by decide) ?_
  refine r_V2v hJ kL_76 (rcv4 E) (l_num (by omega) (okN_of hz hz6 (by omega)) (by decide) (show ofN (S 0) (f + s - 1) 0 = nI 0 from stg_free g3)) dL_spans_80 ⟨by decide, by decide⟩ (Nat.le_of_ble_eq_true rfl) ?_
  refine r_if_ne_f hJ (tgt := 90) (rfl) dL_spans_83 (by decide) ?_
  refine r_iconst hJ (v := nI 1) dL_spans_86 (by decide) ?_
  refine r_goto hJ (tgt := 91) dL_spans_87 (by decide) ?_
  refine r_istore hJ dL_spans_91 (jp5 rfl rfl) ?_
  refine r_iload hJ dL_spans_93 jg7 ?_
  refine r_iload hJ dL_spans_95 jg8 ?_
  refine r_iaddN hJ dL_spans_97 ?_
  refine r_istore hJ dL_spans_98 (jp4 rfl rfl) ?_
  refine r_iload hJ dL_spans_100 jg5 ?_
  refine r_if_eq_f hJ (tgt := 129) (by decide) dL_spans_102 (by decide) ?_
  refine r_iload hJ dL_spans_105 jg4 ?_
  refine r_aload_n hJ dL_spans_107 rfl jg0 ?_
  refine r_iconst hJ (v := nI 3) dL_spans_108 (by decide) ?_
  refine r_V1v hJ kL_37 (rcv4 E) (l_set hz) dL_spans_109 ⟨by decide, by decide⟩ (Nat.le_of_ble_eq_true rfl) ?_
  refine r_icmp_eq_f hJ (tgt := 125) (fun q => absurd ((nI_eq (by omega) (by omega)).mp q) (by omega)) dL_spans_112 (by decide) ?_
  refine r_aload_n hJ dL_spans_115 rfl jg0 ?_
  refine r_iload hJ dL_spans_116 jg4 ?_
  refine r_iconst hJ (v := nI 0) dL_spans_118 (by decide) ?_
  refine r_V2v hJ kL_76 (rcv4 E) (l_num (by omega) (okN_of hz hz6 he) (by decide) rfl) dL_spans_119 ⟨by decide, by decide⟩ (Nat.le_of_ble_eq_true rfl) ?_
  refine r_if_eq_f hJ (tgt := 129) (g4) dL_spans_122 (by decide) ?_
  refine r_iconst hJ (v := nI 1) dL_spans_125 (by decide) ?_
  refine r_goto hJ (tgt := 130) dL_spans_126 (by decide) ?_
  refine r_istore hJ dL_spans_130 (jp5 rfl rfl) ?_
  refine r_iload_n hJ dL_spans_132 rfl jg2 ?_
  refine r_iload hJ dL_spans_133 jg8 ?_
  refine r_iaddN hJ dL_spans_135 ?_
  refine r_istore_n hJ dL_spans_136 rfl (jp2 rfl rfl) ?_
  refine r_iload hJ dL_spans_137 jg8 ?_
  refine r_iload_n hJ dL_spans_139 rfl jg3 ?_
  refine r_icmp_le_f hJ (tgt := 148) (nI_ge hlo (by omega)) dL_spans_140 (by decide) ?_
  refine r_iload hJ dL_spans_143 jg8 ?_
  refine r_goto hJ (tgt := 149) dL_spans_145 (by decide) ?_
  refine r_istore_n hJ dL_spans_149 rfl (jp3 rfl rfl) ?_
  refine r_iinc hJ dL_spans_150 jg6 (ii1 _) (jp6 rfl rfl) ?_
  refine r_goto hJ (tgt := 20) dL_spans_153 (by decide) ?_
  exact r_fgt hJ (lless_s (lless_s (lless_s (lless_s (lless_s (lless_s (lless_s (lless_n (lless_n lless_0))))))))) kk
theorem spn_e0 {l : Launch} {E : jE} {n0 cap : Nat} {J : jT} {G' : jG} (hJ : jR l E RL cL_spans 9 10 n0 cap J) {S : jS} {A : jO} {K : Nat → Nat} {y : Int64 × Nat} {z M sm lo : Nat} {en : Int32} (hF : jF l E cL_spans 9 (some .boolean) J (some (.int (nI 1))) G') (hP : PI (S 0)) (hz : S 0 1 3 = nI z) (hz6 : z ≤ 64) (hM : M ≤ 64) (hsm : sm ≤ 64) (e1 : nI sm = cntA S z 1) (e2 : nI lo = cntA S z 11) (e3 : ofSp (S 0) z (nI M) (nI 0) = -1) {v : Int32} {B : jO} (hs0 : sm = 0) (hfr : freeT (setO S 1 A) z (nI 1) = (v, B)) (hv : ¬ v = 0) (hG : G' = (setO S 1 B, (K, y))) : J (setO S 1 A, (K, y)) 20 [some (.ref (ad E 11 0)), some (.int (nI M)), some (.int (nI sm)), some (.int (nI lo)), some (.int (en)), some (.int (nI 1)), some (.int (nI M)), none, none] [] := by
  refine r_iload hJ dL_spans_20 jg6 ?_
  refine r_iload_n hJ dL_spans_22 rfl jg1 ?_
  refine r_icmp_ge_t hJ (tgt := 156) (nI_le (Nat.le_refl _) (by omega)) dL_spans_23 (by decide) ?_
  refine r_iload hJ dL_spans_156 jg5 ?_
  refine r_if_eq_f hJ (tgt := 194) (by decide) dL_spans_158 (by decide) ?_
  refine r_iload_n hJ dL_spans_161 rfl jg2 ?_
  refine r_aload_n hJ dL_spans_162 rfl jg0 ?_
  refine r_iconst hJ (v := nI 1) dL_spans_163 (by decide) ?_
  refine r_V1v hJ kL_73 (rcv4 E) (l_cnt hz hz6 (by decide) rfl) dL_spans_164 ⟨by decide, by decide⟩ (Nat.le_of_ble_eq_true rfl) ?_
  refine r_icmp_ne_f hJ (tgt := 194) (e1) dL_spans_167 (by decide) ?_
  refine r_iload_n hJ dL_spans_170 rfl jg3 ?_
  refine r_aload_n hJ dL_spans_171 rfl jg0 ?_
  refine r_bipush hJ (v := nI 11) dL_spans_172 (by decide) ?_
  refine r_V1v hJ kL_73 (rcv4 E) (l_cnt hz hz6 (by decide) rfl) dL_spans_174 ⟨by decide, by decide⟩ (Nat.le_of_ble_eq_true rfl) ?_
  refine r_icmp_ne_f hJ (tgt := 194) (e2) dL_spans_177 (by decide) ?_
  refine r_aload_n hJ dL_spans_180 rfl jg0 ?_
  refine r_iload_n hJ dL_spans_181 rfl jg1 ?_
  refine r_iconst hJ (v := nI 0) dL_spans_182 (by decide) ?_
  refine r_V2v hJ kL_88 (rcv4 E) (l_span hz hz6 (by omega) (by decide) e3) dL_spans_183 ⟨by decide, by decide⟩ (Nat.le_of_ble_eq_true rfl) ?_
  refine r_iconst hJ (v := (-1)) dL_spans_186 (by decide) ?_
  refine r_icmp_ne_f hJ (tgt := 194) (rfl) dL_spans_187 (by decide) ?_
  refine r_iconst hJ (v := nI 1) dL_spans_190 (by decide) ?_
  refine r_goto hJ (tgt := 195) dL_spans_191 (by decide) ?_
  refine r_istore hJ dL_spans_195 (jp5 rfl rfl) ?_
  refine r_aload_n hJ dL_spans_197 rfl jg0 ?_
  refine r_iconst hJ (v := nI 1) dL_spans_198 (by decide) ?_
  refine r_V1v hJ kL_90 (rcv4 E) (l_fre hP hz hz6 (by decide) (by decide) hfr) dL_spans_199 ⟨by decide, by decide⟩ (Nat.le_of_ble_eq_true rfl) ?_
  refine r_istore hJ dL_spans_202 (jp6 rfl rfl) ?_
  refine r_iload hJ dL_spans_204 jg5 ?_
  refine r_if_eq_f hJ (tgt := 247) (by decide) dL_spans_206 (by decide) ?_
  refine r_iload hJ dL_spans_209 jg6 ?_
  refine r_if_ne_t hJ (tgt := 218) (hv) dL_spans_211 (by decide) ?_
  refine r_iconst hJ (v := nI 0) dL_spans_218 (by decide) ?_
  refine r_iload_n hJ dL_spans_219 rfl jg2 ?_
  refine r_if_le_t hJ (tgt := 227) (by rw [hs0]; decide) dL_spans_220 (by decide) ?_
  refine r_iconst hJ (v := nI 0) dL_spans_227 (by decide) ?_
  refine r_icmp_ne_f hJ (tgt := 247) (rfl) dL_spans_228 (by decide) ?_
  refine r_iload_n hJ dL_spans_231 rfl jg2 ?_
  refine r_if_eq_t hJ (tgt := 243) (by rw [hs0]; rfl) dL_spans_232 (by decide) ?_
  refine r_iconst hJ (v := nI 1) dL_spans_243 (by decide) ?_
  refine r_goto hJ (tgt := 248) dL_spans_244 (by decide) ?_
  subst hG
  exact hF.2.1 _ _ _ rfl (by decide) rfl dL_spans_248
theorem spn_e1 {l : Launch} {E : jE} {n0 cap : Nat} {J : jT} {G' : jG} (hJ : jR l E RL cL_spans 9 10 n0 cap J) {S : jS} {A : jO} {K : Nat → Nat} {y : Int64 × Nat} {z M sm lo : Nat} {en : Int32} (hF : jF l E cL_spans 9 (some .boolean) J (some (.int (nI 1))) G') (hP : PI (S 0)) (hz : S 0 1 3 = nI z) (hz6 : z ≤ 64) (hM : M ≤ 64) (hsm : sm ≤ 64) (e1 : nI sm = cntA S z 1) (e2 : nI lo = cntA S z 11) (e3 : ofSp (S 0) z (nI M) (nI 0) = -1) (hs0 : 0 < sm) (hf1 : freeT (setO S 1 A) z (nI 1) = (nI 0, A)) (hf2 : freeT (setO S 1 A) z (nI sm) = (nI 0, A)) (hG : G' = (setO S 1 A, (K, y))) : J (setO S 1 A, (K, y)) 20 [some (.ref (ad E 11 0)), some (.int (nI M)), some (.int (nI sm)), some (.int (nI lo)), some (.int (en)), some (.int (nI 1)), some (.int (nI M)), none, none] [] := by
  refine r_iload hJ dL_spans_20 jg6 ?_
  refine r_iload_n hJ dL_spans_22 rfl jg1 ?_
  refine r_icmp_ge_t hJ (tgt := 156) (nI_le (Nat.le_refl _) (by omega)) dL_spans_23 (by decide) ?_
  refine r_iload hJ dL_spans_156 jg5 ?_
  refine r_if_eq_f hJ (tgt := 194) (by decide) dL_spans_158 (by decide) ?_
  refine r_iload_n hJ dL_spans_161 rfl jg2 ?_
  refine r_aload_n hJ dL_spans_162 rfl jg0 ?_
  refine r_iconst hJ (v := nI 1) dL_spans_163 (by decide) ?_
  refine r_V1v hJ kL_73 (rcv4 E) (l_cnt hz hz6 (by decide) rfl) dL_spans_164 ⟨by decide, by decide⟩ (Nat.le_of_ble_eq_true rfl) ?_
  refine r_icmp_ne_f hJ (tgt := 194) (e1) dL_spans_167 (by decide) ?_
  refine r_iload_n hJ dL_spans_170 rfl jg3 ?_
  refine r_aload_n hJ dL_spans_171 rfl jg0 ?_
  refine r_bipush hJ (v := nI 11) dL_spans_172 (by decide) ?_
  refine r_V1v hJ kL_73 (rcv4 E) (l_cnt hz hz6 (by decide) rfl) dL_spans_174 ⟨by decide, by decide⟩ (Nat.le_of_ble_eq_true rfl) ?_
  refine r_icmp_ne_f hJ (tgt := 194) (e2) dL_spans_177 (by decide) ?_
  refine r_aload_n hJ dL_spans_180 rfl jg0 ?_
  refine r_iload_n hJ dL_spans_181 rfl jg1 ?_
  refine r_iconst hJ (v := nI 0) dL_spans_182 (by decide) ?_
  refine r_V2v hJ kL_88 (rcv4 E) (l_span hz hz6 (by omega) (by decide) e3) dL_spans_183 ⟨by decide, by decide⟩ (Nat.le_of_ble_eq_true rfl) ?_
  refine r_iconst hJ (v := (-1)) dL_spans_186 (by decide) ?_
  refine r_icmp_ne_f hJ (tgt := 194) (rfl) dL_spans_187 (by decide) ?_
  refine r_iconst hJ (v := nI 1) dL_spans_190 (by decide) ?_
  refine r_goto hJ (tgt := 195) dL_spans_191 (by decide) ?_
  refine r_istore hJ dL_spans_195 (jp5 rfl rfl) ?_
  refine r_aload_n hJ dL_spans_197 rfl jg0 ?_
  refine r_iconst hJ (v := nI 1) dL_spans_198 (by decide) ?_
  refine r_V1v hJ kL_90 (rcv4 E) (l_fre hP hz hz6 (by decide) (by decide) hf1) dL_spans_199 ⟨by decide, by decide⟩ (Nat.le_of_ble_eq_true rfl) ?_
  refine r_istore hJ dL_spans_202 (jp6 rfl rfl) ?_
  refine r_iload hJ dL_spans_204 jg5 ?_
  refine r_if_eq_f hJ (tgt := 247) (by decide) dL_spans_206 (by decide) ?_
  refine r_iload hJ dL_spans_209 jg6 ?_
  refine r_if_ne_f hJ (tgt := 218) (rfl) dL_spans_211 (by decide) ?_
  refine r_iconst hJ (v := nI 1) dL_spans_214 (by decide) ?_
  refine r_goto hJ (tgt := 219) dL_spans_215 (by decide) ?_
  refine r_iload_n hJ dL_spans_219 rfl jg2 ?_
  refine r_if_le_f hJ (tgt := 227) (Int32.not_le.mpr ((nI_0lt (by omega)).mpr hs0)) dL_spans_220 (by decide) ?_
  refine r_iconst hJ (v := nI 1) dL_spans_223 (by decide) ?_
  refine r_goto hJ (tgt := 228) dL_spans_224 (by decide) ?_
  refine r_icmp_ne_f hJ (tgt := 247) (rfl) dL_spans_228 (by decide) ?_
  refine r_iload_n hJ dL_spans_231 rfl jg2 ?_
  refine r_if_eq_f hJ (tgt := 243) (nI_ne0 hs0 (by omega)) dL_spans_232 (by decide) ?_
  refine r_aload_n hJ dL_spans_235 rfl jg0 ?_
  refine r_iload_n hJ dL_spans_236 rfl jg2 ?_
  refine r_V1v hJ kL_90 (rcv4 E) (l_fre hP hz hz6 hs0 hsm hf2) dL_spans_237 ⟨by decide, by decide⟩ (Nat.le_of_ble_eq_true rfl) ?_
  refine r_if_ne_f hJ (tgt := 247) (rfl) dL_spans_240 (by decide) ?_
  refine r_iconst hJ (v := nI 1) dL_spans_243 (by decide) ?_
  refine r_goto hJ (tgt := 248) dL_spans_244 (by decide) ?_
  subst hG
  exact hF.2.1 _ _ _ rfl (by decide) rfl dL_spans_248
theorem spn_loop {l : Launch} {E : jE} {n0 cap : Nat} {J : jT} (hJ : jR l E RL cL_spans 9 10 n0 cap J) {S : jS} {A : jO} {K : Nat → Nat} {y : Int64 × Nat} {z M : Nat} (hz : S 0 1 3 = nI z) (hz6 : z ≤ 64) (hM : M = cnt (stS (S 0)) z)
    (fin : ∀ (en : Int32) (e lo : Nat), SP (S 0) z M e lo → J (setO S 1 A, (K, y)) 20 [some (.ref (ad E 11 0)), some (.int (nI M)), some (.int (nI (cnt (frP (S 0)) e))), some (.int (nI lo)), some (.int (en)), some (.int (nI 1)), some (.int (nI M)), none, none] []) :
    ∀ (j k e lo : Nat) (en : Int32), k + j = M → SP (S 0) z k e lo → lo ≤ 64 → ((k = 0 ∧ e = 0 ∧ en = -1) ∨ (0 < k ∧ en = nI e)) → J (setO S 1 A, (K, y)) 20 [some (.ref (ad E 11 0)), some (.int (nI M)), some (.int (nI (cnt (frP (S 0)) e))), some (.int (nI lo)), some (.int (en)), some (.int (nI 1)), some (.int (nI k)), none, none] [] := by
  have hcl := cnt_le (stS (S 0)) z
  intro j
  induction j with
  | zero =>
    intro k e lo en hk hSP _ _
    obtain rfl : k = M := by omega
    exact fin en e lo hSP
  | succ j ih =>
    intro k e lo en hk hSP hl6 hen
    obtain ⟨f, s, g0, g1, g5, hs0, hfs, g2, g3, g4, g6, g7⟩ := SP_s hz6 hSP (by omega)
    have hse := hSP.1
    have hen2 : ¬ nI f ≤ en := by
      rcases hen with ⟨a, b, c⟩ | ⟨a, c⟩
      · rw [c, Int32.not_le, Int32.lt_iff_toInt_lt, nI_toInt (by omega)]
        have : (-1 : Int32).toInt = -1 := by decide
        omega
      · rw [c]
        exact nI_ge (by omega) (by omega)
    have nx := ih (k + 1) (f + s) (max lo s) (nI (f + s)) (by omega) g7 (by omega) (Or.inr ⟨by omega, rfl⟩)
    rw [g6] at nx
    rcases (by omega : s ≤ lo ∨ lo < s) with hlo | hlo
    · rw [show max lo s = lo by omega] at nx
      rcases g4 with he | ⟨he, hf⟩
      · exact spn_00 hJ hz hz6 (by omega) (by omega) hl6 g0 g1 hen2 hs0 hfs g2 g3 he hlo nx
      · exact spn_10 hJ hz hz6 (by omega) (by omega) hl6 g0 g1 hen2 hs0 hfs g2 g3 he (by
          unfold stg
          rw [if_neg hf]
          split <;> decide) hlo nx
    · rw [show max lo s = s by omega] at nx
      rcases g4 with he | ⟨he, hf⟩
      · exact spn_01 hJ hz hz6 (by omega) (by omega) hl6 g0 g1 hen2 hs0 hfs g2 g3 he hlo nx
      · exact spn_11 hJ hz hz6 (by omega) (by omega) hl6 g0 g1 hen2 hs0 hfs g2 g3 he (by
          unfold stg
          rw [if_neg hf]
          split <;> decide) hlo nx

theorem c_spans {l : Launch} {E : jE} {S : jS} {A : jO} {K : Nat → Nat} {y : Int64 × Nat} {z t C R : Nat} (ht : t ≤ 10000) (hC : C + 32000 < 2 ^ 30) (hX : XV (S 0) z t 64 C R) :
    ∃ B, Ct l E yL_spans cL_spans 9 (some .boolean) 10 [.ref (ad E 11 0)] (setO S 1 A, (K, y)) (some (.int (nI 1))) (setO S 1 B, (K, y)) := by
  obtain ⟨ht0, ⟨hz, hz4, hz6⟩, -⟩ := id hX.2.1
  have hP := hX.1
  have hcl := cnt_le (frP (S 0)) z
  have hcs := cnt_le (stS (S 0)) z
  have hfe : freesP (S 0) z = cnt (frP (S 0)) z := cS_0 (S 0) z
  have hFT : ∀ m, freeT (setO S 1 A) z m = if nI (cnt (frP (S 0)) z) < m then freeL z m (nI (t + 500)) (nI t) 500 (S 0) else (nI 0, A) := by
    intro m
    unfold freeT
    rw [s10, hfe, ht0, nI_add, setO_at]
  rcases Nat.eq_zero_or_pos (cnt (frP (S 0)) z) with h0 | h0
  · have hne := freeL_ne (z := z) (R := R) (U := t + 500) (t0 := t) (m := nI 1) (by omega) 500 t C (S 0) (by omega) (Nat.le_refl _) (by omega) hX
    refine ⟨(freeL z (nI 1) (nI (t + 500)) (nI t) 500 (S 0)).2, Ct.of (by decide +kernel) (Nat.le_refl _) (Nat.le_of_ble_eq_true rfl) rfl (fun J hJ hF => ?_)⟩
    have hfr : freeT (setO S 1 A) z (nI 1) = ((freeL z (nI 1) (nI (t + 500)) (nI t) 500 (S 0)).1, (freeL z (nI 1) (nI (t + 500)) (nI t) 500 (S 0)).2) := by
      rw [hFT, h0, if_pos (nI_lt (by decide) (by decide))]
    have fin : ∀ (en : Int32) (e lo : Nat), SP (S 0) z (cnt (stS (S 0)) z) e lo → J (setO S 1 A, (K, y)) 20 [some (.ref (ad E 11 0)), some (.int (nI (cnt (stS (S 0)) z))), some (.int (nI (cnt (frP (S 0)) e))), some (.int (nI lo)), some (.int (en)), some (.int (nI 1)), some (.int (nI (cnt (stS (S 0)) z))), none, none] [] := by
      intro en e lo hSP
      obtain ⟨x1, x2, x3⟩ := SP_end hz6 hSP
      have e1 : nI (cnt (frP (S 0)) e) = cntA S z 1 := by
        rw [x1]
        exact congrArg nI (cS_0 (S 0) z).symm
      have e2 : nI lo = cntA S z 11 := congrArg nI x2
      exact spn_e0 hJ hF hP hz hz6 (by omega) (by omega) e1 e2 x3 (by omega) hfr hne rfl
    refine r_aload_n hJ dL_spans_0 rfl jg0 ?_
    refine r_bipush hJ (v := nI 10) dL_spans_1 (by decide) ?_
    refine r_V1v hJ kL_73 (rcv4 E) (l_cnt hz hz6 (by decide) (rfl : cntA S z 10 = nI (cnt (stS (S 0)) z))) dL_spans_3 ⟨by decide, by decide⟩ (Nat.le_of_ble_eq_true rfl) ?_
    refine r_istore_n hJ dL_spans_6 rfl (jp1 rfl rfl) ?_
    refine r_iconst hJ (v := nI 0) dL_spans_7 (by decide) ?_
    refine r_istore_n hJ dL_spans_8 rfl (jp2 rfl rfl) ?_
    refine r_iconst hJ (v := nI 0) dL_spans_9 (by decide) ?_
    refine r_istore_n hJ dL_spans_10 rfl (jp3 rfl rfl) ?_
    refine r_iconst hJ (v := (-1)) dL_spans_11 (by decide) ?_
    refine r_istore hJ dL_spans_12 (jp4 rfl rfl) ?_
    refine r_iconst hJ (v := nI 1) dL_spans_14 (by decide) ?_
    refine r_istore hJ dL_spans_15 (jp5 rfl rfl) ?_
    refine r_iconst hJ (v := nI 0) dL_spans_17 (by decide) ?_
    refine r_istore hJ dL_spans_18 (jp6 rfl rfl) ?_
    exact spn_loop hJ hz hz6 rfl fin (cnt (stS (S 0)) z) 0 0 0 (-1) (by omega) (SP_0 _ _) (by omega) (Or.inl ⟨rfl, rfl, rfl⟩)
  · refine ⟨A, Ct.of (by decide +kernel) (Nat.le_refl _) (Nat.le_of_ble_eq_true rfl) rfl (fun J hJ hF => ?_)⟩
    have fin : ∀ (en : Int32) (e lo : Nat), SP (S 0) z (cnt (stS (S 0)) z) e lo → J (setO S 1 A, (K, y)) 20 [some (.ref (ad E 11 0)), some (.int (nI (cnt (stS (S 0)) z))), some (.int (nI (cnt (frP (S 0)) e))), some (.int (nI lo)), some (.int (en)), some (.int (nI 1)), some (.int (nI (cnt (stS (S 0)) z))), none, none] [] := by
      intro en e lo hSP
      obtain ⟨x1, x2, x3⟩ := SP_end hz6 hSP
      have e1 : nI (cnt (frP (S 0)) e) = cntA S z 1 := by
        rw [x1]
        exact congrArg nI (cS_0 (S 0) z).symm
      have e2 : nI lo = cntA S z 11 := congrArg nI x2
      exact spn_e1 hJ hF hP hz hz6 (by omega) (by omega) e1 e2 x3 (by omega) (by rw [hFT, if_neg (nI_nlt (by omega) (by omega))]) (by rw [hFT, x1, if_neg (nI_nlt (Nat.le_refl _) (by omega))]) rfl
    refine r_aload_n hJ dL_spans_0 rfl jg0 ?_
    refine r_bipush hJ (v := nI 10) dL_spans_1 (by decide) ?_
    refine r_V1v hJ kL_73 (rcv4 E) (l_cnt hz hz6 (by decide) (rfl : cntA S z 10 = nI (cnt (stS (S 0)) z))) dL_spans_3 ⟨by decide, by decide⟩ (Nat.le_of_ble_eq_true rfl) ?_
    refine r_istore_n hJ dL_spans_6 rfl (jp1 rfl rfl) ?_
    refine r_iconst hJ (v := nI 0) dL_spans_7 (by decide) ?_
    refine r_istore_n hJ dL_spans_8 rfl (jp2 rfl rfl) ?_
    refine r_iconst hJ (v := nI 0) dL_spans_9 (by decide) ?_
    refine r_istore_n hJ dL_spans_10 rfl (jp3 rfl rfl) ?_
    refine r_iconst hJ (v := (-1)) dL_spans_11 (by decide) ?_
    refine r_istore hJ dL_spans_12 (jp4 rfl rfl) ?_
    refine r_iconst hJ (v := nI 1) dL_spans_14 (by decide) ?_
    refine r_istore hJ dL_spans_15 (jp5 rfl rfl) ?_
    refine r_iconst hJ (v := nI 0) dL_spans_17 (by decide) ?_
    refine r_istore hJ dL_spans_18 (jp6 rfl rfl) ?_
    exact spn_loop hJ hz hz6 rfl fin (cnt (stS (S 0)) z) 0 0 0 (-1) (by omega) (SP_0 _ _) (by omega) (Or.inl ⟨rfl, rfl, rfl⟩)

