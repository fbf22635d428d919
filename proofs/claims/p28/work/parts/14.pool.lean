def sumA (f : Nat → Int32) : Nat → Int32
  | 0 => 0
  | n + 1 => sumA f n + f n
set_option maxRecDepth 100000 in
set_option maxHeartbeats 1000000 in
theorem c4_sum (l : Launch) (E : jE) (S : jS) (x : jX) {o j n : Nat} (ho : o < 13) (hp : 0 < n) (hn : aln o j = n) : Ct l E yX4_sum cX4_sum 6 (some .int) 1 [.ref (ad E o j)] (S, x) (some (.int (sumA (S o j) n))) (S, x) := by
  refine Ct.of (by decide +kernel) (Nat.le_refl _) (Nat.le_of_ble_eq_true rfl) rfl (fun J hJ hF => ?_)
  have ha := aln_le o j
  have loop : ∀ (k i : Nat) (v5 : Option Value), i + k = n → J (S, x) 10 [some (.ref (ad E o j)), some (.int (sumA (S o j) i)), some (.ref (ad E o j)), some (.int (nI n)), some (.int (nI i)), v5] [] := by
    intro k
    induction k with
    | zero =>
      intro i v5 hi
      obtain rfl : i = n := by omega
      refine r_iload hJ dX4_sum_10 jg4 ?_
      refine r_iload_n hJ dX4_sum_12 rfl jg3 ?_
      refine r_icmp_ge hJ (tgt := 33) dX4_sum_13 (by decide) (fun c13 => ?_) (fun c13 => ?_)
      · refine r_iload_n hJ dX4_sum_33 rfl jg1 ?_
        exact ret_i hF dX4_sum_34 rfl rfl
      · exact absurd (nI_le (by omega) (by omega)) c13
    | succ k ih =>
      intro i v5 hi
      refine r_iload hJ dX4_sum_10 jg4 ?_
      refine r_iload_n hJ dX4_sum_12 rfl jg3 ?_
      refine r_icmp_ge hJ (tgt := 33) dX4_sum_13 (by decide) (fun c13 => ?_) (fun c13 => ?_)
      · exact absurd c13 (nI_ge (by omega) (by omega))
      · refine r_aload_n hJ dX4_sum_16 rfl jg2 ?_
        refine r_iload hJ dX4_sum_17 jg4 ?_
        refine r_iald hJ (by omega) (by rw [hn]; omega) rfl dX4_sum_19 ?_
        refine r_istore hJ dX4_sum_20 (jp5 rfl rfl) ?_
        refine r_iload_n hJ dX4_sum_22 rfl jg1 ?_
        refine r_iload hJ dX4_sum_23 jg5 ?_
        refine r_iadd hJ dX4_sum_25 ?_
        refine r_istore_n hJ dX4_sum_26 rfl (jp1 rfl rfl) ?_
        refine r_iinc hJ dX4_sum_27 jg4 (ii1 _) (jp4 rfl rfl) ?_
        refine r_goto hJ (tgt := 10) dX4_sum_30 (by decide) ?_
        exact ih (i + 1) _ (by omega)
  refine r_iconst hJ (v := nI 0) dX4_sum_0 (by decide) ?_
  refine r_istore_n hJ dX4_sum_1 rfl (jp1 rfl rfl) ?_
  refine r_aload_n hJ dX4_sum_2 rfl jg0 ?_
  refine r_astore_n hJ dX4_sum_3 rfl (jp2 rfl rfl) ?_
  refine r_aload_n hJ dX4_sum_4 rfl jg2 ?_
  refine r_alen hJ (by omega) (by omega) (by rw [hn]) dX4_sum_5 ?_
  refine r_istore_n hJ dX4_sum_6 rfl (jp3 rfl rfl) ?_
  refine r_iconst hJ (v := nI 0) dX4_sum_7 (by decide) ?_
  refine r_istore hJ dX4_sum_8 (jp4 rfl rfl) ?_
  exact loop n 0 _ (by omega)

def ofN (P : jO) (n : Nat) : Nat → Int32
  | 0 => stg P n
  | 1 => P 2 n
  | 2 => if P 2 n = -1 then -1 else P 3 n
  | 3 => if P 2 n = -1 then -1 else P 4 n
  | 4 => if P 2 n = -1 then -1 else P 5 n
  | 5 => P 7 n
  | 6 => if 0 < P 7 n then P 8 (n * 3) else -1
  | 7 => if 0 < P 7 n then P 9 (n * 3) else -1
  | _ => P 6 n
theorem le8 {q : Nat} (h : q ≤ 8) : q = 0 ∨ q = 1 ∨ q = 2 ∨ q = 3 ∨ q = 4 ∨ q = 5 ∨ q = 6 ∨ q = 7 ∨ q = 8 := by omega
theorem le7 {q : Nat} (h : q ≤ 7) : q = 0 ∨ q = 1 ∨ q = 2 ∨ q = 3 ∨ q = 4 ∨ q = 5 ∨ q = 6 ∨ q = 7 := by omega
theorem le11 {q : Nat} (h : q ≤ 11) : q = 0 ∨ q = 1 ∨ q = 2 ∨ q = 3 ∨ q = 4 ∨ q = 5 ∨ q = 6 ∨ q = 7 ∨ q = 8 ∨ q = 9 ∨ q = 10 ∨ q = 11 := by omega
set_option maxRecDepth 100000 in
set_option maxHeartbeats 1000000 in
theorem c2_ofNumber (l : Launch) (E : jE) (S : jS) (x : jX) (P : jO) {o : Nat} (ho : o < 8) {n : Nat} (hn : n < 64) {q : Nat} (hq : q ≤ 8) : Ct l E yX2_ofNumber cX2_ofNumber 5 (some .int) 2 [.ref (ad E o 0), .int (nI n), .int (nI q)] (setO S o P, x) (some (.int (ofN P n q))) (setO S o P, x) := by
  refine Ct.of (by decide +kernel) (Nat.le_refl _) (Nat.le_of_ble_eq_true rfl) rfl (fun J hJ hF => ?_)
  have sw : ∀ v3 v4 : Int32, v3 = bI (decide (P 2 n = -1)) → v4 = bI (decide (0 < P 7 n)) → J (setO S o P, x) 32 [some (.ref (ad E o 0)), some (.int (nI n)), some (.int (nI q)), some (.int v3), some (.int v4)] [] := by
    intro v3 v4 h3 h4
    rcases le8 hq with rfl | rfl | rfl | rfl | rfl | rfl | rfl | rfl | rfl
    · refine r_iload_n hJ dX2_ofNumber_32 rfl jg2 ?_
      refine r_tableIn hJ (off := 47) (tgt := 80) dX2_ofNumber_33 (by decide) (by decide) (by decide) (by decide) ?_
      refine r_aload_n hJ dX2_ofNumber_80 rfl jg0 ?_
      refine r_iload_n hJ dX2_ofNumber_81 rfl jg1 ?_
      refine r_V1v hJ kX2_95 (rcv2 E ho) (c2_stateOf l E S x P ho hn) dX2_ofNumber_82 ⟨by decide, by decide⟩ (Nat.le_of_ble_eq_true rfl) ?_
      exact ret_i hF dX2_ofNumber_85 (by simp [ofN, ]) rfl
    · refine r_iload_n hJ dX2_ofNumber_32 rfl jg2 ?_
      refine r_tableIn hJ (off := 53) (tgt := 86) dX2_ofNumber_33 (by decide) (by decide) (by decide) (by decide) ?_
      refine r_aload_n hJ dX2_ofNumber_86 rfl jg0 ?_
      refine r_g2_5 hJ ho m58 dX2_ofNumber_87 ?_
      refine r_iload_n hJ dX2_ofNumber_90 rfl jg1 ?_
      refine r_ialdO hJ (by omega) (alP2 ho (by omega)) rfl dX2_ofNumber_91 ?_
      exact ret_i hF dX2_ofNumber_92 (by simp [ofN, ]) rfl
    · refine r_iload_n hJ dX2_ofNumber_32 rfl jg2 ?_
      refine r_tableIn hJ (off := 60) (tgt := 93) dX2_ofNumber_33 (by decide) (by decide) (by decide) (by decide) ?_
      refine r_iload_n hJ dX2_ofNumber_93 rfl jg3 ?_
      refine r_if_eq hJ (tgt := 101) dX2_ofNumber_94 (by decide) (fun c94 => ?_) (fun c94 => ?_)
      · simp only [h3, bI_0, decide_eq_false_iff_not, Decidable.not_not] at c94
        refine r_aload_n hJ dX2_ofNumber_101 rfl jg0 ?_
        refine r_g2_6 hJ ho m60 dX2_ofNumber_102 ?_
        refine r_iload_n hJ dX2_ofNumber_105 rfl jg1 ?_
        refine r_ialdO hJ (by omega) (alP3 ho (by omega)) rfl dX2_ofNumber_106 ?_
        exact ret_i hF dX2_ofNumber_107 (by simp [ofN, c94]) rfl
      · simp only [h3, bI_0, decide_eq_false_iff_not, Decidable.not_not] at c94
        refine r_iconst hJ (v := (-1)) dX2_ofNumber_97 (by decide) ?_
        refine r_goto hJ (tgt := 107) dX2_ofNumber_98 (by decide) ?_
        exact ret_i hF dX2_ofNumber_107 (by simp [ofN, c94]) rfl
    · refine r_iload_n hJ dX2_ofNumber_32 rfl jg2 ?_
      refine r_tableIn hJ (off := 75) (tgt := 108) dX2_ofNumber_33 (by decide) (by decide) (by decide) (by decide) ?_
      refine r_iload_n hJ dX2_ofNumber_108 rfl jg3 ?_
      refine r_if_eq hJ (tgt := 116) dX2_ofNumber_109 (by decide) (fun c109 => ?_) (fun c109 => ?_)
      · simp only [h3, bI_0, decide_eq_false_iff_not, Decidable.not_not] at c109
        refine r_aload_n hJ dX2_ofNumber_116 rfl jg0 ?_
        refine r_g2_7 hJ ho m61 dX2_ofNumber_117 ?_
        refine r_iload_n hJ dX2_ofNumber_120 rfl jg1 ?_
        refine r_ialdO hJ (by omega) (alP4 ho (by omega)) rfl dX2_ofNumber_121 ?_
        exact ret_i hF dX2_ofNumber_122 (by simp [ofN, c109]) rfl
      · simp only [h3, bI_0, decide_eq_false_iff_not, Decidable.not_not] at c109
        refine r_iconst hJ (v := (-1)) dX2_ofNumber_112 (by decide) ?_
        refine r_goto hJ (tgt := 122) dX2_ofNumber_113 (by decide) ?_
        exact ret_i hF dX2_ofNumber_122 (by simp [ofN, c109]) rfl
    · refine r_iload_n hJ dX2_ofNumber_32 rfl jg2 ?_
      refine r_tableIn hJ (off := 90) (tgt := 123) dX2_ofNumber_33 (by decide) (by decide) (by decide) (by decide) ?_
      refine r_iload_n hJ dX2_ofNumber_123 rfl jg3 ?_
      refine r_if_eq hJ (tgt := 131) dX2_ofNumber_124 (by decide) (fun c124 => ?_) (fun c124 => ?_)
      · simp only [h3, bI_0, decide_eq_false_iff_not, Decidable.not_not] at c124
        refine r_aload_n hJ dX2_ofNumber_131 rfl jg0 ?_
        refine r_g2_8 hJ ho m62 dX2_ofNumber_132 ?_
        refine r_iload_n hJ dX2_ofNumber_135 rfl jg1 ?_
        refine r_ialdO hJ (by omega) (alP5 ho (by omega)) rfl dX2_ofNumber_136 ?_
        exact ret_i hF dX2_ofNumber_137 (by simp [ofN, c124]) rfl
      · simp only [h3, bI_0, decide_eq_false_iff_not, Decidable.not_not] at c124
        refine r_iconst hJ (v := (-1)) dX2_ofNumber_127 (by decide) ?_
        refine r_goto hJ (tgt := 137) dX2_ofNumber_128 (by decide) ?_
        exact ret_i hF dX2_ofNumber_137 (by simp [ofN, c124]) rfl
    · refine r_iload_n hJ dX2_ofNumber_32 rfl jg2 ?_
      refine r_tableIn hJ (off := 105) (tgt := 138) dX2_ofNumber_33 (by decide) (by decide) (by decide) (by decide) ?_
      refine r_aload_n hJ dX2_ofNumber_138 rfl jg0 ?_
      refine r_g2_10 hJ ho m64 dX2_ofNumber_139 ?_
      refine r_iload_n hJ dX2_ofNumber_142 rfl jg1 ?_
      refine r_ialdO hJ (by omega) (alP7 ho (by omega)) rfl dX2_ofNumber_143 ?_
      exact ret_i hF dX2_ofNumber_144 (by simp [ofN, ]) rfl
    · refine r_iload_n hJ dX2_ofNumber_32 rfl jg2 ?_
      refine r_tableIn hJ (off := 112) (tgt := 145) dX2_ofNumber_33 (by decide) (by decide) (by decide) (by decide) ?_
      refine r_iload hJ dX2_ofNumber_145 jg4 ?_
      refine r_if_eq hJ (tgt := 161) dX2_ofNumber_147 (by decide) (fun c147 => ?_) (fun c147 => ?_)
      · simp only [h4, bI_0, decide_eq_false_iff_not, Decidable.not_not] at c147
        refine r_iconst hJ (v := (-1)) dX2_ofNumber_161 (by decide) ?_
        exact ret_i hF dX2_ofNumber_162 (by simp [ofN, c147]) rfl
      · simp only [h4, bI_0, decide_eq_false_iff_not, Decidable.not_not] at c147
        refine r_aload_n hJ dX2_ofNumber_150 rfl jg0 ?_
        refine r_g2_11 hJ ho m66 dX2_ofNumber_151 ?_
        refine r_iload_n hJ dX2_ofNumber_154 rfl jg1 ?_
        refine r_iconst hJ (v := nI 3) dX2_ofNumber_155 (by decide) ?_
        refine r_imul hJ dX2_ofNumber_156 ?_
        refine r_ialdO hJ (by omega) (alP8 ho (by omega)) (pk_mul n 3) dX2_ofNumber_157 ?_
        refine r_goto hJ (tgt := 162) dX2_ofNumber_158 (by decide) ?_
        exact ret_i hF dX2_ofNumber_162 (by simp [ofN, c147]) rfl
    · refine r_iload_n hJ dX2_ofNumber_32 rfl jg2 ?_
      refine r_tableIn hJ (off := 130) (tgt := 163) dX2_ofNumber_33 (by decide) (by decide) (by decide) (by decide) ?_
      refine r_iload hJ dX2_ofNumber_163 jg4 ?_
      refine r_if_eq hJ (tgt := 179) dX2_ofNumber_165 (by decide) (fun c165 => ?_) (fun c165 => ?_)
      · simp only [h4, bI_0, decide_eq_false_iff_not, Decidable.not_not] at c165
        refine r_iconst hJ (v := (-1)) dX2_ofNumber_179 (by decide) ?_
        exact ret_i hF dX2_ofNumber_180 (by simp [ofN, c165]) rfl
      · simp only [h4, bI_0, decide_eq_false_iff_not, Decidable.not_not] at c165
        refine r_aload_n hJ dX2_ofNumber_168 rfl jg0 ?_
        refine r_g2_12 hJ ho m67 dX2_ofNumber_169 ?_
        refine r_iload_n hJ dX2_ofNumber_172 rfl jg1 ?_
        refine r_iconst hJ (v := nI 3) dX2_ofNumber_173 (by decide) ?_
        refine r_imul hJ dX2_ofNumber_174 ?_
        refine r_ialdO hJ (by omega) (alP9 ho (by omega)) (pk_mul n 3) dX2_ofNumber_175 ?_
        refine r_goto hJ (tgt := 180) dX2_ofNumber_176 (by decide) ?_
        exact ret_i hF dX2_ofNumber_180 (by simp [ofN, c165]) rfl
    · refine r_iload_n hJ dX2_ofNumber_32 rfl jg2 ?_
      refine r_tableOut hJ (tgt := 181) dX2_ofNumber_33 (by decide) (by decide) ?_
      refine r_aload_n hJ dX2_ofNumber_181 rfl jg0 ?_
      refine r_g2_9 hJ ho m63 dX2_ofNumber_182 ?_
      refine r_iload_n hJ dX2_ofNumber_185 rfl jg1 ?_
      refine r_ialdO hJ (by omega) (alP6 ho (by omega)) rfl dX2_ofNumber_186 ?_
      exact ret_i hF dX2_ofNumber_187 (by simp [ofN, ]) rfl
  refine r_aload_n hJ dX2_ofNumber_0 rfl jg0 ?_
  refine r_g2_5 hJ ho m58 dX2_ofNumber_1 ?_
  refine r_iload_n hJ dX2_ofNumber_4 rfl jg1 ?_
  refine r_ialdO hJ (by omega) (alP2 ho (by omega)) rfl dX2_ofNumber_5 ?_
  refine r_iconst hJ (v := (-1)) dX2_ofNumber_6 (by decide) ?_
  refine r_icmp_ne hJ (tgt := 14) dX2_ofNumber_7 (by decide) (fun c7 => ?_) (fun c7 => ?_)
  · have e3 : nI 0 = bI (decide (P 2 n = -1)) := by simp [bI, c7, nI0]
    refine r_iconst hJ (v := nI 0) dX2_ofNumber_14 (by decide) ?_
    refine r_istore_n hJ dX2_ofNumber_15 rfl (jp3 rfl rfl) ?_
    refine r_aload_n hJ dX2_ofNumber_16 rfl jg0 ?_
    refine r_g2_10 hJ ho m64 dX2_ofNumber_17 ?_
    refine r_iload_n hJ dX2_ofNumber_20 rfl jg1 ?_
    refine r_ialdO hJ (by omega) (alP7 ho (by omega)) rfl dX2_ofNumber_21 ?_
    refine r_if_le hJ (tgt := 29) dX2_ofNumber_22 (by decide) (fun c22 => ?_) (fun c22 => ?_)
    · have c22 := Int32.not_lt.mpr c22
      have e4 : nI 0 = bI (decide (0 < P 7 n)) := by simp [bI, c22, nI0]
      refine r_iconst hJ (v := nI 0) dX2_ofNumber_29 (by decide) ?_
      refine r_istore hJ dX2_ofNumber_30 (jp4 rfl rfl) ?_
      exact sw _ _ e3 e4
    · have c22 := Int32.not_le.mp c22
      have e4 : nI 1 = bI (decide (0 < P 7 n)) := by simp [bI, c22, nI1]
      refine r_iconst hJ (v := nI 1) dX2_ofNumber_25 (by decide) ?_
      refine r_goto hJ (tgt := 30) dX2_ofNumber_26 (by decide) ?_
      refine r_istore hJ dX2_ofNumber_30 (jp4 rfl rfl) ?_
      exact sw _ _ e3 e4
  · have e3 : nI 1 = bI (decide (P 2 n = -1)) := by simp [bI, c7, nI1]
    refine r_iconst hJ (v := nI 1) dX2_ofNumber_10 (by decide) ?_
    refine r_goto hJ (tgt := 15) dX2_ofNumber_11 (by decide) ?_
    refine r_istore_n hJ dX2_ofNumber_15 rfl (jp3 rfl rfl) ?_
    refine r_aload_n hJ dX2_ofNumber_16 rfl jg0 ?_
    refine r_g2_10 hJ ho m64 dX2_ofNumber_17 ?_
    refine r_iload_n hJ dX2_ofNumber_20 rfl jg1 ?_
    refine r_ialdO hJ (by omega) (alP7 ho (by omega)) rfl dX2_ofNumber_21 ?_
    refine r_if_le hJ (tgt := 29) dX2_ofNumber_22 (by decide) (fun c22 => ?_) (fun c22 => ?_)
    · have c22 := Int32.not_lt.mpr c22
      have e4 : nI 0 = bI (decide (0 < P 7 n)) := by simp [bI, c22, nI0]
      refine r_iconst hJ (v := nI 0) dX2_ofNumber_29 (by decide) ?_
      refine r_istore hJ dX2_ofNumber_30 (jp4 rfl rfl) ?_
      exact sw _ _ e3 e4
    · have c22 := Int32.not_le.mp c22
      have e4 : nI 1 = bI (decide (0 < P 7 n)) := by simp [bI, c22, nI1]
      refine r_iconst hJ (v := nI 1) dX2_ofNumber_25 (by decide) ?_
      refine r_goto hJ (tgt := 30) dX2_ofNumber_26 (by decide) ?_
      refine r_istore hJ dX2_ofNumber_30 (jp4 rfl rfl) ?_
      exact sw _ _ e3 e4

def ofH (P : jO) (h : Nat) : Nat → Int32
  | 0 => nI (cnt (inP P (nI h) (nI 1)) 64)
  | 1 => nI (cnt (inP P (nI h) (nI 2)) 64)
  | 2 => nI (cnt (fun n => (placeW P (nI h) n).isSome) 64)
  | 3 => oI (fnd (fun n => decide (P 2 n = nI h)) 64 0)
  | 4 => leastE P (nI h) 64 0 (-1)
  | 5 => P 10 h
  | 6 => P 11 h
  | _ => P 12 h
set_option maxRecDepth 100000 in
set_option maxHeartbeats 1000000 in
theorem c2_ofHolder (l : Launch) (E : jE) (S : jS) (x : jX) (P : jO) {o : Nat} (ho : o < 8) (hP : PI P) {h : Nat} (hh : h < 8) {q : Nat} (hq : q ≤ 7) : Ct l E yX2_ofHolder cX2_ofHolder 3 (some .int) 3 [.ref (ad E o 0), .int (nI h), .int (nI q)] (setO S o P, x) (some (.int (ofH P h q))) (setO S o P, x) := by
  refine Ct.of (by decide +kernel) (Nat.le_refl _) (Nat.le_of_ble_eq_true rfl) rfl (fun J hJ hF => ?_)
  rcases le7 hq with rfl | rfl | rfl | rfl | rfl | rfl | rfl | rfl
  · refine r_iload_n hJ dX2_ofHolder_0 rfl jg2 ?_
    refine r_tableIn hJ (off := 43) (tgt := 44) dX2_ofHolder_1 (by decide) (by decide) (by decide) (by decide) ?_
    refine r_aload_n hJ dX2_ofHolder_44 rfl jg0 ?_
    refine r_iload_n hJ dX2_ofHolder_45 rfl jg1 ?_
    refine r_iconst hJ (v := nI 1) dX2_ofHolder_46 (by decide) ?_
    refine r_V2v hJ kX2_112 (rcv2 E ho) (c2_numbersOfIn l E S x P ho (nI h) (nI 1)) dX2_ofHolder_47 ⟨by decide, by decide⟩ (Nat.le_of_ble_eq_true rfl) ?_
    exact ret_i hF dX2_ofHolder_50 rfl rfl
  · refine r_iload_n hJ dX2_ofHolder_0 rfl jg2 ?_
    refine r_tableIn hJ (off := 50) (tgt := 51) dX2_ofHolder_1 (by decide) (by decide) (by decide) (by decide) ?_
    refine r_aload_n hJ dX2_ofHolder_51 rfl jg0 ?_
    refine r_iload_n hJ dX2_ofHolder_52 rfl jg1 ?_
    refine r_iconst hJ (v := nI 2) dX2_ofHolder_53 (by decide) ?_
    refine r_V2v hJ kX2_112 (rcv2 E ho) (c2_numbersOfIn l E S x P ho (nI h) (nI 2)) dX2_ofHolder_54 ⟨by decide, by decide⟩ (Nat.le_of_ble_eq_true rfl) ?_
    exact ret_i hF dX2_ofHolder_57 rfl rfl
  · refine r_iload_n hJ dX2_ofHolder_0 rfl jg2 ?_
    refine r_tableIn hJ (off := 57) (tgt := 58) dX2_ofHolder_1 (by decide) (by decide) (by decide) (by decide) ?_
    refine r_aload_n hJ dX2_ofHolder_58 rfl jg0 ?_
    refine r_iload_n hJ dX2_ofHolder_59 rfl jg1 ?_
    refine r_V1v hJ kX2_115 (rcv2 E ho) (c2_wishesOf l E S x P ho hP (nI h)) dX2_ofHolder_60 ⟨by decide, by decide⟩ (Nat.le_of_ble_eq_true rfl) ?_
    exact ret_i hF dX2_ofHolder_63 rfl rfl
  · refine r_iload_n hJ dX2_ofHolder_0 rfl jg2 ?_
    refine r_tableIn hJ (off := 63) (tgt := 64) dX2_ofHolder_1 (by decide) (by decide) (by decide) (by decide) ?_
    refine r_aload_n hJ dX2_ofHolder_64 rfl jg0 ?_
    refine r_iload_n hJ dX2_ofHolder_65 rfl jg1 ?_
    refine r_V1v hJ kX2_118 (rcv2 E ho) (c2_leastOf l E S x P ho (nI h)) dX2_ofHolder_66 ⟨by decide, by decide⟩ (Nat.le_of_ble_eq_true rfl) ?_
    exact ret_i hF dX2_ofHolder_69 rfl rfl
  · refine r_iload_n hJ dX2_ofHolder_0 rfl jg2 ?_
    refine r_tableIn hJ (off := 69) (tgt := 70) dX2_ofHolder_1 (by decide) (by decide) (by decide) (by decide) ?_
    refine r_aload_n hJ dX2_ofHolder_70 rfl jg0 ?_
    refine r_iload_n hJ dX2_ofHolder_71 rfl jg1 ?_
    refine r_V1v hJ kX2_121 (rcv2 E ho) (c2_leastEndOf l E S x P ho (nI h)) dX2_ofHolder_72 ⟨by decide, by decide⟩ (Nat.le_of_ble_eq_true rfl) ?_
    exact ret_i hF dX2_ofHolder_75 rfl rfl
  · refine r_iload_n hJ dX2_ofHolder_0 rfl jg2 ?_
    refine r_tableIn hJ (off := 75) (tgt := 76) dX2_ofHolder_1 (by decide) (by decide) (by decide) (by decide) ?_
    refine r_aload_n hJ dX2_ofHolder_76 rfl jg0 ?_
    refine r_g2_13 hJ ho m68 dX2_ofHolder_77 ?_
    refine r_iload_n hJ dX2_ofHolder_80 rfl jg1 ?_
    refine r_ialdO hJ (by omega) (alP10 ho (by omega)) rfl dX2_ofHolder_81 ?_
    exact ret_i hF dX2_ofHolder_82 rfl rfl
  · refine r_iload_n hJ dX2_ofHolder_0 rfl jg2 ?_
    refine r_tableIn hJ (off := 82) (tgt := 83) dX2_ofHolder_1 (by decide) (by decide) (by decide) (by decide) ?_
    refine r_aload_n hJ dX2_ofHolder_83 rfl jg0 ?_
    refine r_g2_14 hJ ho m69 dX2_ofHolder_84 ?_
    refine r_iload_n hJ dX2_ofHolder_87 rfl jg1 ?_
    refine r_ialdO hJ (by omega) (alP11 ho (by omega)) rfl dX2_ofHolder_88 ?_
    exact ret_i hF dX2_ofHolder_89 rfl rfl
  · refine r_iload_n hJ dX2_ofHolder_0 rfl jg2 ?_
    refine r_tableOut hJ (tgt := 90) dX2_ofHolder_1 (by decide) (by decide) ?_
    refine r_aload_n hJ dX2_ofHolder_90 rfl jg0 ?_
    refine r_g2_15 hJ ho m70 dX2_ofHolder_91 ?_
    refine r_iload_n hJ dX2_ofHolder_94 rfl jg1 ?_
    refine r_ialdO hJ (by omega) (alP12 ho (by omega)) rfl dX2_ofHolder_95 ?_
    exact ret_i hF dX2_ofHolder_96 rfl rfl

def ofA (P : jO) (z : Nat) : Nat → Int32
  | 0 => P 0 0
  | 1 => nI (cnt (fun n => decide (stg P n = nI 0)) z)
  | 2 => nI (cnt (fun n => decide (stg P n = nI 1)) z)
  | 3 => nI (cnt (fun n => decide (stg P n = nI 2)) z)
  | 4 => sumA (P 7) 64
  | 5 => sumA (P 10) 8
  | 6 => P 0 1
  | 7 => P 0 2
  | 8 => P 0 3
  | 9 => sumA (P 11) 8
  | 10 => nI (cnt (stS P) z)
  | _ => nI (longN P z z 0 0)
theorem sum_at {l : Launch} {E : jE} {S : jS} {x : jX} {P : jO} {o j n : Nat} (ho : o < 8) (hp : 0 < n) (hn : aln o j = n) : Ct l E yX4_sum cX4_sum 6 (some .int) 1 [.ref (ad E o j)] (setO S o P, x) (some (.int (sumA (P j) n))) (setO S o P, x) := by
  have h := c4_sum l E (setO S o P) x (o := o) (j := j) (n := n) (by omega) hp hn
  rwa [setO_at] at h
set_option maxRecDepth 100000 in
set_option maxHeartbeats 1000000 in
theorem c2_ofAll (l : Launch) (E : jE) (S : jS) (x : jX) (P : jO) {o : Nat} (ho : o < 8) {z : Nat} (hz : P 1 3 = nI z) (hz4 : z ≤ 64) {q : Nat} (hq : q ≤ 11) : Ct l E yX2_ofAll cX2_ofAll 2 (some .int) 4 [.ref (ad E o 0), .int (nI q)] (setO S o P, x) (some (.int (ofA P z q))) (setO S o P, x) := by
  refine Ct.of (by decide +kernel) (Nat.le_refl _) (Nat.le_of_ble_eq_true rfl) rfl (fun J hJ hF => ?_)
  rcases le11 hq with rfl | rfl | rfl | rfl | rfl | rfl | rfl | rfl | rfl | rfl | rfl | rfl
  · refine r_iload_n hJ dX2_ofAll_0 rfl jg1 ?_
    refine r_tableIn hJ (off := 59) (tgt := 60) dX2_ofAll_1 (by decide) (by decide) (by decide) (by decide) ?_
    refine r_aload_n hJ dX2_ofAll_60 rfl jg0 ?_
    refine r_g2_0O hJ ho m51 dX2_ofAll_61 ?_
    exact ret_i hF dX2_ofAll_64 rfl rfl
  · refine r_iload_n hJ dX2_ofAll_0 rfl jg1 ?_
    refine r_tableIn hJ (off := 64) (tgt := 65) dX2_ofAll_1 (by decide) (by decide) (by decide) (by decide) ?_
    refine r_aload_n hJ dX2_ofAll_65 rfl jg0 ?_
    refine r_V0v hJ kX2_130 (rcv2 E ho) (c2_freeNumbers l E S x P ho hz hz4) dX2_ofAll_66 ⟨by decide, by decide⟩ (Nat.le_of_ble_eq_true rfl) ?_
    exact ret_i hF dX2_ofAll_69 rfl rfl
  · refine r_iload_n hJ dX2_ofAll_0 rfl jg1 ?_
    refine r_tableIn hJ (off := 69) (tgt := 70) dX2_ofAll_1 (by decide) (by decide) (by decide) (by decide) ?_
    refine r_aload_n hJ dX2_ofAll_70 rfl jg0 ?_
    refine r_iconst hJ (v := nI 1) dX2_ofAll_71 (by decide) ?_
    refine r_V1v hJ kX2_134 (rcv2 E ho) (c2_numbersIn l E S x P ho hz hz4 (nI 1)) dX2_ofAll_72 ⟨by decide, by decide⟩ (Nat.le_of_ble_eq_true rfl) ?_
    exact ret_i hF dX2_ofAll_75 rfl rfl
  · refine r_iload_n hJ dX2_ofAll_0 rfl jg1 ?_
    refine r_tableIn hJ (off := 75) (tgt := 76) dX2_ofAll_1 (by decide) (by decide) (by decide) (by decide) ?_
    refine r_aload_n hJ dX2_ofAll_76 rfl jg0 ?_
    refine r_iconst hJ (v := nI 2) dX2_ofAll_77 (by decide) ?_
    refine r_V1v hJ kX2_134 (rcv2 E ho) (c2_numbersIn l E S x P ho hz hz4 (nI 2)) dX2_ofAll_78 ⟨by decide, by decide⟩ (Nat.le_of_ble_eq_true rfl) ?_
    exact ret_i hF dX2_ofAll_81 rfl rfl
  · refine r_iload_n hJ dX2_ofAll_0 rfl jg1 ?_
    refine r_tableIn hJ (off := 81) (tgt := 82) dX2_ofAll_1 (by decide) (by decide) (by decide) (by decide) ?_
    refine r_aload_n hJ dX2_ofAll_82 rfl jg0 ?_
    refine r_g2_10 hJ ho m64 dX2_ofAll_83 ?_
    refine r_sum hJ m271 m270 m25 (sum_at ho (n := 64) (by decide) (by simp [aln, ho])) dX2_ofAll_86 ⟨by decide, by decide⟩ (Nat.le_of_ble_eq_true rfl) ?_
    exact ret_i hF dX2_ofAll_89 rfl rfl
  · refine r_iload_n hJ dX2_ofAll_0 rfl jg1 ?_
    refine r_tableIn hJ (off := 89) (tgt := 90) dX2_ofAll_1 (by decide) (by decide) (by decide) (by decide) ?_
    refine r_aload_n hJ dX2_ofAll_90 rfl jg0 ?_
    refine r_g2_13 hJ ho m68 dX2_ofAll_91 ?_
    refine r_sum hJ m271 m270 m25 (sum_at ho (n := 8) (by decide) (by simp [aln, ho])) dX2_ofAll_94 ⟨by decide, by decide⟩ (Nat.le_of_ble_eq_true rfl) ?_
    exact ret_i hF dX2_ofAll_97 rfl rfl
  · refine r_iload_n hJ dX2_ofAll_0 rfl jg1 ?_
    refine r_tableIn hJ (off := 97) (tgt := 98) dX2_ofAll_1 (by decide) (by decide) (by decide) (by decide) ?_
    refine r_aload_n hJ dX2_ofAll_98 rfl jg0 ?_
    refine r_g2_1O hJ ho m53 dX2_ofAll_99 ?_
    exact ret_i hF dX2_ofAll_102 rfl rfl
  · refine r_iload_n hJ dX2_ofAll_0 rfl jg1 ?_
    refine r_tableIn hJ (off := 102) (tgt := 103) dX2_ofAll_1 (by decide) (by decide) (by decide) (by decide) ?_
    refine r_aload_n hJ dX2_ofAll_103 rfl jg0 ?_
    refine r_g2_2O hJ ho m54 dX2_ofAll_104 ?_
    exact ret_i hF dX2_ofAll_107 rfl rfl
  · refine r_iload_n hJ dX2_ofAll_0 rfl jg1 ?_
    refine r_tableIn hJ (off := 107) (tgt := 108) dX2_ofAll_1 (by decide) (by decide) (by decide) (by decide) ?_
    refine r_aload_n hJ dX2_ofAll_108 rfl jg0 ?_
    refine r_g2_3O hJ ho m55 dX2_ofAll_109 ?_
    exact ret_i hF dX2_ofAll_112 rfl rfl
  · refine r_iload_n hJ dX2_ofAll_0 rfl jg1 ?_
    refine r_tableIn hJ (off := 112) (tgt := 113) dX2_ofAll_1 (by decide) (by decide) (by decide) (by decide) ?_
    refine r_aload_n hJ dX2_ofAll_113 rfl jg0 ?_
    refine r_g2_14 hJ ho m69 dX2_ofAll_114 ?_
    refine r_sum hJ m271 m270 m25 (sum_at ho (n := 8) (by decide) (by simp [aln, ho])) dX2_ofAll_117 ⟨by decide, by decide⟩ (Nat.le_of_ble_eq_true rfl) ?_
    exact ret_i hF dX2_ofAll_120 rfl rfl
  · refine r_iload_n hJ dX2_ofAll_0 rfl jg1 ?_
    refine r_tableIn hJ (off := 120) (tgt := 121) dX2_ofAll_1 (by decide) (by decide) (by decide) (by decide) ?_
    refine r_aload_n hJ dX2_ofAll_121 rfl jg0 ?_
    refine r_V0v hJ kX2_141 (rcv2 E ho) (c2_spans l E S x P ho hz hz4) dX2_ofAll_122 ⟨by decide, by decide⟩ (Nat.le_of_ble_eq_true rfl) ?_
    exact ret_i hF dX2_ofAll_125 rfl rfl
  · refine r_iload_n hJ dX2_ofAll_0 rfl jg1 ?_
    refine r_tableOut hJ (tgt := 126) dX2_ofAll_1 (by decide) (by decide) ?_
    refine r_aload_n hJ dX2_ofAll_126 rfl jg0 ?_
    refine r_V0v hJ kX2_144 (rcv2 E ho) (c2_longestRow l E S x P ho hz hz4) dX2_ofAll_127 ⟨by decide, by decide⟩ (Nat.le_of_ble_eq_true rfl) ?_
    exact ret_i hF dX2_ofAll_130 rfl rfl

set_option maxRecDepth 100000 in
set_option maxHeartbeats 1000000 in
theorem c2_copyRow (l : Launch) (E : jE) (S : jS) (x : jX) (P : jO) {o o1 j n : Nat} (ho : o < 8) (ho1 : o1 < 8) (hne : o1 ≠ o) (hp : 0 < n) (hn : aln o j = n) (hn1 : aln o1 j = n) : Ct l E yX2_copyRow cX2_copyRow 2 none 2 [.ref (ad E o1 j), .ref (ad E o j)] (setO S o P, x) none (setO S o (putA P j (fun i => if i < n then S o1 j i else P j i)), x) := by
  refine Ct.of (by decide +kernel) (Nat.le_refl _) (Nat.le_of_ble_eq_true rfl) rfl (fun J hJ hF => ?_)
  refine r_aload_n hJ dX2_copyRow_0 rfl jg0 ?_
  refine r_iconst hJ (v := nI 0) dX2_copyRow_1 (by decide) ?_
  refine r_aload_n hJ dX2_copyRow_2 rfl jg1 ?_
  refine r_iconst hJ (v := nI 0) dX2_copyRow_3 (by decide) ?_
  refine r_aload_n hJ dX2_copyRow_4 rfl jg0 ?_
  refine r_alen hJ (by omega) (by omega) (by rw [hn1]) dX2_copyRow_5 ?_
  refine r_aload_n hJ dX2_copyRow_6 rfl jg1 ?_
  refine r_alen hJ (by omega) (by omega) (by rw [hn]) dX2_copyRow_7 ?_
  refine r_min hJ ⟨m370, m371, m35, m372⟩ dX2_copyRow_8 (by decide) (Nat.le_of_ble_eq_true rfl) ?_
  rw [show (if nI n < nI n then nI n else nI n) = nI n from ite_self _]
  refine r_copy hJ ⟨m373, m375, m374, m36⟩ (by omega) (by omega) (by omega) hn hn1 dX2_copyRow_11 (by decide) (Nat.le_of_ble_eq_true rfl) ?_
  rw [setO_ne hne]
  exact ret_v hF dX2_copyRow_14 rfl rfl

/-- a pool's row j, for its places alone, from another pool -/
def cfR (P Q : jO) (j n : Nat) : jO := putA P j (fun i => if i < n then Q j i else P j i)
def cf0 (P Q : jO) : jO := put (put (put (put P 0 0 (Q 0 0)) 0 1 (Q 0 1)) 0 2 (Q 0 2)) 0 3 (Q 0 3)
def cfN (P Q : jO) : jO := cfR (cfR (cfR (cfR (cfR (cfR (cfR (cfR (cfR (cfR (cfR (cfR (cf0 P Q) Q 1 4) Q 2 64) Q 3 64) Q 4 64) Q 5 64) Q 6 64) Q 7 64) Q 8 192) Q 9 192) Q 10 8) Q 11 8) Q 12 8
theorem cfR_app (P Q : jO) (j n j' i : Nat) : cfR P Q j n j' i = if j' = j ∧ i < n then Q j i else P j' i := by
  by_cases h : j' = j
  · subst h
    simp [cfR, putA]
  · simp [cfR, putA, h]
theorem cfN_0 (P Q : jO) (i : Nat) : cfN P Q 0 i = if i = 3 then Q 0 3 else if i = 2 then Q 0 2 else if i = 1 then Q 0 1 else if i = 0 then Q 0 0 else P 0 i := by
  simp [cfN, cfR_app, cf0, put_app]
theorem cfN_at {o j i : Nat} (P Q : jO) (ho : o < 8) (h : i < aln o j) : cfN P Q j i = Q j i := by
  have hj : 0 < j ∧ j < 13 := by
    have h1 := aln_wid o (by omega) j (by omega)
    have h2 : wid o = 13 := by simp [wid, ho]
    rcases Nat.eq_zero_or_pos j with q | q
    · subst q
      simp [aln_0] at h
    · omega
  obtain ⟨h1, h2⟩ := hj
  rcases (show j = 1 ∨ j = 2 ∨ j = 3 ∨ j = 4 ∨ j = 5 ∨ j = 6 ∨ j = 7 ∨ j = 8 ∨ j = 9 ∨ j = 10 ∨ j = 11 ∨ j = 12 by omega) with rfl | rfl | rfl | rfl | rfl | rfl | rfl | rfl | rfl | rfl | rfl | rfl <;> simp [aln, ho] at h <;> simp [cfN, cfR_app, h]
theorem cfN_eq {S : jS} {x : jX} {P Q : jO} {o : Nat} (ho : o < 8) : sEq x (setO S o (cfN P Q)) (setO S o Q) := by
  refine ⟨fun o' j i h => ?_, fun E o' j => ?_⟩
  · by_cases h1 : o' = o
    · subst h1
      rw [setO_at, setO_at, cfN_at P Q ho h]
    · rw [setO_ne h1, setO_ne h1]
  · by_cases h1 : o' = o
    · subst h1
      rw [setO_at, setO_at]
      simp [scal, ho, poolF, cfN_0]
    · rw [setO_ne h1, setO_ne h1]
set_option maxRecDepth 100000 in
set_option maxHeartbeats 1000000 in
theorem c2_copyFrom (l : Launch) (E : jE) (S : jS) (x : jX) (P : jO) {o o1 : Nat} (ho : o < 8) (ho1 : o1 < 8) (hne : o1 ≠ o) : Ct l E yX2_copyFrom cX2_copyFrom 2 none 3 [.ref (ad E o 0), .ref (ad E o1 0)] (setO S o P, x) none (setO S o (S o1), x) := by
  refine Ct.of (by decide +kernel) (Nat.le_refl _) (Nat.le_of_ble_eq_true rfl) rfl (fun J hJ hF => ?_)
  refine r_aload_n hJ dX2_copyFrom_0 rfl jg0 ?_
  refine r_aload_n hJ dX2_copyFrom_1 rfl jg1 ?_
  refine r_g2_0 hJ ho1 m51 dX2_copyFrom_2 ?_
  rw [setO_ne hne]
  refine r_p2_0 hJ ho m51 dX2_copyFrom_5 ?_
  refine r_aload_n hJ dX2_copyFrom_8 rfl jg0 ?_
  refine r_aload_n hJ dX2_copyFrom_9 rfl jg1 ?_
  refine r_g2_1 hJ ho1 m53 dX2_copyFrom_10 ?_
  rw [setO_ne hne]
  refine r_p2_1 hJ ho m53 dX2_copyFrom_13 ?_
  refine r_aload_n hJ dX2_copyFrom_16 rfl jg0 ?_
  refine r_aload_n hJ dX2_copyFrom_17 rfl jg1 ?_
  refine r_g2_2 hJ ho1 m54 dX2_copyFrom_18 ?_
  rw [setO_ne hne]
  refine r_p2_2 hJ ho m54 dX2_copyFrom_21 ?_
  refine r_aload_n hJ dX2_copyFrom_24 rfl jg0 ?_
  refine r_aload_n hJ dX2_copyFrom_25 rfl jg1 ?_
  refine r_g2_3 hJ ho1 m55 dX2_copyFrom_26 ?_
  rw [setO_ne hne]
  refine r_p2_3 hJ ho m55 dX2_copyFrom_29 ?_
  refine r_aload_n hJ dX2_copyFrom_32 rfl jg1 ?_
  refine r_g2_4 hJ ho1 m56 dX2_copyFrom_33 ?_
  refine r_aload_n hJ dX2_copyFrom_36 rfl jg0 ?_
  refine r_g2_4 hJ ho m56 dX2_copyFrom_37 ?_
  refine r_S2u hJ kX2_61 (c2_copyRow l E S x _ ho ho1 hne (j := 1) (n := 4) (by decide) (by simp [aln, ho]) (by simp [aln, ho1])) dX2_copyFrom_40 ⟨by decide, by decide⟩ (Nat.le_of_ble_eq_true rfl) ?_
  refine r_aload_n hJ dX2_copyFrom_43 rfl jg1 ?_
  refine r_g2_5 hJ ho1 m58 dX2_copyFrom_44 ?_
  refine r_aload_n hJ dX2_copyFrom_47 rfl jg0 ?_
  refine r_g2_5 hJ ho m58 dX2_copyFrom_48 ?_
  refine r_S2u hJ kX2_61 (c2_copyRow l E S x _ ho ho1 hne (j := 2) (n := 64) (by decide) (by simp [aln, ho]) (by simp [aln, ho1])) dX2_copyFrom_51 ⟨by decide, by decide⟩ (Nat.le_of_ble_eq_true rfl) ?_
  refine r_aload_n hJ dX2_copyFrom_54 rfl jg1 ?_
  refine r_g2_6 hJ ho1 m60 dX2_copyFrom_55 ?_
  refine r_aload_n hJ dX2_copyFrom_58 rfl jg0 ?_
  refine r_g2_6 hJ ho m60 dX2_copyFrom_59 ?_
  refine r_S2u hJ kX2_61 (c2_copyRow l E S x _ ho ho1 hne (j := 3) (n := 64) (by decide) (by simp [aln, ho]) (by simp [aln, ho1])) dX2_copyFrom_62 ⟨by decide, by decide⟩ (Nat.le_of_ble_eq_true rfl) ?_
  refine r_aload_n hJ dX2_copyFrom_65 rfl jg1 ?_
  refine r_g2_7 hJ ho1 m61 dX2_copyFrom_66 ?_
  refine r_aload_n hJ dX2_copyFrom_69 rfl jg0 ?_
  refine r_g2_7 hJ ho m61 dX2_copyFrom_70 ?_
  refine r_S2u hJ kX2_61 (c2_copyRow l E S x _ ho ho1 hne (j := 4) (n := 64) (by decide) (by simp [aln, ho]) (by simp [aln, ho1])) dX2_copyFrom_73 ⟨by decide, by decide⟩ (Nat.le_of_ble_eq_true rfl) ?_
  refine r_aload_n hJ dX2_copyFrom_76 rfl jg1 ?_
  refine r_g2_8 hJ ho1 m62 dX2_copyFrom_77 ?_
  refine r_aload_n hJ dX2_copyFrom_80 rfl jg0 ?_
  refine r_g2_8 hJ ho m62 dX2_copyFrom_81 ?_
  refine r_S2u hJ kX2_61 (c2_copyRow l E S x _ ho ho1 hne (j := 5) (n := 64) (by decide) (by simp [aln, ho]) (by simp [aln, ho1])) dX2_copyFrom_84 ⟨by decide, by decide⟩ (Nat.le_of_ble_eq_true rfl) ?_
  refine r_aload_n hJ dX2_copyFrom_87 rfl jg1 ?_
  refine r_g2_9 hJ ho1 m63 dX2_copyFrom_88 ?_
  refine r_aload_n hJ dX2_copyFrom_91 rfl jg0 ?_
  refine r_g2_9 hJ ho m63 dX2_copyFrom_92 ?_
  refine r_S2u hJ kX2_61 (c2_copyRow l E S x _ ho ho1 hne (j := 6) (n := 64) (by decide) (by simp [aln, ho]) (by simp [aln, ho1])) dX2_copyFrom_95 ⟨by decide, by decide⟩ (Nat.le_of_ble_eq_true rfl) ?_
  refine r_aload_n hJ dX2_copyFrom_98 rfl jg1 ?_
  refine r_g2_10 hJ ho1 m64 dX2_copyFrom_99 ?_
  refine r_aload_n hJ dX2_copyFrom_102 rfl jg0 ?_
  refine r_g2_10 hJ ho m64 dX2_copyFrom_103 ?_
  refine r_S2u hJ kX2_61 (c2_copyRow l E S x _ ho ho1 hne (j := 7) (n := 64) (by decide) (by simp [aln, ho]) (by simp [aln, ho1])) dX2_copyFrom_106 ⟨by decide, by decide⟩ (Nat.le_of_ble_eq_true rfl) ?_
  refine r_aload_n hJ dX2_copyFrom_109 rfl jg1 ?_
  refine r_g2_11 hJ ho1 m66 dX2_copyFrom_110 ?_
  refine r_aload_n hJ dX2_copyFrom_113 rfl jg0 ?_
  refine r_g2_11 hJ ho m66 dX2_copyFrom_114 ?_
  refine r_S2u hJ kX2_61 (c2_copyRow l E S x _ ho ho1 hne (j := 8) (n := 192) (by decide) (by simp [aln, ho]) (by simp [aln, ho1])) dX2_copyFrom_117 ⟨by decide, by decide⟩ (Nat.le_of_ble_eq_true rfl) ?_
  refine r_aload_n hJ dX2_copyFrom_120 rfl jg1 ?_
  refine r_g2_12 hJ ho1 m67 dX2_copyFrom_121 ?_
  refine r_aload_n hJ dX2_copyFrom_124 rfl jg0 ?_
  refine r_g2_12 hJ ho m67 dX2_copyFrom_125 ?_
  refine r_S2u hJ kX2_61 (c2_copyRow l E S x _ ho ho1 hne (j := 9) (n := 192) (by decide) (by simp [aln, ho]) (by simp [aln, ho1])) dX2_copyFrom_128 ⟨by decide, by decide⟩ (Nat.le_of_ble_eq_true rfl) ?_
  refine r_aload_n hJ dX2_copyFrom_131 rfl jg1 ?_
  refine r_g2_13 hJ ho1 m68 dX2_copyFrom_132 ?_
  refine r_aload_n hJ dX2_copyFrom_135 rfl jg0 ?_
  refine r_g2_13 hJ ho m68 dX2_copyFrom_136 ?_
  refine r_S2u hJ kX2_61 (c2_copyRow l E S x _ ho ho1 hne (j := 10) (n := 8) (by decide) (by simp [aln, ho]) (by simp [aln, ho1])) dX2_copyFrom_139 ⟨by decide, by decide⟩ (Nat.le_of_ble_eq_true rfl) ?_
  refine r_aload_n hJ dX2_copyFrom_142 rfl jg1 ?_
  refine r_g2_14 hJ ho1 m69 dX2_copyFrom_143 ?_
  refine r_aload_n hJ dX2_copyFrom_146 rfl jg0 ?_
  refine r_g2_14 hJ ho m69 dX2_copyFrom_147 ?_
  refine r_S2u hJ kX2_61 (c2_copyRow l E S x _ ho ho1 hne (j := 11) (n := 8) (by decide) (by simp [aln, ho]) (by simp [aln, ho1])) dX2_copyFrom_150 ⟨by decide, by decide⟩ (Nat.le_of_ble_eq_true rfl) ?_
  refine r_aload_n hJ dX2_copyFrom_153 rfl jg1 ?_
  refine r_g2_15 hJ ho1 m70 dX2_copyFrom_154 ?_
  refine r_aload_n hJ dX2_copyFrom_157 rfl jg0 ?_
  refine r_g2_15 hJ ho m70 dX2_copyFrom_158 ?_
  refine r_S2u hJ kX2_61 (c2_copyRow l E S x _ ho ho1 hne (j := 12) (n := 8) (by decide) (by simp [aln, ho]) (by simp [aln, ho1])) dX2_copyFrom_161 ⟨by decide, by decide⟩ (Nat.le_of_ble_eq_true rfl) ?_
  refine r_eqv hJ (S := setO S o (cfN P (S o1))) (cfN_eq ho) ?_
  exact ret_v hF dX2_copyFrom_164 rfl rfl
