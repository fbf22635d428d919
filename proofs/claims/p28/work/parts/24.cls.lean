set_option maxRecDepth 100000 in
set_option maxHeartbeats 1000000 in
theorem c4_holderAfter (l : Launch) (E : jE) (S : jS) (x : jX) (hP : PI (S 0)) {n : Nat} (hn : n < 64) {b : Nat} (hb : b < 2 ^ 30) : Ct l E yX4_holderAfter cX4_holderAfter 6 (some .int) 6 [.ref (ad E 11 0), .int (nI n), .int (nI b)] (S, x) (some (.int (leapN (S 0 0 0 + nI b) b (S 0) 2 n))) (setO S 1 (leapN (S 0 0 0 + nI b) b (S 0)), x) := by
  refine Ct.of (by decide +kernel) (Nat.le_refl _) (Nat.le_of_ble_eq_true rfl) rfl (fun J hJ hF => ?_)
  obtain ⟨u, hu⟩ : ∃ u, S 0 0 0 + nI b = u := ⟨_, rfl⟩
  obtain ⟨F, hFF⟩ : ∃ F, leapN u b (S 0) = F := ⟨_, rfl⟩
  rw [hu, hFF] at hF
  have fin : ∀ v4 v5 : Option Value, J (setO S 1 F, x) 54 [some (.ref (ad E 11 0)), some (.int (nI n)), some (.int (nI b)), some (.int u), v4, v5] [] := by
    intro v4 v5
    refine r_aload_n hJ dX4_holderAfter_54 rfl jg0 ?_
    refine r_g4_1 hJ m147 dX4_holderAfter_55 ?_
    refine r_g2_5 hJ (by decide) m59 dX4_holderAfter_58 ?_
    refine r_iload_n hJ dX4_holderAfter_61 rfl jg1 ?_
    refine r_ialdO hJ (by omega) (alP2 (by decide) (by omega)) rfl dX4_holderAfter_62 ?_
    exact ret_i hF dX4_holderAfter_63 rfl rfl
  have loop : ∀ (k i : Nat) (P' : jO) (mo : Int32), i + k = b → PI P' → ((mo = nI 1 ∧ leapN u k P' = F) ∨ (mo = nI 0 ∧ P' = F)) → J (setO S 1 P', x) 27 [some (.ref (ad E 11 0)), some (.int (nI n)), some (.int (nI b)), some (.int u), some (.int mo), some (.int (nI i))] [] := by
    intro k
    induction k with
    | zero =>
      intro i P' mo hi hP' hmo
      obtain rfl : i = b := by omega
      refine r_iload hJ dX4_holderAfter_27 jg5 ?_
      refine r_iload_n hJ dX4_holderAfter_29 rfl jg2 ?_
      refine r_icmp_ge hJ (tgt := 54) dX4_holderAfter_30 (by decide) (fun c30 => ?_) (fun c30 => ?_)
      · have hF2 : P' = F := hmo.elim (fun q => q.2) (fun q => q.2)
        rw [hF2]
        exact fin _ _
      · exact absurd (nI_le (by omega) (by omega)) c30
    | succ k ih =>
      intro i P' mo hi hP' hmo
      refine r_iload hJ dX4_holderAfter_27 jg5 ?_
      refine r_iload_n hJ dX4_holderAfter_29 rfl jg2 ?_
      refine r_icmp_ge hJ (tgt := 54) dX4_holderAfter_30 (by decide) (fun c30 => ?_) (fun c30 => ?_)
      · exact absurd c30 (nI_ge (by omega) (by omega))
      · refine r_iload hJ dX4_holderAfter_33 jg4 ?_
        refine r_if_eq hJ (tgt := 54) dX4_holderAfter_35 (by decide) (fun c35 => ?_) (fun c35 => ?_)
        · have hF2 : P' = F := hmo.elim (fun q => absurd c35 (by rw [q.1]; decide)) (fun q => q.2)
          rw [hF2]
          exact fin _ _
        · have hmo1 := hmo.resolve_right (fun q => c35 q.1)
          have hmo2 : (bI (!decide (u < leapV P' u)) = nI 1 ∧ leapN u k (leapP P' u) = F) ∨ (bI (!decide (u < leapV P' u)) = nI 0 ∧ leapP P' u = F) := by
            have h2 := hmo1.2
            rw [leapN] at h2
            by_cases hq : u < leapV P' u
            · rw [if_pos hq] at h2
              exact Or.inr ⟨by simp [bI, hq, nI0], by unfold leapP; rw [if_pos hq]; exact h2⟩
            · rw [if_neg hq] at h2
              exact Or.inl ⟨by simp [bI, hq, nI1], h2⟩
          refine r_aload_n hJ dX4_holderAfter_38 rfl jg0 ?_
          refine r_g4_1 hJ m147 dX4_holderAfter_39 ?_
          refine r_iload_n hJ dX4_holderAfter_42 rfl jg3 ?_
          refine r_V1v hJ kX4_230 (rcv2 E (by decide)) (c2_leap l E S x P' (o := 1) (by decide) hP' u) dX4_holderAfter_43 ⟨by decide, by decide⟩ (Nat.le_of_ble_eq_true rfl) ?_
          refine r_istore hJ dX4_holderAfter_46 (jp4 rfl rfl) ?_
          refine r_iinc hJ dX4_holderAfter_48 jg5 (ii1 _) (jp5 rfl rfl) ?_
          refine r_goto hJ (tgt := 27) dX4_holderAfter_51 (by decide) ?_
          exact ih (i + 1) _ _ (by omega) (PI_leap hP') hmo2
  refine r_aload_n hJ dX4_holderAfter_0 rfl jg0 ?_
  refine r_g4_1 hJ m147 dX4_holderAfter_1 ?_
  refine r_aload_n hJ dX4_holderAfter_4 rfl jg0 ?_
  refine r_g4_0 hJ m146 dX4_holderAfter_5 ?_
  refine r_V1u hJ kX4_224 (rcv2 E (by decide)) (c2_copyG l E S x (o := 1) (o1 := 0) (by decide) (by decide) (by decide)) dX4_holderAfter_8 ⟨by decide, by decide⟩ (Nat.le_of_ble_eq_true rfl) ?_
  refine r_aload_n hJ dX4_holderAfter_11 rfl jg0 ?_
  refine r_g4_1 hJ m147 dX4_holderAfter_12 ?_
  refine r_g2_0O hJ (by decide) m52 dX4_holderAfter_15 ?_
  refine r_iload_n hJ dX4_holderAfter_18 rfl jg2 ?_
  refine r_iadd hJ dX4_holderAfter_19 ?_
  rw [hu]
  refine r_istore_n hJ dX4_holderAfter_20 rfl (jp3 rfl rfl) ?_
  refine r_iconst hJ (v := nI 1) dX4_holderAfter_21 (by decide) ?_
  refine r_istore hJ dX4_holderAfter_22 (jp4 rfl rfl) ?_
  refine r_iconst hJ (v := nI 0) dX4_holderAfter_24 (by decide) ?_
  refine r_istore hJ dX4_holderAfter_25 (jp5 rfl rfl) ?_
  exact loop b 0 _ _ (by omega) hP (Or.inl ⟨rfl, hFF⟩)

theorem bI_ne {b : Bool} (h : ¬ bI b = 0) : b = true := by
  cases b
  · exact absurd rfl h
  · rfl
/-- when there would be so many free numbers; what the look ahead leaves -/
def freeT (S : jS) (z : Nat) (m : Int32) : Int32 × jO := if nI (freesP (S 0) z) < m then freeL z m (S 0 0 0 + nI 500) (S 0 0 0) 500 (S 0) else (nI 0, S 1)
set_option maxRecDepth 100000 in
set_option maxHeartbeats 1000000 in
theorem c4_timeToFree (l : Launch) (E : jE) (S : jS) (x : jX) (hP : PI (S 0)) {z : Nat} (hz : S 0 1 3 = nI z) (hz4 : z ≤ 64) (m : Int32) : Ct l E yX4_timeToFree cX4_timeToFree 4 (some .int) 6 [.ref (ad E 11 0), .int m] (S, x) (some (.int (freeT S z m).1)) (setO S 1 (freeT S z m).2, x) := by
  refine Ct.of (by decide +kernel) (Nat.le_refl _) (Nat.le_of_ble_eq_true rfl) rfl (fun J hJ hF => ?_)
  obtain ⟨u, hu⟩ : ∃ u, S 0 0 0 + nI 500 = u := ⟨_, rfl⟩
  have loop : ∀ (k i : Nat) (P' : jO), i + k = 500 → PI P' → P' 1 3 = nI z → freeL z m u (S 0 0 0) k P' = freeL z m u (S 0 0 0) 500 (S 0) → nI (freesP (S 0) z) < m → J (setO S 1 P', x) 38 [some (.ref (ad E 11 0)), some (.int m), some (.int u), some (.int (nI i))] [] := by
    intro k
    induction k with
    | zero =>
      intro i P' hi hP' hz' he hlt
      obtain rfl : i = 500 := by omega
      have he := he
      refine r_iload_n hJ dX4_timeToFree_38 rfl jg3 ?_
      refine r_sipush hJ (v := nI 500) dX4_timeToFree_39 (by decide) ?_
      refine r_icmp_ge hJ (tgt := 89) dX4_timeToFree_42 (by decide) (fun c42 => ?_) (fun c42 => ?_)
      · refine r_iconst hJ (v := (-1)) dX4_timeToFree_89 (by decide) ?_
        exact ret_i hF dX4_timeToFree_90 (by unfold freeT; rw [if_pos hlt, hu, ← he]; rfl) (by unfold freeT; rw [if_pos hlt, hu, ← he]; rfl)
      · exact absurd (nI_le (by omega) (by omega)) c42
    | succ k ih =>
      intro i P' hi hP' hz' he hlt
      have hT : freeT S z m = freeL z m u (S 0 0 0) (k + 1) P' := by
        unfold freeT
        rw [if_pos hlt, hu]
        exact he.symm
      refine r_iload_n hJ dX4_timeToFree_38 rfl jg3 ?_
      refine r_sipush hJ (v := nI 500) dX4_timeToFree_39 (by decide) ?_
      refine r_icmp_ge hJ (tgt := 89) dX4_timeToFree_42 (by decide) (fun c42 => ?_) (fun c42 => ?_)
      · exact absurd c42 (nI_ge (by omega) (by omega))
      · refine r_aload_n hJ dX4_timeToFree_45 rfl jg0 ?_
        refine r_g4_1 hJ m147 dX4_timeToFree_46 ?_
        refine r_iload_n hJ dX4_timeToFree_49 rfl jg2 ?_
        refine r_V1v hJ kX4_230 (rcv2 E (by decide)) (c2_leap l E S x P' (o := 1) (by decide) hP' u) dX4_timeToFree_50 ⟨by decide, by decide⟩ (Nat.le_of_ble_eq_true rfl) ?_
        refine r_if_eq hJ (tgt := 89) dX4_timeToFree_53 (by decide) (fun c53 => ?_) (fun c53 => ?_)
        · rw [bI_0, Bool.not_eq_eq_eq_not, Bool.not_false, decide_eq_true_iff] at c53
          rw [show leapP P' u = P' from if_pos c53]
          refine r_iconst hJ (v := (-1)) dX4_timeToFree_89 (by decide) ?_
          exact ret_i hF dX4_timeToFree_90 (by rw [hT, freeL, if_pos c53]) (by rw [hT, freeL, if_pos c53])
        · have c53 := bI_ne c53
          rw [Bool.not_eq_true', decide_eq_false_iff_not] at c53
          refine r_aload_n hJ dX4_timeToFree_56 rfl jg0 ?_
          refine r_g4_1 hJ m147 dX4_timeToFree_57 ?_
          refine r_V0v hJ kX4_236 (rcv2 E (by decide)) (c2_freeNumbers l E S x (leapP P' u) (o := 1) (by decide) (by rw [r1_leap]; exact hz') hz4) dX4_timeToFree_60 ⟨by decide, by decide⟩ (Nat.le_of_ble_eq_true rfl) ?_
          refine r_iload_n hJ dX4_timeToFree_63 rfl jg1 ?_
          refine r_icmp_lt hJ (tgt := 83) dX4_timeToFree_64 (by decide) (fun c64 => ?_) (fun c64 => ?_)
          · have c64 : nI (freesP (leapP P' u) z) < m := c64
            refine r_iinc hJ dX4_timeToFree_83 jg3 (ii1 _) (jp3 rfl rfl) ?_
            refine r_goto hJ (tgt := 38) dX4_timeToFree_86 (by decide) ?_
            exact ih (i + 1) _ (by omega) (PI_leap hP') (by rw [r1_leap]; exact hz') (by rw [← he, freeL, if_neg c53, if_pos c64]) hlt
          · have c64 : ¬ nI (freesP (leapP P' u) z) < m := c64
            refine r_aload_n hJ dX4_timeToFree_67 rfl jg0 ?_
            refine r_g4_1 hJ m147 dX4_timeToFree_68 ?_
            refine r_g2_0O hJ (by decide) m52 dX4_timeToFree_71 ?_
            refine r_aload_n hJ dX4_timeToFree_74 rfl jg0 ?_
            refine r_g4_0 hJ m146 dX4_timeToFree_75 ?_
            refine r_g2_0 hJ (by decide) m52 dX4_timeToFree_78 ?_
            rw [setO_ne (by decide)]
            refine r_isub hJ dX4_timeToFree_81 ?_
            exact ret_i hF dX4_timeToFree_82 (by rw [hT, freeL, if_neg c53, if_neg c64]) (by rw [hT, freeL, if_neg c53, if_neg c64])
  refine r_aload_n hJ dX4_timeToFree_0 rfl jg0 ?_
  refine r_g4_0 hJ m146 dX4_timeToFree_1 ?_
  refine r_V0v hJ kX4_236 (rcv2 E (by decide)) (g2_freeNumbers l E S x (o := 0) (by decide) hz hz4) dX4_timeToFree_4 ⟨by decide, by decide⟩ (Nat.le_of_ble_eq_true rfl) ?_
  refine r_iload_n hJ dX4_timeToFree_7 rfl jg1 ?_
  refine r_icmp_lt hJ (tgt := 13) dX4_timeToFree_8 (by decide) (fun c8 => ?_) (fun c8 => ?_)
  · refine r_aload_n hJ dX4_timeToFree_13 rfl jg0 ?_
    refine r_g4_1 hJ m147 dX4_timeToFree_14 ?_
    refine r_aload_n hJ dX4_timeToFree_17 rfl jg0 ?_
    refine r_g4_0 hJ m146 dX4_timeToFree_18 ?_
    refine r_V1u hJ kX4_224 (rcv2 E (by decide)) (c2_copyG l E S x (o := 1) (o1 := 0) (by decide) (by decide) (by decide)) dX4_timeToFree_21 ⟨by decide, by decide⟩ (Nat.le_of_ble_eq_true rfl) ?_
    refine r_aload_n hJ dX4_timeToFree_24 rfl jg0 ?_
    refine r_g4_0 hJ m146 dX4_timeToFree_25 ?_
    refine r_g2_0 hJ (by decide) m52 dX4_timeToFree_28 ?_
    rw [setO_ne (by decide)]
    refine r_sipush hJ (v := nI 500) dX4_timeToFree_31 (by decide) ?_
    refine r_iadd hJ dX4_timeToFree_34 ?_
    rw [hu]
    refine r_istore_n hJ dX4_timeToFree_35 rfl (jp2 rfl rfl) ?_
    refine r_iconst hJ (v := nI 0) dX4_timeToFree_36 (by decide) ?_
    refine r_istore_n hJ dX4_timeToFree_37 rfl (jp3 rfl rfl) ?_
    exact loop 500 0 _ (by omega) hP hz rfl c8
  · refine r_iconst hJ (v := nI 0) dX4_timeToFree_11 (by decide) ?_
    exact ret_i hF dX4_timeToFree_12 (by unfold freeT; rw [if_neg (show ¬ nI (freesP (S 0) z) < m from c8)]) (by unfold freeT; rw [if_neg (show ¬ nI (freesP (S 0) z) < m from c8), setO_self])

/-- when a wish would be given; what the look ahead leaves -/
def wishT (S : jS) (h n : Nat) : Int32 × jO :=
  if S 0 2 n = nI h then (nI 0, S 1)
  else if mayW (S 0) (nI h) n = true then
    (if S 0 2 n = -1 then (nI 0, addW (S 0) h n (nI 1)) else wishL (nI h) n (S 0 0 0 + nI 500) (S 0 0 0) 500 (addW (S 0) h n (nI 1)))
  else (-1, S 1)
theorem addW_7 {P : jO} {h n w : Nat} {t : Int32} (hw3 : w ≤ 3) (hw : P 7 n = nI w) (hf : ¬ P 2 n = -1) (hm : mayW P (nI h) n = true) : ¬ addW P h n t 7 n = 0 := by
  unfold mayW at hm
  rw [if_neg hf] at hm
  simp only [Bool.and_eq_true, Bool.not_eq_true', decide_eq_false_iff_not] at hm
  have h3 := hm.1.1
  rw [hw, nI_leI (by omega) (by omega)] at h3
  unfold addW
  rw [if_neg hf, hw, toN_nI (by omega), if_pos (by omega)]
  simp only [put_app]
  simp [hw, nI_add]
  exact nI_ne0 (by omega) (by omega)
set_option maxRecDepth 100000 in
set_option maxHeartbeats 1000000 in
theorem c4_timeToWished (l : Launch) (E : jE) (S : jS) (x : jX) (hP : PI (S 0)) {h : Nat} (hh : h < 8) {n : Nat} (hn : n < 64) {w : Nat} (hw3 : w ≤ 3) (hw : S 0 7 n = nI w) : Ct l E yX4_timeToWished cX4_timeToWished 5 (some .int) 6 [.ref (ad E 11 0), .int (nI h), .int (nI n)] (S, x) (some (.int (wishT S h n).1)) (setO S 1 (wishT S h n).2, x) := by
  refine Ct.of (by decide +kernel) (Nat.le_refl _) (Nat.le_of_ble_eq_true rfl) rfl (fun J hJ hF => ?_)
  obtain ⟨u, hu⟩ : ∃ u, S 0 0 0 + nI 500 = u := ⟨_, rfl⟩
  have loop : wishT S h n = wishL (nI h) n u (S 0 0 0) 500 (addW (S 0) h n (nI 1)) → ∀ (k i : Nat) (P' : jO), i + k = 500 → PI P' → wishL (nI h) n u (S 0 0 0) k P' = wishL (nI h) n u (S 0 0 0) 500 (addW (S 0) h n (nI 1)) → J (setO S 1 P', x) 70 [some (.ref (ad E 11 0)), some (.int (nI h)), some (.int (nI n)), some (.int u), some (.int (nI i))] [] := by
    intro hT k
    induction k with
    | zero =>
      intro i P' hi hP' he
      obtain rfl : i = 500 := by omega
      refine r_iload hJ dX4_timeToWished_70 jg4 ?_
      refine r_sipush hJ (v := nI 500) dX4_timeToWished_72 (by decide) ?_
      refine r_icmp_ge hJ (tgt := 124) dX4_timeToWished_75 (by decide) (fun c75 => ?_) (fun c75 => ?_)
      · refine r_iconst hJ (v := (-1)) dX4_timeToWished_124 (by decide) ?_
        exact ret_i hF dX4_timeToWished_125 (by rw [hT, ← he]; rfl) (by rw [hT, ← he]; rfl)
      · exact absurd (nI_le (by omega) (by omega)) c75
    | succ k ih =>
      intro i P' hi hP' he
      refine r_iload hJ dX4_timeToWished_70 jg4 ?_
      refine r_sipush hJ (v := nI 500) dX4_timeToWished_72 (by decide) ?_
      refine r_icmp_ge hJ (tgt := 124) dX4_timeToWished_75 (by decide) (fun c75 => ?_) (fun c75 => ?_)
      · exact absurd c75 (nI_ge (by omega) (by omega))
      · refine r_aload_n hJ dX4_timeToWished_78 rfl jg0 ?_
        refine r_g4_1 hJ m147 dX4_timeToWished_79 ?_
        refine r_iload_n hJ dX4_timeToWished_82 rfl jg3 ?_
        refine r_V1v hJ kX4_230 (rcv2 E (by decide)) (c2_leap l E S x P' (o := 1) (by decide) hP' u) dX4_timeToWished_83 ⟨by decide, by decide⟩ (Nat.le_of_ble_eq_true rfl) ?_
        refine r_if_eq hJ (tgt := 124) dX4_timeToWished_86 (by decide) (fun c86 => ?_) (fun c86 => ?_)
        · rw [bI_0, Bool.not_eq_eq_eq_not, Bool.not_false, decide_eq_true_iff] at c86
          rw [show leapP P' u = P' from if_pos c86]
          refine r_iconst hJ (v := (-1)) dX4_timeToWished_124 (by decide) ?_
          exact ret_i hF dX4_timeToWished_125 (by rw [hT, ← he, wishL, if_pos c86]) (by rw [hT, ← he, wishL, if_pos c86])
        · have c86 := bI_ne c86
          rw [Bool.not_eq_true', decide_eq_false_iff_not] at c86
          refine r_aload_n hJ dX4_timeToWished_89 rfl jg0 ?_
          refine r_g4_1 hJ m147 dX4_timeToWished_90 ?_
          refine r_g2_5 hJ (by decide) m59 dX4_timeToWished_93 ?_
          refine r_iload_n hJ dX4_timeToWished_96 rfl jg2 ?_
          refine r_ialdO hJ (by omega) (alP2 (by decide) (by omega)) rfl dX4_timeToWished_97 ?_
          refine r_iload_n hJ dX4_timeToWished_98 rfl jg1 ?_
          refine r_icmp_ne hJ (tgt := 118) dX4_timeToWished_99 (by decide) (fun c99 => ?_) (fun c99 => ?_)
          · refine r_iinc hJ dX4_timeToWished_118 jg4 (ii1 _) (jp4 rfl rfl) ?_
            refine r_goto hJ (tgt := 70) dX4_timeToWished_121 (by decide) ?_
            exact ih (i + 1) _ (by omega) (PI_leap hP') (by rw [← he, wishL, if_neg c86, if_neg c99])
          · refine r_aload_n hJ dX4_timeToWished_102 rfl jg0 ?_
            refine r_g4_1 hJ m147 dX4_timeToWished_103 ?_
            refine r_g2_0O hJ (by decide) m52 dX4_timeToWished_106 ?_
            refine r_aload_n hJ dX4_timeToWished_109 rfl jg0 ?_
            refine r_g4_0 hJ m146 dX4_timeToWished_110 ?_
            refine r_g2_0 hJ (by decide) m52 dX4_timeToWished_113 ?_
            rw [setO_ne (by decide)]
            refine r_isub hJ dX4_timeToWished_116 ?_
            exact ret_i hF dX4_timeToWished_117 (by rw [hT, ← he, wishL, if_neg c86, if_pos c99]) (by rw [hT, ← he, wishL, if_neg c86, if_pos c99])
  refine r_aload_n hJ dX4_timeToWished_0 rfl jg0 ?_
  refine r_g4_0 hJ m146 dX4_timeToWished_1 ?_
  refine r_g2_5 hJ (by decide) m59 dX4_timeToWished_4 ?_
  refine r_iload_n hJ dX4_timeToWished_7 rfl jg2 ?_
  refine r_iald hJ (by omega) (alP2 (by decide) (by omega)) rfl dX4_timeToWished_8 ?_
  refine r_iload_n hJ dX4_timeToWished_9 rfl jg1 ?_
  refine r_icmp_ne hJ (tgt := 15) dX4_timeToWished_10 (by decide) (fun c10 => ?_) (fun c10 => ?_)
  · refine r_aload_n hJ dX4_timeToWished_15 rfl jg0 ?_
    refine r_g4_0 hJ m146 dX4_timeToWished_16 ?_
    refine r_iload_n hJ dX4_timeToWished_19 rfl jg1 ?_
    refine r_iload_n hJ dX4_timeToWished_20 rfl jg2 ?_
    refine r_V2v hJ kX4_48 (rcv2 E (by decide)) (g2_mayWish l E S x (o := 0) (by decide) (nI h) hn hw3 hw) dX4_timeToWished_21 ⟨by decide, by decide⟩ (Nat.le_of_ble_eq_true rfl) ?_
    refine r_if_ne hJ (tgt := 29) dX4_timeToWished_24 (by decide) (fun c24 => ?_) (fun c24 => ?_)
    · have c24 := bI_ne c24
      refine r_aload_n hJ dX4_timeToWished_29 rfl jg0 ?_
      refine r_g4_1 hJ m147 dX4_timeToWished_30 ?_
      refine r_aload_n hJ dX4_timeToWished_33 rfl jg0 ?_
      refine r_g4_0 hJ m146 dX4_timeToWished_34 ?_
      refine r_V1u hJ kX4_224 (rcv2 E (by decide)) (c2_copyG l E S x (o := 1) (o1 := 0) (by decide) (by decide) (by decide)) dX4_timeToWished_37 ⟨by decide, by decide⟩ (Nat.le_of_ble_eq_true rfl) ?_
      refine r_aload_n hJ dX4_timeToWished_40 rfl jg0 ?_
      refine r_g4_1 hJ m147 dX4_timeToWished_41 ?_
      refine r_iload_n hJ dX4_timeToWished_44 rfl jg1 ?_
      refine r_iload_n hJ dX4_timeToWished_45 rfl jg2 ?_
      refine r_iconst hJ (v := nI 1) dX4_timeToWished_46 (by decide) ?_
      refine r_V3v hJ kX4_60 (rcv2 E (by decide)) (c2_addWish l E S x (S 0) (o := 1) (by decide) hh hn (nI 1) hw3 hw) dX4_timeToWished_47 ⟨by decide, by decide⟩ (Nat.le_of_ble_eq_true rfl) ?_
      refine r_if_ne hJ (tgt := 55) dX4_timeToWished_50 (by decide) (fun c50 => ?_) (fun c50 => ?_)
      · have hfr : ¬ S 0 2 n = -1 := fun q => c50 (by rw [if_pos q]; rfl)
        refine r_aload_n hJ dX4_timeToWished_55 rfl jg0 ?_
        refine r_g4_0 hJ m146 dX4_timeToWished_56 ?_
        refine r_g2_0 hJ (by decide) m52 dX4_timeToWished_59 ?_
        rw [setO_ne (by decide)]
        refine r_sipush hJ (v := nI 500) dX4_timeToWished_62 (by decide) ?_
        refine r_iadd hJ dX4_timeToWished_65 ?_
        rw [hu]
        refine r_istore_n hJ dX4_timeToWished_66 rfl (jp3 rfl rfl) ?_
        refine r_iconst hJ (v := nI 0) dX4_timeToWished_67 (by decide) ?_
        refine r_istore hJ dX4_timeToWished_68 (jp4 rfl rfl) ?_
        exact loop (by unfold wishT; rw [if_neg c10, if_pos c24, if_neg hfr, hu]) 500 0 _ (by omega) (PI_addW hn hh hP) rfl
      · have hfr : S 0 2 n = -1 := by
          by_cases q : S 0 2 n = -1
          · exact q
          · rw [if_neg q] at c50
            exact absurd c50 (addW_7 hw3 hw q c24)
        refine r_iconst hJ (v := nI 0) dX4_timeToWished_53 (by decide) ?_
        exact ret_i hF dX4_timeToWished_54 (by unfold wishT; rw [if_neg c10, if_pos c24, if_pos hfr]) (by unfold wishT; rw [if_neg c10, if_pos c24, if_pos hfr])
    · rw [bI_0] at c24
      refine r_iconst hJ (v := (-1)) dX4_timeToWished_27 (by decide) ?_
      exact ret_i hF dX4_timeToWished_28 (by unfold wishT; rw [if_neg c10, if_neg (by rw [c24]; decide)]) (by unfold wishT; rw [if_neg c10, if_neg (by rw [c24]; decide), setO_self])
  · refine r_iconst hJ (v := nI 0) dX4_timeToWished_13 (by decide) ?_
    exact ret_i hF dX4_timeToWished_14 (by unfold wishT; rw [if_pos c10]) (by unfold wishT; rw [if_pos c10, setO_self])

set_option maxRecDepth 100000 in
set_option maxHeartbeats 1000000 in
theorem c4_whoAfter (l : Launch) (E : jE) (S : jS) (K : Nat → Nat) (y : Int64 × Nat) (hP : PI (S 0)) {n : Nat} (hn : n < 64) (hok : okN S (nI n) = true) {b : Nat} (hb : b ≤ 500) : Ct l E yX4_whoAfter cX4_whoAfter 3 (some .int) 7 [.ref (ad E 11 0), .int (nI n), .int (nI b)] (S, (K, y)) (some (.int (leapN (S 0 0 0 + nI b) b (S 0) 2 n))) (setO S 1 (leapN (S 0 0 0 + nI b) b (S 0)), (K, y)) := by
  refine Ct.of (by decide +kernel) (Nat.le_refl _) (Nat.le_of_ble_eq_true rfl) rfl (fun J hJ hF => ?_)
  refine r_aload_n hJ dX4_whoAfter_0 rfl jg0 ?_
  refine r_iload_n hJ dX4_whoAfter_1 rfl jg1 ?_
  refine r_V1u hJ kX4_41 (rcv4 E) (c4_needNumber l E S (K, y) (nI n) hok) dX4_whoAfter_2 ⟨by decide, by decide⟩ (Nat.le_of_ble_eq_true rfl) ?_
  refine r_iload_n hJ dX4_whoAfter_5 rfl jg2 ?_
  refine r_iconst hJ (v := nI 0) dX4_whoAfter_6 (by decide) ?_
  refine r_sipush hJ (v := nI 500) dX4_whoAfter_7 (by decide) ?_
  refine r_S3u hJ kX4_44 (c4_needRange l E S (K, y) (nI b) (nI 0) (nI 500) (nI_nlt (by omega) (by omega)) (nI_le (by omega) (by omega))) dX4_whoAfter_10 ⟨by decide, by decide⟩ (Nat.le_of_ble_eq_true rfl) ?_
  refine r_aload_n hJ dX4_whoAfter_13 rfl jg0 ?_
  refine r_iload_n hJ dX4_whoAfter_14 rfl jg1 ?_
  refine r_iload_n hJ dX4_whoAfter_15 rfl jg2 ?_
  refine r_V2v hJ kX4_151 (rcv4 E) (c4_holderAfter l E S (K, y) hP hn (b := b) (by omega)) dX4_whoAfter_16 ⟨by decide, by decide⟩ (Nat.le_of_ble_eq_true rfl) ?_
  exact ret_i hF dX4_whoAfter_19 rfl rfl

set_option maxRecDepth 100000 in
set_option maxHeartbeats 1000000 in
theorem t4_whoAfter_n (l : Launch) (hst : l.stackTraces = false) (E : jE) (S : jS) (K : Nat → Nat) (y : Int64 × Nat) {n b : Int32} (h0 : okN S n = false) : CtT l E yX4_whoAfter cX4_whoAfter 3 (some .int) 7 [.ref (ad E 11 0), .int n, .int b] (S, (K, y)) "java/lang/IndexOutOfBoundsException" (nxt (S, (K, y))) := by
  refine CtT.of hst (by decide +kernel) (Nat.le_of_ble_eq_true rfl) rfl (fun J hJ hF => ?_)
  refine r_aload_n hJ dX4_whoAfter_0 rfl jg0 ?_
  refine r_iload_n hJ dX4_whoAfter_1 rfl jg1 ?_
  exact thrV1 hF kX4_41 (rcv4 E) (t4_needNumber l hst E S (K, y) n h0) dX4_whoAfter_2 ⟨by decide, by decide⟩ (Nat.le_of_ble_eq_true rfl)

set_option maxRecDepth 100000 in
set_option maxHeartbeats 1000000 in
theorem t4_whoAfter_b (l : Launch) (hst : l.stackTraces = false) (E : jE) (S : jS) (K : Nat → Nat) (y : Int64 × Nat) {n : Nat} (hok : okN S (nI n) = true) {b : Int32} (h0 : b < nI 0 ∨ ¬ b ≤ nI 500) : CtT l E yX4_whoAfter cX4_whoAfter 3 (some .int) 7 [.ref (ad E 11 0), .int (nI n), .int b] (S, (K, y)) "java/lang/IllegalArgumentException" (nxt (S, (K, y))) := by
  refine CtT.of hst (by decide +kernel) (Nat.le_of_ble_eq_true rfl) rfl (fun J hJ hF => ?_)
  refine r_aload_n hJ dX4_whoAfter_0 rfl jg0 ?_
  refine r_iload_n hJ dX4_whoAfter_1 rfl jg1 ?_
  refine r_V1u hJ kX4_41 (rcv4 E) (c4_needNumber l E S (K, y) (nI n) hok) dX4_whoAfter_2 ⟨by decide, by decide⟩ (Nat.le_of_ble_eq_true rfl) ?_
  refine r_iload_n hJ dX4_whoAfter_5 rfl jg2 ?_
  refine r_iconst hJ (v := nI 0) dX4_whoAfter_6 (by decide) ?_
  refine r_sipush hJ (v := nI 500) dX4_whoAfter_7 (by decide) ?_
  exact thrS3 hF kX4_44 (t4_needRange l hst E S (K, y) b (nI 0) (nI 500) h0) dX4_whoAfter_10 ⟨by decide, by decide⟩ (Nat.le_of_ble_eq_true rfl)

set_option maxRecDepth 100000 in
set_option maxHeartbeats 1000000 in
theorem c4_freeIn (l : Launch) (E : jE) (S : jS) (K : Nat → Nat) (y : Int64 × Nat) (hP : PI (S 0)) {z : Nat} (hz : S 0 1 3 = nI z) (hz4 : z ≤ 64) {m : Int32} (hm1 : ¬ m < nI 1) (hm2 : m ≤ nI 64) : Ct l E yX4_freeIn cX4_freeIn 2 (some .int) 7 [.ref (ad E 11 0), .int m] (S, (K, y)) (some (.int (freeT S z m).1)) (setO S 1 (freeT S z m).2, (K, y)) := by
  refine Ct.of (by decide +kernel) (Nat.le_refl _) (Nat.le_of_ble_eq_true rfl) rfl (fun J hJ hF => ?_)
  refine r_iload_n hJ dX4_freeIn_0 rfl jg1 ?_
  refine r_iconst hJ (v := nI 1) dX4_freeIn_1 (by decide) ?_
  refine r_bipush hJ (v := nI 64) dX4_freeIn_2 (by decide) ?_
  refine r_S3u hJ kX4_44 (c4_needRange l E S (K, y) (m) (nI 1) (nI 64) hm1 hm2) dX4_freeIn_4 ⟨by decide, by decide⟩ (Nat.le_of_ble_eq_true rfl) ?_
  refine r_aload_n hJ dX4_freeIn_7 rfl jg0 ?_
  refine r_iload_n hJ dX4_freeIn_8 rfl jg1 ?_
  refine r_V1v hJ kX4_154 (rcv4 E) (c4_timeToFree l E S (K, y) hP hz hz4 m) dX4_freeIn_9 ⟨by decide, by decide⟩ (Nat.le_of_ble_eq_true rfl) ?_
  exact ret_i hF dX4_freeIn_12 rfl rfl

set_option maxRecDepth 100000 in
set_option maxHeartbeats 1000000 in
theorem t4_freeIn (l : Launch) (hst : l.stackTraces = false) (E : jE) (S : jS) (K : Nat → Nat) (y : Int64 × Nat) {m : Int32} (h0 : m < nI 1 ∨ ¬ m ≤ nI 64) : CtT l E yX4_freeIn cX4_freeIn 2 (some .int) 7 [.ref (ad E 11 0), .int m] (S, (K, y)) "java/lang/IllegalArgumentException" (nxt (S, (K, y))) := by
  refine CtT.of hst (by decide +kernel) (Nat.le_of_ble_eq_true rfl) rfl (fun J hJ hF => ?_)
  refine r_iload_n hJ dX4_freeIn_0 rfl jg1 ?_
  refine r_iconst hJ (v := nI 1) dX4_freeIn_1 (by decide) ?_
  refine r_bipush hJ (v := nI 64) dX4_freeIn_2 (by decide) ?_
  exact thrS3 hF kX4_44 (t4_needRange l hst E S (K, y) m (nI 1) (nI 64) h0) dX4_freeIn_4 ⟨by decide, by decide⟩ (Nat.le_of_ble_eq_true rfl)

set_option maxRecDepth 100000 in
set_option maxHeartbeats 1000000 in
theorem c4_wishedIn (l : Launch) (E : jE) (S : jS) (K : Nat → Nat) (y : Int64 × Nat) (hP : PI (S 0)) {h : Nat} (hh : h < 8) {n : Nat} (hn : n < 64) (hok : okN S (nI n) = true) {w : Nat} (hw3 : w ≤ 3) (hw : S 0 7 n = nI w) : Ct l E yX4_wishedIn cX4_wishedIn 3 (some .int) 7 [.ref (ad E 11 0), .int (nI h), .int (nI n)] (S, (K, y)) (some (.int (wishT S h n).1)) (setO S 1 (wishT S h n).2, (K, y)) := by
  refine Ct.of (by decide +kernel) (Nat.le_refl _) (Nat.le_of_ble_eq_true rfl) rfl (fun J hJ hF => ?_)
  refine r_iload_n hJ dX4_wishedIn_0 rfl jg1 ?_
  refine r_S1u hJ kX4_37 (c4_needHolder l E S (K, y) (nI h) (nI_pos (by omega)) (nI_lt (by omega) (by decide))) dX4_wishedIn_1 ⟨by decide, by decide⟩ (Nat.le_of_ble_eq_true rfl) ?_
  refine r_aload_n hJ dX4_wishedIn_4 rfl jg0 ?_
  refine r_iload_n hJ dX4_wishedIn_5 rfl jg2 ?_
  refine r_V1u hJ kX4_41 (rcv4 E) (c4_needNumber l E S (K, y) (nI n) hok) dX4_wishedIn_6 ⟨by decide, by decide⟩ (Nat.le_of_ble_eq_true rfl) ?_
  refine r_aload_n hJ dX4_wishedIn_9 rfl jg0 ?_
  refine r_iload_n hJ dX4_wishedIn_10 rfl jg1 ?_
  refine r_iload_n hJ dX4_wishedIn_11 rfl jg2 ?_
  refine r_V2v hJ kX4_157 (rcv4 E) (c4_timeToWished l E S (K, y) hP hh hn hw3 hw) dX4_wishedIn_12 ⟨by decide, by decide⟩ (Nat.le_of_ble_eq_true rfl) ?_
  exact ret_i hF dX4_wishedIn_15 rfl rfl

set_option maxRecDepth 100000 in
set_option maxHeartbeats 1000000 in
theorem t4_wishedIn_h (l : Launch) (hst : l.stackTraces = false) (E : jE) (S : jS) (K : Nat → Nat) (y : Int64 × Nat) {h n : Int32} (h0 : h < 0 ∨ ¬ h < nI 8) : CtT l E yX4_wishedIn cX4_wishedIn 3 (some .int) 7 [.ref (ad E 11 0), .int h, .int n] (S, (K, y)) "java/lang/IndexOutOfBoundsException" (nxt (S, (K, y))) := by
  refine CtT.of hst (by decide +kernel) (Nat.le_of_ble_eq_true rfl) rfl (fun J hJ hF => ?_)
  refine r_iload_n hJ dX4_wishedIn_0 rfl jg1 ?_
  exact thrS1 hF kX4_37 (t4_needHolder l hst E S (K, y) h h0) dX4_wishedIn_1 ⟨by decide, by decide⟩ (Nat.le_of_ble_eq_true rfl)

set_option maxRecDepth 100000 in
set_option maxHeartbeats 1000000 in
theorem t4_wishedIn_n (l : Launch) (hst : l.stackTraces = false) (E : jE) (S : jS) (K : Nat → Nat) (y : Int64 × Nat) {h : Nat} (hh : h < 8) {n : Int32} (h0 : okN S n = false) : CtT l E yX4_wishedIn cX4_wishedIn 3 (some .int) 7 [.ref (ad E 11 0), .int (nI h), .int n] (S, (K, y)) "java/lang/IndexOutOfBoundsException" (nxt (S, (K, y))) := by
  refine CtT.of hst (by decide +kernel) (Nat.le_of_ble_eq_true rfl) rfl (fun J hJ hF => ?_)
  refine r_iload_n hJ dX4_wishedIn_0 rfl jg1 ?_
  refine r_S1u hJ kX4_37 (c4_needHolder l E S (K, y) (nI h) (nI_pos (by omega)) (nI_lt (by omega) (by decide))) dX4_wishedIn_1 ⟨by decide, by decide⟩ (Nat.le_of_ble_eq_true rfl) ?_
  refine r_aload_n hJ dX4_wishedIn_4 rfl jg0 ?_
  refine r_iload_n hJ dX4_wishedIn_5 rfl jg2 ?_
  exact thrV1 hF kX4_41 (rcv4 E) (t4_needNumber l hst E S (K, y) n h0) dX4_wishedIn_6 ⟨by decide, by decide⟩ (Nat.le_of_ble_eq_true rfl)
