set_option maxRecDepth 100000 in
set_option maxHeartbeats 1000000 in
theorem c1_readNumber (l : Launch) (E : jE) (S : jS) (x : jX) (Q : jO) (hQ : OI Q) (lo hi : Int32) : Ct l E yX1_readNumber cX1_readNumber 5 (some .int) 3 [.ref (ad E 8 0), .int lo, .int hi] (setO S 8 Q, x) (some (.int (rdNum Q lo hi).2)) (setO S 8 (rdNum Q lo hi).1, x) := by
  obtain ⟨ha6, ha⟩ := OI_at hQ
  refine Ct.of (by decide +kernel) (Nat.le_refl _) (Nat.le_of_ble_eq_true rfl) rfl (fun J hJ hF => ?_)
  have tail : ∀ (Q2 : jO) (v2 : Int32) (v4 : Option Value), rdNum Q lo hi = (if witQ v2 lo hi = true then Q2 else stopQ Q2, v2) → J (setO S 8 Q2, x) 100 [some (.ref (ad E 8 0)), some (.int lo), some (.int hi), some (.int v2), v4] [] := by
    intro Q2 v2 v4 hr
    refine r_iload_n hJ dX1_readNumber_100 rfl jg3 ?_
    refine r_iload_n hJ dX1_readNumber_101 rfl jg1 ?_
    refine r_iload_n hJ dX1_readNumber_102 rfl jg2 ?_
    refine r_S3v hJ kX1_66 (c1_isWithin l E (setO S 8 Q2) x v2 lo hi) dX1_readNumber_103 ⟨by decide, by decide⟩ (Nat.le_of_ble_eq_true rfl) ?_
    refine r_if_ne hJ (tgt := 114) dX1_readNumber_106 (by decide) (fun c106 => ?_) (fun c106 => ?_)
    · rw [bI_0, Bool.not_eq_false] at c106
      refine r_iload_n hJ dX1_readNumber_114 rfl jg3 ?_
      exact ret_i hF dX1_readNumber_115 (by rw [hr]) (by rw [hr]; simp only [c106, if_true, Bool.false_eq_true, if_false]; try rfl)
    · rw [bI_0] at c106
      refine r_aload_n hJ dX1_readNumber_109 rfl jg0 ?_
      refine r_iconst hJ (v := nI 1) dX1_readNumber_110 (by decide) ?_
      refine r_p1_3 hJ ⟨rfl, rfl⟩ m178 dX1_readNumber_111 ?_
      refine r_iload_n hJ dX1_readNumber_114 rfl jg3 ?_
      exact ret_i hF dX1_readNumber_115 (by rw [hr]) (by rw [hr]; simp only [c106, if_true, Bool.false_eq_true, if_false]; try rfl)
  refine r_aload_n hJ dX1_readNumber_0 rfl jg0 ?_
  refine r_aload_n hJ dX1_readNumber_1 rfl jg0 ?_
  refine r_g1_2O hJ m176 dX1_readNumber_2 ?_
  rw [ha]
  refine r_V1v hJ kX1_59 (rcv1 E) (c1_digitAt l E S x Q hQ (i := atQ Q) (by omega)) dX1_readNumber_5 ⟨by decide, by decide⟩ (Nat.le_of_ble_eq_true rfl) ?_
  refine r_istore_n hJ dX1_readNumber_8 rfl (jp3 rfl rfl) ?_
  refine r_aload_n hJ dX1_readNumber_9 rfl jg0 ?_
  refine r_g1_3O hJ m178 dX1_readNumber_10 ?_
  refine r_if_ne hJ (tgt := 30) dX1_readNumber_13 (by decide) (fun c13 => ?_) (fun c13 => ?_)
  · refine r_aload_n hJ dX1_readNumber_30 rfl jg0 ?_
    refine r_iconst hJ (v := nI 1) dX1_readNumber_31 (by decide) ?_
    refine r_p1_3 hJ ⟨rfl, rfl⟩ m178 dX1_readNumber_32 ?_
    refine r_iconst hJ (v := (-1)) dX1_readNumber_35 (by decide) ?_
    have hrd : rdNum Q lo hi = (stopQ Q, -1) := by
      simp only [rdNum]
      exact if_neg (fun q => c13 q.1)
    exact ret_i hF dX1_readNumber_36 (by rw [hrd]) (by rw [hrd]; rfl)
  · refine r_iload_n hJ dX1_readNumber_16 rfl jg3 ?_
    refine r_iconst hJ (v := (-1)) dX1_readNumber_17 (by decide) ?_
    refine r_icmp_eq hJ (tgt := 30) dX1_readNumber_18 (by decide) (fun c18 => ?_) (fun c18 => ?_)
    · refine r_aload_n hJ dX1_readNumber_30 rfl jg0 ?_
      refine r_iconst hJ (v := nI 1) dX1_readNumber_31 (by decide) ?_
      refine r_p1_3 hJ ⟨rfl, rfl⟩ m178 dX1_readNumber_32 ?_
      refine r_iconst hJ (v := (-1)) dX1_readNumber_35 (by decide) ?_
      have hrd : rdNum Q lo hi = (stopQ Q, -1) := by
        simp only [rdNum]
        exact if_neg (fun q => q.2.1 c18)
      exact ret_i hF dX1_readNumber_36 (by rw [hrd]) (by rw [hrd]; rfl)
    · refine r_iload_n hJ dX1_readNumber_21 rfl jg3 ?_
      refine r_iload_n hJ dX1_readNumber_22 rfl jg1 ?_
      refine r_iload_n hJ dX1_readNumber_23 rfl jg2 ?_
      refine r_S3v hJ kX1_62 (c1_begins l E (setO S 8 Q) x _ lo hi) dX1_readNumber_24 ⟨by decide, by decide⟩ (Nat.le_of_ble_eq_true rfl) ?_
      refine r_if_ne hJ (tgt := 37) dX1_readNumber_27 (by decide) (fun c27 => ?_) (fun c27 => ?_)
      · rw [bI_0, Bool.not_eq_false] at c27
        have hn1 := OI_next hQ (digQ_lt hQ c18)
        obtain ⟨ha7, ha8⟩ := OI_at hn1
        have hrd : ∀ r : jO × Int32, rdTwo (nextQ Q) (digQ Q (atQ Q)) lo hi = r → rdNum Q lo hi = (if witQ r.2 lo hi = true then r.1 else stopQ r.1, r.2) := by
          intro r hr
          simp only [rdNum]
          rw [if_pos ⟨c13, c18, c27⟩, hr]
        refine r_aload_n hJ dX1_readNumber_37 rfl jg0 ?_
        refine r_dup hJ dX1_readNumber_38 rfl ?_
        refine r_g1_2O hJ m176 dX1_readNumber_39 ?_
        refine r_iconst hJ (v := nI 1) dX1_readNumber_42 (by decide) ?_
        refine r_iadd hJ dX1_readNumber_43 ?_
        refine r_p1_2 hJ m176 dX1_readNumber_44 ?_
        show J (setO S 8 (nextQ Q), x) _ _ _
        refine r_aload_n hJ dX1_readNumber_47 rfl jg0 ?_
        refine r_aload_n hJ dX1_readNumber_48 rfl jg0 ?_
        refine r_g1_2O hJ m176 dX1_readNumber_49 ?_
        rw [ha8]
        refine r_V1v hJ kX1_59 (rcv1 E) (c1_digitAt l E S x (nextQ Q) hn1 (i := atQ (nextQ Q)) (by omega)) dX1_readNumber_52 ⟨by decide, by decide⟩ (Nat.le_of_ble_eq_true rfl) ?_
        refine r_istore hJ dX1_readNumber_55 (jp4 rfl rfl) ?_
        refine r_iload_n hJ dX1_readNumber_57 rfl jg3 ?_
        refine r_if_le hJ (tgt := 100) dX1_readNumber_58 (by decide) (fun c58 => ?_) (fun c58 => ?_)
        · have c58 := Int32.not_lt.mpr c58
          exact tail _ _ _ (hrd (_, _) (by unfold rdTwo; exact if_neg (fun q => c58 q.1)))
        · have c58 := Int32.not_le.mp c58
          refine r_iload hJ dX1_readNumber_61 jg4 ?_
          refine r_iconst hJ (v := (-1)) dX1_readNumber_63 (by decide) ?_
          refine r_icmp_eq hJ (tgt := 100) dX1_readNumber_64 (by decide) (fun c64 => ?_) (fun c64 => ?_)
          · exact tail _ _ _ (hrd (_, _) (by unfold rdTwo; exact if_neg (fun q => q.2.1 c64)))
          · refine r_bipush hJ (v := nI 10) dX1_readNumber_67 (by decide) ?_
            refine r_iload_n hJ dX1_readNumber_69 rfl jg3 ?_
            refine r_imul hJ dX1_readNumber_70 ?_
            refine r_iload hJ dX1_readNumber_71 jg4 ?_
            refine r_iadd hJ dX1_readNumber_73 ?_
            refine r_iload_n hJ dX1_readNumber_74 rfl jg1 ?_
            refine r_iload_n hJ dX1_readNumber_75 rfl jg2 ?_
            refine r_S3v hJ kX1_66 (c1_isWithin l E (setO S 8 (nextQ Q)) x _ lo hi) dX1_readNumber_76 ⟨by decide, by decide⟩ (Nat.le_of_ble_eq_true rfl) ?_
            refine r_if_eq hJ (tgt := 100) dX1_readNumber_79 (by decide) (fun c79 => ?_) (fun c79 => ?_)
            · rw [bI_0] at c79
              exact tail _ _ _ (hrd (_, _) (by unfold rdTwo; exact if_neg (fun q => absurd (q.2.2.symm.trans c79) (by decide))))
            · rw [bI_0, Bool.not_eq_false] at c79
              refine r_bipush hJ (v := nI 10) dX1_readNumber_82 (by decide) ?_
              refine r_iload_n hJ dX1_readNumber_84 rfl jg3 ?_
              refine r_imul hJ dX1_readNumber_85 ?_
              refine r_iload hJ dX1_readNumber_86 jg4 ?_
              refine r_iadd hJ dX1_readNumber_88 ?_
              refine r_istore_n hJ dX1_readNumber_89 rfl (jp3 rfl rfl) ?_
              refine r_aload_n hJ dX1_readNumber_90 rfl jg0 ?_
              refine r_dup hJ dX1_readNumber_91 rfl ?_
              refine r_g1_2O hJ m176 dX1_readNumber_92 ?_
              refine r_iconst hJ (v := nI 1) dX1_readNumber_95 (by decide) ?_
              refine r_iadd hJ dX1_readNumber_96 ?_
              refine r_p1_2 hJ m176 dX1_readNumber_97 ?_
              exact tail _ _ _ (hrd (_, _) (by unfold rdTwo; exact if_pos ⟨c58, c64, c79⟩))
      · rw [bI_0] at c27
        refine r_aload_n hJ dX1_readNumber_30 rfl jg0 ?_
        refine r_iconst hJ (v := nI 1) dX1_readNumber_31 (by decide) ?_
        refine r_p1_3 hJ ⟨rfl, rfl⟩ m178 dX1_readNumber_32 ?_
        refine r_iconst hJ (v := (-1)) dX1_readNumber_35 (by decide) ?_
        have hrd : rdNum Q lo hi = (stopQ Q, -1) := by
          simp only [rdNum]
          exact if_neg (fun q => absurd (q.2.2.symm.trans c27) (by decide))
        exact ret_i hF dX1_readNumber_36 (by rw [hrd]) (by rw [hrd]; rfl)
