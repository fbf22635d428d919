theorem c1_rn {l : Launch} {E : jE} {S : jS} {x : jX} {Q A : jO} {lo hi v : Int32} (hQ : OI Q) (e : rdNum Q lo hi = (A, v)) : Ct l E yX1_readNumber cX1_readNumber 5 (some .int) 3 [.ref (ad E 8 0), .int lo, .int hi] (setO S 8 Q, x) (some (.int v)) (setO S 8 A, x) := by
  have h := c1_readNumber l E S x Q hQ lo hi
  rw [e] at h
  exact h
theorem c1_rs {l : Launch} {E : jE} {S : jS} {x : jX} {Q A : jO} {s : Int32} (hQ : OI Q) (e : rdSign Q s = A) : Ct l E yX1_readSign cX1_readSign 2 none 2 [.ref (ad E 8 0), .int s] (setO S 8 Q, x) none (setO S 8 A, x) := by
  have h := c1_readSign l E S x Q hQ s
  rw [e] at h
  exact h
theorem OI_rn {Q A : jO} {lo hi v : Int32} (hQ : OI Q) (e : rdNum Q lo hi = (A, v)) : OI A := by
  have h := OI_rdNum hQ (lo := lo) (hi := hi)
  rw [e] at h
  exact h
theorem OI_rs {Q A : jO} {s : Int32} (hQ : OI Q) (hs : ¬ s = -1) (e : rdSign Q s = A) : OI A := by
  have h := OI_rdSign hQ hs
  rw [e] at h
  exact h
set_option maxRecDepth 100000 in
set_option maxHeartbeats 1000000 in
theorem c1_readOrder (l : Launch) (E : jE) (S : jS) (x : jX) (Q : jO) (hQ : OI Q) : Ct l E yX1_readOrder cX1_readOrder 1 none 4 [.ref (ad E 8 0)] (setO S 8 Q, x) none (setO S 8 (rdOrder Q), x) := by
  obtain ⟨ha6, ha⟩ := OI_at hQ
  refine Ct.of (by decide +kernel) (Nat.le_refl _) (Nat.le_of_ble_eq_true rfl) rfl (fun J hJ hF => ?_)
  obtain ⟨k, hk⟩ : ∃ k, sgA Q (atQ Q) = k := ⟨_, rfl⟩
  have hk0 : put Q 0 3 k 0 3 = k := by rw [put_app, if_pos (by decide)]
  have h0 : ∀ k : Int32, OI (put Q 0 3 k) := fun k => OI_put (by decide) hQ
  have hn : ∀ s : Int32, sgA Q (atQ Q) = s → ¬ s = -1 → OI (nextQ (put Q 0 3 s)) := fun s hs hne => OI_next (h0 s) (by
    have e : atQ (put Q 0 3 s) = atQ Q := by
      unfold atQ
      rw [put_app, if_neg (by decide)]
    rw [e]
    exact sgA_lt hQ hs hne)
  have hsg := c1_signAt l E S x Q hQ (i := atQ Q) (by omega)
  rw [hk] at hsg
  refine r_aload_n hJ dX1_readOrder_0 rfl jg0 ?_
  refine r_aload_n hJ dX1_readOrder_1 rfl jg0 ?_
  refine r_aload_n hJ dX1_readOrder_2 rfl jg0 ?_
  refine r_g1_2O hJ m176 dX1_readOrder_3 ?_
  rw [ha]
  refine r_V1v hJ kX1_39 (rcv1 E) (hsg) dX1_readOrder_6 ⟨by decide, by decide⟩ (Nat.le_of_ble_eq_true rfl) ?_
  refine r_p1_4 hJ m179 dX1_readOrder_9 ?_
  refine r_aload_n hJ dX1_readOrder_12 rfl jg0 ?_
  refine r_g1_4O hJ m179 dX1_readOrder_13 ?_
  rw [hk0]
  refine r_bipush hJ (v := nI 116) dX1_readOrder_16 (by decide) ?_
  refine r_icmp_eq hJ (tgt := 54) dX1_readOrder_18 (by decide) (fun c18 => ?_) (fun c18 => ?_)
  · subst c18
    have hk1 : nextQ (put Q 0 3 (nI 116)) 0 3 = nI 116 := by unfold nextQ; rw [put_app, if_neg (by decide), put_app, if_pos (by decide)]
    obtain ⟨A1, v1, e1⟩ : ∃ A v, rdNum (nextQ (put Q 0 3 (nI 116))) (nI 0) (nI 7) = (A, v) := ⟨_, _, rfl⟩
    have o1 := OI_rn (hn _ hk (by decide)) e1
    have p1 : OI (put A1 0 4 v1) := OI_put (by decide) o1
    obtain ⟨A2, e2⟩ : ∃ A, rdSign (put A1 0 4 v1) (nI 42) = A := ⟨_, rfl⟩
    have o2 := OI_rs p1 (by decide) e2
    obtain ⟨A3, v3, e3⟩ : ∃ A v, rdNum (A2) (nI 1) (nI 99) = (A, v) := ⟨_, _, rfl⟩
    have o3 := OI_rn o2 e3
    have p3 : OI (put A3 0 6 v3) := OI_put (by decide) o3
    have hfin : rdOrder Q = put A3 0 6 v3 := by
      simp only [rdOrder, hk]
      rw [if_pos trivial]
      simp only [e1, e2, e3]
    refine r_aload_n hJ dX1_readOrder_54 rfl jg0 ?_
    refine r_dup hJ dX1_readOrder_55 rfl ?_
    refine r_g1_2O hJ m176 dX1_readOrder_56 ?_
    refine r_iconst hJ (v := nI 1) dX1_readOrder_59 (by decide) ?_
    refine r_iadd hJ dX1_readOrder_60 ?_
    refine r_p1_2 hJ m176 dX1_readOrder_61 ?_
    show J (setO S 8 (nextQ (put Q 0 3 (nI 116))), x) _ _ _
    refine r_aload_n hJ dX1_readOrder_64 rfl jg0 ?_
    refine r_g1_4O hJ m179 dX1_readOrder_65 ?_
    rw [hk1]
    refine r_lookup hJ (off := 36) (tgt := 104) dX1_readOrder_68 (by decide) (by decide) (by decide) ?_
    refine r_aload_n hJ dX1_readOrder_104 rfl jg0 ?_
    refine r_aload_n hJ dX1_readOrder_105 rfl jg0 ?_
    refine r_iconst hJ (v := nI 0) dX1_readOrder_106 (by decide) ?_
    refine r_bipush hJ (v := nI 7) dX1_readOrder_107 (by decide) ?_
    refine r_V2v hJ kX1_46 (rcv1 E) (c1_rn (hn _ hk (by decide)) e1) dX1_readOrder_109 ⟨by decide, by decide⟩ (Nat.le_of_ble_eq_true rfl) ?_
    refine r_p1_5 hJ m181 dX1_readOrder_112 ?_
    refine r_aload_n hJ dX1_readOrder_115 rfl jg0 ?_
    refine r_bipush hJ (v := nI 42) dX1_readOrder_116 (by decide) ?_
    refine r_V1u hJ kX1_32 (rcv1 E) (c1_rs p1 e2) dX1_readOrder_118 ⟨by decide, by decide⟩ (Nat.le_of_ble_eq_true rfl) ?_
    refine r_aload_n hJ dX1_readOrder_121 rfl jg0 ?_
    refine r_aload_n hJ dX1_readOrder_122 rfl jg0 ?_
    refine r_iconst hJ (v := nI 1) dX1_readOrder_123 (by decide) ?_
    refine r_bipush hJ (v := nI 99) dX1_readOrder_124 (by decide) ?_
    refine r_V2v hJ kX1_46 (rcv1 E) (c1_rn o2 e3) dX1_readOrder_126 ⟨by decide, by decide⟩ (Nat.le_of_ble_eq_true rfl) ?_
    refine r_p1_7 hJ m185 dX1_readOrder_129 ?_
    refine r_goto hJ (tgt := 245) dX1_readOrder_132 (by decide) ?_
    exact ret_v hF dX1_readOrder_245 rfl (by rw [hfin])
  · refine r_aload_n hJ dX1_readOrder_21 rfl jg0 ?_
    refine r_g1_4O hJ m179 dX1_readOrder_22 ?_
    rw [hk0]
    refine r_bipush hJ (v := nI 119) dX1_readOrder_25 (by decide) ?_
    refine r_icmp_eq hJ (tgt := 54) dX1_readOrder_27 (by decide) (fun c27 => ?_) (fun c27 => ?_)
    · subst c27
      have hk1 : nextQ (put Q 0 3 (nI 119)) 0 3 = nI 119 := by unfold nextQ; rw [put_app, if_neg (by decide), put_app, if_pos (by decide)]
      obtain ⟨A1, v1, e1⟩ : ∃ A v, rdNum (nextQ (put Q 0 3 (nI 119))) (nI 0) (nI 7) = (A, v) := ⟨_, _, rfl⟩
      have o1 := OI_rn (hn _ hk (by decide)) e1
      have p1 : OI (put A1 0 4 v1) := OI_put (by decide) o1
      obtain ⟨A2, e2⟩ : ∃ A, rdSign (put A1 0 4 v1) (nI 64) = A := ⟨_, rfl⟩
      have o2 := OI_rs p1 (by decide) e2
      obtain ⟨A3, v3, e3⟩ : ∃ A v, rdNum (A2) (nI 0) (nI 63) = (A, v) := ⟨_, _, rfl⟩
      have o3 := OI_rn o2 e3
      have p3 : OI (put A3 0 5 v3) := OI_put (by decide) o3
      obtain ⟨A4, e4⟩ : ∃ A, rdSign (put A3 0 5 v3) (nI 42) = A := ⟨_, rfl⟩
      have o4 := OI_rs p3 (by decide) e4
      obtain ⟨A5, v5, e5⟩ : ∃ A v, rdNum (A4) (nI 1) (nI 99) = (A, v) := ⟨_, _, rfl⟩
      have o5 := OI_rn o4 e5
      have p5 : OI (put A5 0 6 v5) := OI_put (by decide) o5
      have hfin : rdOrder Q = put A5 0 6 v5 := by
        simp only [rdOrder, hk]
        rw [if_neg (by decide), if_pos trivial]
        simp only [e1, e2, e3, e4, e5]
      refine r_aload_n hJ dX1_readOrder_54 rfl jg0 ?_
      refine r_dup hJ dX1_readOrder_55 rfl ?_
      refine r_g1_2O hJ m176 dX1_readOrder_56 ?_
      refine r_iconst hJ (v := nI 1) dX1_readOrder_59 (by decide) ?_
      refine r_iadd hJ dX1_readOrder_60 ?_
      refine r_p1_2 hJ m176 dX1_readOrder_61 ?_
      show J (setO S 8 (nextQ (put Q 0 3 (nI 119))), x) _ _ _
      refine r_aload_n hJ dX1_readOrder_64 rfl jg0 ?_
      refine r_g1_4O hJ m179 dX1_readOrder_65 ?_
      rw [hk1]
      refine r_lookup hJ (off := 67) (tgt := 135) dX1_readOrder_68 (by decide) (by decide) (by decide) ?_
      refine r_aload_n hJ dX1_readOrder_135 rfl jg0 ?_
      refine r_aload_n hJ dX1_readOrder_136 rfl jg0 ?_
      refine r_iconst hJ (v := nI 0) dX1_readOrder_137 (by decide) ?_
      refine r_bipush hJ (v := nI 7) dX1_readOrder_138 (by decide) ?_
      refine r_V2v hJ kX1_46 (rcv1 E) (c1_rn (hn _ hk (by decide)) e1) dX1_readOrder_140 ⟨by decide, by decide⟩ (Nat.le_of_ble_eq_true rfl) ?_
      refine r_p1_5 hJ m181 dX1_readOrder_143 ?_
      refine r_aload_n hJ dX1_readOrder_146 rfl jg0 ?_
      refine r_bipush hJ (v := nI 64) dX1_readOrder_147 (by decide) ?_
      refine r_V1u hJ kX1_32 (rcv1 E) (c1_rs p1 e2) dX1_readOrder_149 ⟨by decide, by decide⟩ (Nat.le_of_ble_eq_true rfl) ?_
      refine r_aload_n hJ dX1_readOrder_152 rfl jg0 ?_
      refine r_aload_n hJ dX1_readOrder_153 rfl jg0 ?_
      refine r_iconst hJ (v := nI 0) dX1_readOrder_154 (by decide) ?_
      refine r_bipush hJ (v := nI 63) dX1_readOrder_155 (by decide) ?_
      refine r_V2v hJ kX1_46 (rcv1 E) (c1_rn o2 e3) dX1_readOrder_157 ⟨by decide, by decide⟩ (Nat.le_of_ble_eq_true rfl) ?_
      refine r_p1_6 hJ m183 dX1_readOrder_160 ?_
      refine r_aload_n hJ dX1_readOrder_163 rfl jg0 ?_
      refine r_bipush hJ (v := nI 42) dX1_readOrder_164 (by decide) ?_
      refine r_V1u hJ kX1_32 (rcv1 E) (c1_rs p3 e4) dX1_readOrder_166 ⟨by decide, by decide⟩ (Nat.le_of_ble_eq_true rfl) ?_
      refine r_aload_n hJ dX1_readOrder_169 rfl jg0 ?_
      refine r_aload_n hJ dX1_readOrder_170 rfl jg0 ?_
      refine r_iconst hJ (v := nI 1) dX1_readOrder_171 (by decide) ?_
      refine r_bipush hJ (v := nI 99) dX1_readOrder_172 (by decide) ?_
      refine r_V2v hJ kX1_46 (rcv1 E) (c1_rn o4 e5) dX1_readOrder_174 ⟨by decide, by decide⟩ (Nat.le_of_ble_eq_true rfl) ?_
      refine r_p1_7 hJ m185 dX1_readOrder_177 ?_
      refine r_goto hJ (tgt := 245) dX1_readOrder_180 (by decide) ?_
      exact ret_v hF dX1_readOrder_245 rfl (by rw [hfin])
    · refine r_aload_n hJ dX1_readOrder_30 rfl jg0 ?_
      refine r_g1_4O hJ m179 dX1_readOrder_31 ?_
      rw [hk0]
      refine r_bipush hJ (v := nI 103) dX1_readOrder_34 (by decide) ?_
      refine r_icmp_eq hJ (tgt := 54) dX1_readOrder_36 (by decide) (fun c36 => ?_) (fun c36 => ?_)
      · subst c36
        have hk1 : nextQ (put Q 0 3 (nI 103)) 0 3 = nI 103 := by unfold nextQ; rw [put_app, if_neg (by decide), put_app, if_pos (by decide)]
        obtain ⟨A1, v1, e1⟩ : ∃ A v, rdNum (nextQ (put Q 0 3 (nI 103))) (nI 0) (nI 7) = (A, v) := ⟨_, _, rfl⟩
        have o1 := OI_rn (hn _ hk (by decide)) e1
        have p1 : OI (put A1 0 4 v1) := OI_put (by decide) o1
        obtain ⟨A2, e2⟩ : ∃ A, rdSign (put A1 0 4 v1) (nI 58) = A := ⟨_, rfl⟩
        have o2 := OI_rs p1 (by decide) e2
        obtain ⟨A3, v3, e3⟩ : ∃ A v, rdNum (A2) (nI 0) (nI 63) = (A, v) := ⟨_, _, rfl⟩
        have o3 := OI_rn o2 e3
        have p3 : OI (put A3 0 5 v3) := OI_put (by decide) o3
        obtain ⟨A4, e4⟩ : ∃ A, rdSign (put A3 0 5 v3) (nI 45) = A := ⟨_, rfl⟩
        have o4 := OI_rs p3 (by decide) e4
        obtain ⟨A5, v5, e5⟩ : ∃ A v, rdNum (A4) (A4 0 5) (nI 63) = (A, v) := ⟨_, _, rfl⟩
        have o5 := OI_rn o4 e5
        have p5 : OI (put A5 0 6 v5) := OI_put (by decide) o5
        have hfin : rdOrder Q = put A5 0 6 v5 := by
          simp only [rdOrder, hk]
          rw [if_neg (by decide), if_neg (by decide), if_pos trivial]
          simp only [e1, e2, e3, e4, e5]
        refine r_aload_n hJ dX1_readOrder_54 rfl jg0 ?_
        refine r_dup hJ dX1_readOrder_55 rfl ?_
        refine r_g1_2O hJ m176 dX1_readOrder_56 ?_
        refine r_iconst hJ (v := nI 1) dX1_readOrder_59 (by decide) ?_
        refine r_iadd hJ dX1_readOrder_60 ?_
        refine r_p1_2 hJ m176 dX1_readOrder_61 ?_
        show J (setO S 8 (nextQ (put Q 0 3 (nI 103))), x) _ _ _
        refine r_aload_n hJ dX1_readOrder_64 rfl jg0 ?_
        refine r_g1_4O hJ m179 dX1_readOrder_65 ?_
        rw [hk1]
        refine r_lookup hJ (off := 115) (tgt := 183) dX1_readOrder_68 (by decide) (by decide) (by decide) ?_
        refine r_aload_n hJ dX1_readOrder_183 rfl jg0 ?_
        refine r_aload_n hJ dX1_readOrder_184 rfl jg0 ?_
        refine r_iconst hJ (v := nI 0) dX1_readOrder_185 (by decide) ?_
        refine r_bipush hJ (v := nI 7) dX1_readOrder_186 (by decide) ?_
        refine r_V2v hJ kX1_46 (rcv1 E) (c1_rn (hn _ hk (by decide)) e1) dX1_readOrder_188 ⟨by decide, by decide⟩ (Nat.le_of_ble_eq_true rfl) ?_
        refine r_p1_5 hJ m181 dX1_readOrder_191 ?_
        refine r_aload_n hJ dX1_readOrder_194 rfl jg0 ?_
        refine r_bipush hJ (v := nI 58) dX1_readOrder_195 (by decide) ?_
        refine r_V1u hJ kX1_32 (rcv1 E) (c1_rs p1 e2) dX1_readOrder_197 ⟨by decide, by decide⟩ (Nat.le_of_ble_eq_true rfl) ?_
        refine r_aload_n hJ dX1_readOrder_200 rfl jg0 ?_
        refine r_aload_n hJ dX1_readOrder_201 rfl jg0 ?_
        refine r_iconst hJ (v := nI 0) dX1_readOrder_202 (by decide) ?_
        refine r_bipush hJ (v := nI 63) dX1_readOrder_203 (by decide) ?_
        refine r_V2v hJ kX1_46 (rcv1 E) (c1_rn o2 e3) dX1_readOrder_205 ⟨by decide, by decide⟩ (Nat.le_of_ble_eq_true rfl) ?_
        refine r_p1_6 hJ m183 dX1_readOrder_208 ?_
        refine r_aload_n hJ dX1_readOrder_211 rfl jg0 ?_
        refine r_bipush hJ (v := nI 45) dX1_readOrder_212 (by decide) ?_
        refine r_V1u hJ kX1_32 (rcv1 E) (c1_rs p3 e4) dX1_readOrder_214 ⟨by decide, by decide⟩ (Nat.le_of_ble_eq_true rfl) ?_
        refine r_aload_n hJ dX1_readOrder_217 rfl jg0 ?_
        refine r_aload_n hJ dX1_readOrder_218 rfl jg0 ?_
        refine r_aload_n hJ dX1_readOrder_219 rfl jg0 ?_
        refine r_g1_6O hJ m183 dX1_readOrder_220 ?_
        refine r_bipush hJ (v := nI 63) dX1_readOrder_223 (by decide) ?_
        refine r_V2v hJ kX1_46 (rcv1 E) (c1_rn o4 e5) dX1_readOrder_225 ⟨by decide, by decide⟩ (Nat.le_of_ble_eq_true rfl) ?_
        refine r_p1_7 hJ m185 dX1_readOrder_228 ?_
        refine r_goto hJ (tgt := 245) dX1_readOrder_231 (by decide) ?_
        exact ret_v hF dX1_readOrder_245 rfl (by rw [hfin])
      · refine r_aload_n hJ dX1_readOrder_39 rfl jg0 ?_
        refine r_g1_4O hJ m179 dX1_readOrder_40 ?_
        rw [hk0]
        refine r_bipush hJ (v := nI 100) dX1_readOrder_43 (by decide) ?_
        refine r_icmp_eq hJ (tgt := 54) dX1_readOrder_45 (by decide) (fun c45 => ?_) (fun c45 => ?_)
        · subst c45
          have hk1 : nextQ (put Q 0 3 (nI 100)) 0 3 = nI 100 := by unfold nextQ; rw [put_app, if_neg (by decide), put_app, if_pos (by decide)]
          obtain ⟨A1, v1, e1⟩ : ∃ A v, rdNum (nextQ (put Q 0 3 (nI 100))) (nI 1) (nI 99) = (A, v) := ⟨_, _, rfl⟩
          have o1 := OI_rn (hn _ hk (by decide)) e1
          have p1 : OI (put A1 0 6 v1) := OI_put (by decide) o1
          have hfin : rdOrder Q = put A1 0 6 v1 := by
            simp only [rdOrder, hk]
            rw [if_neg (by decide), if_neg (by decide), if_neg (by decide), if_pos trivial]
            simp only [e1]
          refine r_aload_n hJ dX1_readOrder_54 rfl jg0 ?_
          refine r_dup hJ dX1_readOrder_55 rfl ?_
          refine r_g1_2O hJ m176 dX1_readOrder_56 ?_
          refine r_iconst hJ (v := nI 1) dX1_readOrder_59 (by decide) ?_
          refine r_iadd hJ dX1_readOrder_60 ?_
          refine r_p1_2 hJ m176 dX1_readOrder_61 ?_
          show J (setO S 8 (nextQ (put Q 0 3 (nI 100))), x) _ _ _
          refine r_aload_n hJ dX1_readOrder_64 rfl jg0 ?_
          refine r_g1_4O hJ m179 dX1_readOrder_65 ?_
          rw [hk1]
          refine r_lookup hJ (off := 166) (tgt := 234) dX1_readOrder_68 (by decide) (by decide) (by decide) ?_
          refine r_aload_n hJ dX1_readOrder_234 rfl jg0 ?_
          refine r_aload_n hJ dX1_readOrder_235 rfl jg0 ?_
          refine r_iconst hJ (v := nI 1) dX1_readOrder_236 (by decide) ?_
          refine r_bipush hJ (v := nI 99) dX1_readOrder_237 (by decide) ?_
          refine r_V2v hJ kX1_46 (rcv1 E) (c1_rn (hn _ hk (by decide)) e1) dX1_readOrder_239 ⟨by decide, by decide⟩ (Nat.le_of_ble_eq_true rfl) ?_
          refine r_p1_7 hJ m185 dX1_readOrder_242 ?_
          exact ret_v hF dX1_readOrder_245 rfl (by rw [hfin])
        · refine r_aload_n hJ dX1_readOrder_48 rfl jg0 ?_
          refine r_iconst hJ (v := nI 1) dX1_readOrder_49 (by decide) ?_
          refine r_p1_3 hJ ⟨rfl, rfl⟩ m178 dX1_readOrder_50 ?_
          exact ret_v hF dX1_readOrder_53 rfl (by simp only [rdOrder, hk]; rw [if_neg c18, if_neg c27, if_neg c36, if_neg c45]; rfl)

set_option maxRecDepth 100000 in
set_option maxHeartbeats 1000000 in
theorem c1_readNext (l : Launch) (E : jE) (S : jS) (x : jX) (Q : jO) (hQ : OI Q) : Ct l E yX1_readNext cX1_readNext 1 none 5 [.ref (ad E 8 0)] (setO S 8 Q, x) none (setO S 8 (rdNext Q), x) := by
  refine Ct.of (by decide +kernel) (Nat.le_refl _) (Nat.le_of_ble_eq_true rfl) rfl (fun J hJ hF => ?_)
  have tail : ∀ Q1 : jO, OI Q1 → rdNext Q = (if Q1 0 2 = 0 then rdOrder Q1 else Q1) → J (setO S 8 Q1, x) 13 [some (.ref (ad E 8 0))] [] := by
    intro Q1 hQ1 hr
    refine r_aload_n hJ dX1_readNext_13 rfl jg0 ?_
    refine r_g1_3O hJ m178 dX1_readNext_14 ?_
    refine r_if_ne hJ (tgt := 24) dX1_readNext_17 (by decide) (fun c17 => ?_) (fun c17 => ?_)
    · exact ret_v hF dX1_readNext_24 rfl (by rw [hr, if_neg c17])
    · refine r_aload_n hJ dX1_readNext_20 rfl jg0 ?_
      refine r_V0u hJ kX1_36 (rcv1 E) (c1_readOrder l E S x Q1 hQ1) dX1_readNext_21 ⟨by decide, by decide⟩ (Nat.le_of_ble_eq_true rfl) ?_
      exact ret_v hF dX1_readNext_24 rfl (by rw [hr, if_pos c17])
  refine r_aload_n hJ dX1_readNext_0 rfl jg0 ?_
  refine r_g1_2O hJ m176 dX1_readNext_1 ?_
  refine r_if_le hJ (tgt := 13) dX1_readNext_4 (by decide) (fun c4 => ?_) (fun c4 => ?_)
  · exact tail _ hQ (by simp only [rdNext]; rw [if_neg (Int32.not_lt.mpr c4)])
  · refine r_aload_n hJ dX1_readNext_7 rfl jg0 ?_
    refine r_bipush hJ (v := nI 59) dX1_readNext_8 (by decide) ?_
    refine r_V1u hJ kX1_32 (rcv1 E) (c1_readSign l E S x Q hQ (nI 59)) dX1_readNext_10 ⟨by decide, by decide⟩ (Nat.le_of_ble_eq_true rfl) ?_
    exact tail _ (OI_rdSign hQ (by decide)) (by simp only [rdNext]; rw [if_pos (Int32.not_le.mp c4)])

set_option maxRecDepth 100000 in
set_option maxHeartbeats 1000000 in
theorem c1_readAll (l : Launch) (E : jE) (S : jS) (x : jX) (Q : jO) (hQ : OI Q) : Ct l E yX1_readAll cX1_readAll 2 (some .boolean) 6 [.ref (ad E 8 0)] (setO S 8 Q, x) (some (.int (bI (decide (rdAll Q 0 2 = 0))))) (setO S 8 (rdAll Q), x) := by
  refine Ct.of (by decide +kernel) (Nat.le_refl _) (Nat.le_of_ble_eq_true rfl) rfl (fun J hJ hF => ?_)
  have fin : ∀ v1 : Option Value, J (setO S 8 (rdAll Q), x) 44 [some (.ref (ad E 8 0)), v1] [] := by
    intro v1
    refine r_aload_n hJ dX1_readAll_44 rfl jg0 ?_
    refine r_g1_3O hJ m178 dX1_readAll_45 ?_
    refine r_if_ne hJ (tgt := 55) dX1_readAll_48 (by decide) (fun c48 => ?_) (fun c48 => ?_)
    · refine r_iconst hJ (v := nI 0) dX1_readAll_55 (by decide) ?_
      exact ret_z hF dX1_readAll_56 (by decide) (by simp [bI, nI0, nI1, c48]) rfl
    · refine r_iconst hJ (v := nI 1) dX1_readAll_51 (by decide) ?_
      refine r_goto hJ (tgt := 56) dX1_readAll_52 (by decide) ?_
      exact ret_z hF dX1_readAll_56 (by decide) (by simp [bI, nI0, nI1, c48]) rfl
  have loop : ∀ (k i : Nat) (Q' : jO), i + k = 60 → OI Q' → rdLoop k Q' = rdAll Q → J (setO S 8 Q', x) 10 [some (.ref (ad E 8 0)), some (.int (nI i))] [] := by
    intro k
    induction k with
    | zero =>
      intro i Q' hi hQ' he
      obtain rfl : i = 60 := by omega
      have he2 : Q' = rdAll Q := he
      refine r_iload_n hJ dX1_readAll_10 rfl jg1 ?_
      refine r_bipush hJ (v := nI 60) dX1_readAll_11 (by decide) ?_
      refine r_icmp_ge hJ (tgt := 44) dX1_readAll_13 (by decide) (fun c13 => ?_) (fun c13 => ?_)
      · rw [he2]
        exact fin _
      · exact absurd (nI_le (by omega) (by omega)) c13
    | succ k ih =>
      intro i Q' hi hQ' he
      refine r_iload_n hJ dX1_readAll_10 rfl jg1 ?_
      refine r_bipush hJ (v := nI 60) dX1_readAll_11 (by decide) ?_
      refine r_icmp_ge hJ (tgt := 44) dX1_readAll_13 (by decide) (fun c13 => ?_) (fun c13 => ?_)
      · exact absurd c13 (nI_ge (by omega) (by omega))
      · refine r_aload_n hJ dX1_readAll_16 rfl jg0 ?_
        refine r_g1_3O hJ m178 dX1_readAll_17 ?_
        refine r_if_ne hJ (tgt := 44) dX1_readAll_20 (by decide) (fun c20 => ?_) (fun c20 => ?_)
        · rw [rdLoop, if_neg (fun q => c20 q.1)] at he
          rw [he]
          exact fin _
        · refine r_aload_n hJ dX1_readAll_23 rfl jg0 ?_
          refine r_g1_2O hJ m176 dX1_readAll_24 ?_
          refine r_aload_n hJ dX1_readAll_27 rfl jg0 ?_
          refine r_g1_1O hJ m174 dX1_readAll_28 ?_
          refine r_icmp_ge hJ (tgt := 44) dX1_readAll_31 (by decide) (fun c31 => ?_) (fun c31 => ?_)
          · rw [rdLoop, if_neg (fun q => absurd c31 (Int32.not_le.mpr q.2))] at he
            rw [he]
            exact fin _
          · refine r_aload_n hJ dX1_readAll_34 rfl jg0 ?_
            refine r_V0u hJ kX1_29 (rcv1 E) (c1_readNext l E S x Q' hQ') dX1_readAll_35 ⟨by decide, by decide⟩ (Nat.le_of_ble_eq_true rfl) ?_
            refine r_iinc hJ dX1_readAll_38 jg1 (ii1 _) (jp1 rfl rfl) ?_
            refine r_goto hJ (tgt := 10) dX1_readAll_41 (by decide) ?_
            exact ih (i + 1) _ (by omega) (OI_rdNext hQ') (by rw [← he, rdLoop, if_pos ⟨c20, Int32.not_le.mp c31⟩])
  refine r_aload_n hJ dX1_readAll_0 rfl jg0 ?_
  refine r_V0u hJ kX1_26 (rcv1 E) (c1_rewind l E S x Q) dX1_readAll_1 ⟨by decide, by decide⟩ (Nat.le_of_ble_eq_true rfl) ?_
  refine r_aload_n hJ dX1_readAll_4 rfl jg0 ?_
  refine r_V0u hJ kX1_29 (rcv1 E) (c1_readNext l E S x _ (OI_rew hQ)) dX1_readAll_5 ⟨by decide, by decide⟩ (Nat.le_of_ble_eq_true rfl) ?_
  refine r_iconst hJ (v := nI 0) dX1_readAll_8 (by decide) ?_
  refine r_istore_n hJ dX1_readAll_9 rfl (jp1 rfl rfl) ?_
  exact loop 60 0 _ (by omega) (OI_rdNext (OI_rew hQ)) rfl
