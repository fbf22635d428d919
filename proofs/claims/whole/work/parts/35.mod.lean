/-! the model's reading of the text: T 0 1 typed, T 0 3 at, T 0 4 isFault, T 0 5 value, T 0 6 ordered; row 4 the text, row 5 the orders -/
def mAt (T : jO) (lo hi : Int32) : Bool := decide (T 0 3 < T 0 1) && witQ (T 4 (toN (T 0 3))) lo hi
def mStop (T : jO) : jO := put T 0 4 (bI (decide (T 0 3 < T 0 1)))
def mNext (T : jO) : jO := put T 0 3 (T 0 3 + nI 1)
def mSign (T : jO) (s : Int32) : jO × Bool := if mAt T s s = true then (mNext T, true) else (mStop T, false)
def mDig (T : jO) : Int32 := T 4 (toN (T 0 3)) - nI 48
def mWh1 (T : jO) : jO := mNext (put T 0 5 (mDig T))
def mTwo (T : jO) : Int32 := nI 10 * T 0 5 + T 4 (toN (T 0 3)) - nI 48
def mWhole (T : jO) (lo hi : Int32) : jO × Bool :=
  if mAt T (nI 48) (nI 57) = true ∧ begQ (mDig T) lo hi = true then
    if 0 < mDig T ∧ mAt (mWh1 T) (nI 48) (nI 57) = true ∧ witQ (mTwo (mWh1 T)) lo hi = true then (mNext (put (mWh1 T) 0 5 (mTwo (mWh1 T))), true)
    else if witQ (mDig T) lo hi = true then (mWh1 T, true) else (mStop (mWh1 T), false)
  else (mStop T, false)
def mTold (T : jO) (j : Nat) (lo hi : Int32) : jO × Bool := (put (mWhole T lo hi).1 5 (4 * toN (T 0 6) + j) ((mWhole T lo hi).1 0 5), (mWhole T lo hi).2)
def andB (p : jO × Bool) (f : jO → jO × Bool) : jO × Bool := if p.2 = true then f p.1 else (p.1, false)
def mOrder (T : jO) : jO × Bool :=
  if (mAt T (nI 116) (nI 116) || mAt T (nI 119) (nI 119) || mAt T (nI 103) (nI 103) || mAt T (nI 100) (nI 100)) = true then
    let c := T 4 (toN (T 0 3))
    let T1 := mNext (put T 5 (4 * toN (T 0 6)) c)
    if c = nI 100 then mTold T1 1 (nI 1) (nI 99)
    else andB (mTold T1 1 (nI 0) (nI 7)) fun A =>
      if c = nI 116 then andB (mSign A (nI 42)) fun B => mTold B 2 (nI 1) (nI 99)
      else if c = nI 119 then andB (mSign A (nI 64)) fun B => andB (mTold B 2 (nI 0) (nI 63)) fun C => andB (mSign C (nI 42)) fun D => mTold D 3 (nI 1) (nI 99)
      else andB (mSign A (nI 58)) fun B => andB (mTold B 2 (nI 0) (nI 63)) fun C => andB (mSign C (nI 45)) fun D => mTold D 3 (D 5 (4 * toN (D 0 6) + 2)) (nI 63)
  else (mStop T, false)
abbrev aT (T : jO) : Nat := toN (T 0 3)
abbrev yT (T : jO) : Nat := toN (T 0 1)
def TI (T : jO) (k : Nat) : Prop := T 0 1 = nI (yT T) ∧ yT T ≤ 60 ∧ T 0 3 = nI (aT T) ∧ aT T ≤ yT T ∧ T 0 6 = nI k ∧ k ≤ 20
/-- T' has gone on from T by c signs at least -/
def GR (T T' : jO) (k c : Nat) : Prop := TI T' k ∧ aT T + c ≤ aT T' ∧ T' 0 1 = T 0 1 ∧ T' 4 = T 4 ∧ T' 1 = T 1 ∧ T' 2 = T 2 ∧ T' 3 = T 3 ∧ T' 0 0 = T 0 0 ∧ T' 0 2 = T 0 2
theorem GR.rf {T : jO} {k : Nat} (h : TI T k) : GR T T k 0 := ⟨h, Nat.le_refl _, rfl, rfl, rfl, rfl, rfl, rfl, rfl⟩
theorem GR.tr {T T' T'' : jO} {k c c' : Nat} (h : GR T T' k c) (h' : GR T' T'' k c') : GR T T'' k (c + c') := by
  obtain ⟨-, a1, a2, a3, a4, a5, a6, a7, a8⟩ := h
  obtain ⟨b0, b1, b2, b3, b4, b5, b6, b7, b8⟩ := h'
  exact ⟨b0, by omega, b2.trans a2, b3.trans a3, b4.trans a4, b5.trans a5, b6.trans a6, b7.trans a7, b8.trans a8⟩
theorem GR.le {T T' : jO} {k c c' : Nat} (h : GR T T' k c) (hc : c' ≤ c) : GR T T' k c' := by
  obtain ⟨a0, a1, a2⟩ := h
  exact ⟨a0, by omega, a2⟩
theorem pfa {T : jO} {i i' : Nat} {v : Int32} (h : i' ≠ i) : put T 0 i v 0 i' = T 0 i' := by rw [put_app, if_neg (by omega)]
theorem GR_f {T : jO} {k i : Nat} {v : Int32} (hi : 3 < i ∧ i ≠ 6) (h : TI T k) : GR T (put T 0 i v) k 0 := by
  have e1 : put T 0 i v 0 1 = T 0 1 := pfa (by omega)
  have e3 : put T 0 i v 0 3 = T 0 3 := pfa (by omega)
  have e6 : put T 0 i v 0 6 = T 0 6 := pfa (by omega)
  refine ⟨?_, ?_, e1, put_ne (by decide), put_ne (by decide), put_ne (by decide), put_ne (by decide), pfa (by omega), pfa (by omega)⟩
  · unfold TI yT aT
    rw [e1, e3, e6]
    exact h
  · unfold aT
    rw [e3]
    exact Nat.le_refl _
theorem GR_o {T : jO} {k i : Nat} {v : Int32} (h : TI T k) : GR T (put T 5 i v) k 0 :=
  ⟨h, Nat.le_refl _, rfl, rfl, rfl, rfl, rfl, rfl, rfl⟩
theorem GR_next {T : jO} {k : Nat} (h : TI T k) (hl : T 0 3 < T 0 1) : GR T (mNext T) k 1 := by
  obtain ⟨h1, h2, h3, h4, h5, h6⟩ := h
  have hlt : aT T < yT T := by
    rw [h1, h3] at hl
    exact (nI_ltI (by omega) (by omega)).mp hl
  have e1 : (mNext T) 0 1 = T 0 1 := pfa (by decide)
  have e3 : (mNext T) 0 3 = nI (aT T + 1) := by
    show put T 0 3 (T 0 3 + nI 1) 0 3 = _
    rw [put_at, if_pos rfl, ← nI_add, ← h3]
  have e6 : (mNext T) 0 6 = T 0 6 := pfa (by decide)
  refine ⟨?_, ?_, e1, rfl, rfl, rfl, rfl, pfa (by decide), pfa (by decide)⟩
  · unfold TI yT aT
    rw [e1, e3, e6, toN_nI (by omega)]
    exact ⟨h1, h2, rfl, hlt, h5, h6⟩
  · unfold aT
    rw [e3, toN_nI (by omega)]
    exact Nat.le_refl _
theorem mAt_lt {T : jO} {lo hi : Int32} (h : mAt T lo hi = true) : T 0 3 < T 0 1 := by
  unfold mAt at h
  rw [Bool.and_eq_true, decide_eq_true_iff] at h
  exact h.1
theorem GR_stop {T : jO} {k : Nat} (h : TI T k) : GR T (mStop T) k 0 := GR_f (by decide) h
/-- what a step leaves -/
def SR (T : jO) (p : jO × Bool) (k c : Nat) : Prop := GR T p.1 k 0 ∧ (p.2 = true → GR T p.1 k c)
theorem SR_sign {T : jO} {k : Nat} {s : Int32} (h : TI T k) : SR T (mSign T s) k 1 := by
  unfold mSign
  split
  · rename_i h1
    exact ⟨(GR_next h (mAt_lt h1)).le (by decide), fun _ => GR_next h (mAt_lt h1)⟩
  · exact ⟨GR_stop h, fun q => Bool.noConfusion q⟩
theorem SR_whole {T : jO} {k : Nat} {lo hi : Int32} (h : TI T k) : SR T (mWhole T lo hi) k 1 := by
  unfold mWhole
  split
  · rename_i h1
    have g1 : GR T (mWh1 T) k 1 := (GR_f (by decide) h).tr (GR_next (GR_f (by decide) h).1 (by have := mAt_lt h1.1; rwa [pfa (by decide), pfa (by decide)]))
    split
    · rename_i h2
      have g2 : GR T (mNext (put (mWh1 T) 0 5 (mTwo (mWh1 T)))) k 1 := (g1.tr ((GR_f (by decide) g1.1).tr (GR_next (GR_f (by decide) g1.1).1 (by have := mAt_lt h2.2.1; rwa [pfa (by decide), pfa (by decide)])))).le (by omega)
      exact ⟨g2.le (by decide), fun _ => g2⟩
    · split
      · exact ⟨g1.le (by decide), fun _ => g1⟩
      · exact ⟨(g1.tr (GR_stop g1.1)).le (by decide), fun q => Bool.noConfusion q⟩
  · exact ⟨GR_stop h, fun q => Bool.noConfusion q⟩
theorem SR_told {T : jO} {k j : Nat} {lo hi : Int32} (h : TI T k) : SR T (mTold T j lo hi) k 1 := by
  obtain ⟨h1, h2⟩ := SR_whole (lo := lo) (hi := hi) h
  unfold mTold
  exact ⟨h1.tr (GR_o h1.1), fun q => (h2 q).tr (GR_o (h2 q).1)⟩
theorem SR_and {T : jO} {p : jO × Bool} {f : jO → jO × Bool} {k c c' : Nat} (h : SR T p k c) (hf : TI p.1 k → SR p.1 (f p.1) k c') : SR T (andB p f) k (c + c') := by
  unfold andB
  split
  · rename_i h1
    obtain ⟨g1, g2⟩ := hf h.1.1
    exact ⟨h.1.tr g1, fun q => (h.2 h1).tr (g2 q)⟩
  · exact ⟨h.1, fun q => Bool.noConfusion q⟩
theorem SR.lt {T T' : jO} {p : jO × Bool} {k c c' : Nat} (h : GR T T' k c) (h' : SR T' p k c') : SR T p k (c + c') := ⟨(h.tr h'.1).le (by omega), fun q => h.tr (h'.2 q)⟩
theorem SR.le {T : jO} {p : jO × Bool} {k c c' : Nat} (h : SR T p k c) (hc : c' ≤ c) : SR T p k c' := ⟨h.1, fun q => (h.2 q).le hc⟩
theorem mOr4 {T : jO} (h : (mAt T (nI 116) (nI 116) || mAt T (nI 119) (nI 119) || mAt T (nI 103) (nI 103) || mAt T (nI 100) (nI 100)) = true) : T 0 3 < T 0 1 := by
  simp only [Bool.or_eq_true] at h
  rcases h with ((h | h) | h) | h <;> exact mAt_lt h
theorem SR_order {T : jO} {k : Nat} (h : TI T k) : SR T (mOrder T) k 2 := by
  unfold mOrder
  split
  · rename_i h1
    have g1 : GR T (mNext (put T 5 (4 * toN (T 0 6)) (T 4 (toN (T 0 3))))) k 1 := (GR_o h).tr (GR_next (GR_o h).1 (mOr4 h1))
    dsimp only
    split
    · exact SR.lt g1 (SR_told g1.1)
    · refine SR.le (c := 1 + (1 + 0)) (SR.lt g1 (SR_and (c := 1) (c' := 0) (SR_told g1.1) fun hA => ?_)) (by decide)
      split
      · refine SR.le (c := 1 + 1) (SR_and (c := 1) (c' := 1) (SR_sign hA) fun hB => ?_) (by decide)
        exact SR_told hB
      · split
        · refine SR.le (c := 1 + (1 + (1 + 1))) (SR_and (c := 1) (c' := 1 + (1 + 1)) (SR_sign hA) fun hB => ?_) (by decide)
          refine SR_and (c := 1) (c' := 1 + 1) (SR_told hB) fun hC => ?_
          refine SR_and (c := 1) (c' := 1) (SR_sign hC) fun hD => ?_
          exact SR_told hD
        · refine SR.le (c := 1 + (1 + (1 + 1))) (SR_and (c := 1) (c' := 1 + (1 + 1)) (SR_sign hA) fun hB => ?_) (by decide)
          refine SR_and (c := 1) (c' := 1 + 1) (SR_told hB) fun hC => ?_
          refine SR_and (c := 1) (c' := 1) (SR_sign hC) fun hD => ?_
          exact SR_told hD
  · exact ⟨GR_stop h, fun q => Bool.noConfusion q⟩
set_option maxRecDepth 100000 in
set_option maxHeartbeats 1000000 in
theorem c5_isAt (l : Launch) (E : jE) (S : jS) (x : jX) (T : jO) {k : Nat} (hT : TI T k) (lo hi : Int32) : Ct l E yX5_isAt cX5_isAt 3 (some .boolean) 2 [.ref (ad E 10 0), .int lo, .int hi] (setO S 10 T, x) (some (.int (bI (mAt T lo hi)))) (setO S 10 T, x) := by
  refine Ct.of (by decide +kernel) (Nat.le_refl _) (Nat.le_of_ble_eq_true rfl) rfl (fun J hJ hF => ?_)
  obtain ⟨t1, t2, t3, t4, t5, t6⟩ := hT
  refine r_aload_n hJ dX5_isAt_0 rfl jg0 ?_
  refine r_g5_7O hJ m798 dX5_isAt_1 ?_
  refine r_aload_n hJ dX5_isAt_4 rfl jg0 ?_
  refine r_g5_5O hJ m796 dX5_isAt_5 ?_
  refine r_icmp_ge hJ (tgt := 32) dX5_isAt_8 (by decide) (fun c8 => ?_) (fun c8 => ?_)
  · have c8 := Int32.not_lt.mpr c8
    refine r_iconst hJ (v := nI 0) dX5_isAt_32 (by decide) ?_
    exact ret_z hF dX5_isAt_33 (by decide) (by simp [mAt, bI, c8] <;> rfl) rfl
  · refine r_aload_n hJ dX5_isAt_11 rfl jg0 ?_
    refine r_g5_4 hJ m795 dX5_isAt_12 ?_
    refine r_aload_n hJ dX5_isAt_15 rfl jg0 ?_
    refine r_g5_7O hJ m798 dX5_isAt_16 ?_
    have c8 := Int32.not_le.mp c8
    have hlt : aT T < yT T := by
      rw [t1, t3] at c8
      exact (nI_ltI (by omega) (by omega)).mp c8
    refine r_ialdO hJ (by omega) (alM4 (by omega)) t3 dX5_isAt_19 ?_
    refine r_iload_n hJ dX5_isAt_20 rfl jg1 ?_
    refine r_iload_n hJ dX5_isAt_21 rfl jg2 ?_
    refine r_S3v hJ kX5_29 (c5_in l E _ x _ lo hi) dX5_isAt_22 ⟨by decide, by decide⟩ (Nat.le_of_ble_eq_true rfl) ?_
    refine r_if_eq hJ (tgt := 32) dX5_isAt_25 (by decide) (fun c25 => ?_) (fun c25 => ?_)
    · have c25 : witQ (T 4 (toN (T 0 3))) lo hi = false := bI_0.mp c25
      refine r_iconst hJ (v := nI 0) dX5_isAt_32 (by decide) ?_
      exact ret_z hF dX5_isAt_33 (by decide) (by simp [mAt, bI, c8, c25] <;> rfl) rfl
    · have c25 : witQ (T 4 (toN (T 0 3))) lo hi = true := bI_ne c25
      refine r_iconst hJ (v := nI 1) dX5_isAt_28 (by decide) ?_
      refine r_goto hJ (tgt := 33) dX5_isAt_29 (by decide) ?_
      exact ret_z hF dX5_isAt_33 (by decide) (by simp [mAt, bI, c8, c25] <;> rfl) rfl

set_option maxRecDepth 100000 in
set_option maxHeartbeats 1000000 in
theorem c5_stops (l : Launch) (E : jE) (S : jS) (x : jX) (T : jO) : Ct l E yX5_stops cX5_stops 1 (some .boolean) 1 [.ref (ad E 10 0)] (setO S 10 T, x) (some (.int (nI 0))) (setO S 10 (mStop T), x) := by
  refine Ct.of (by decide +kernel) (Nat.le_refl _) (Nat.le_of_ble_eq_true rfl) rfl (fun J hJ hF => ?_)
  refine r_aload_n hJ dX5_stops_0 rfl jg0 ?_
  refine r_aload_n hJ dX5_stops_1 rfl jg0 ?_
  refine r_g5_7O hJ m798 dX5_stops_2 ?_
  refine r_aload_n hJ dX5_stops_5 rfl jg0 ?_
  refine r_g5_5O hJ m796 dX5_stops_6 ?_
  refine r_icmp_ge hJ (tgt := 16) dX5_stops_9 (by decide) (fun c9 => ?_) (fun c9 => ?_)
  · have c9 := Int32.not_lt.mpr c9
    refine r_iconst hJ (v := nI 0) dX5_stops_16 (by decide) ?_
    refine r_p5_8 hJ ⟨rfl, rfl⟩ m799 dX5_stops_17 ?_
    refine r_iconst hJ (v := nI 0) dX5_stops_20 (by decide) ?_
    exact ret_z hF dX5_stops_21 (by decide) rfl (by simp [mStop, bI, c9] <;> rfl)
  · have c9 := Int32.not_le.mp c9
    refine r_iconst hJ (v := nI 1) dX5_stops_12 (by decide) ?_
    refine r_goto hJ (tgt := 17) dX5_stops_13 (by decide) ?_
    refine r_p5_8 hJ ⟨rfl, rfl⟩ m799 dX5_stops_17 ?_
    refine r_iconst hJ (v := nI 0) dX5_stops_20 (by decide) ?_
    exact ret_z hF dX5_stops_21 (by decide) rfl (by simp [mStop, bI, c9] <;> rfl)

set_option maxRecDepth 100000 in
set_option maxHeartbeats 1000000 in
theorem c5_isSign (l : Launch) (E : jE) (S : jS) (x : jX) (T : jO) {k : Nat} (hT : TI T k) (s : Int32) : Ct l E yX5_isSign cX5_isSign 2 (some .boolean) 3 [.ref (ad E 10 0), .int s] (setO S 10 T, x) (some (.int (bI (mSign T s).2))) (setO S 10 (mSign T s).1, x) := by
  refine Ct.of (by decide +kernel) (Nat.le_refl _) (Nat.le_of_ble_eq_true rfl) rfl (fun J hJ hF => ?_)
  refine r_aload_n hJ dX5_isSign_0 rfl jg0 ?_
  refine r_iload_n hJ dX5_isSign_1 rfl jg1 ?_
  refine r_iload_n hJ dX5_isSign_2 rfl jg1 ?_
  refine r_V2v hJ kX5_131 (rcv5 E) (c5_isAt l E S x T hT s s) dX5_isSign_3 ⟨by decide, by decide⟩ (Nat.le_of_ble_eq_true rfl) ?_
  refine r_if_ne hJ (tgt := 14) dX5_isSign_6 (by decide) (fun c6 => ?_) (fun c6 => ?_)
  · have c6 : mAt T s s = true := bI_ne c6
    refine r_aload_n hJ dX5_isSign_14 rfl jg0 ?_
    refine r_dup hJ dX5_isSign_15 rfl ?_
    refine r_g5_7O hJ m798 dX5_isSign_16 ?_
    refine r_iconst hJ (v := nI 1) dX5_isSign_19 (by decide) ?_
    refine r_iadd hJ dX5_isSign_20 ?_
    refine r_p5_7 hJ m798 dX5_isSign_21 ?_
    refine r_iconst hJ (v := nI 1) dX5_isSign_24 (by decide) ?_
    exact ret_z hF dX5_isSign_25 (by decide) (by simp [mSign, bI, c6] <;> rfl) (by simp [mSign, c6] <;> rfl)
  · have c6 : mAt T s s = false := bI_0.mp c6
    refine r_aload_n hJ dX5_isSign_9 rfl jg0 ?_
    refine r_V0v hJ kX5_134 (rcv5 E) (c5_stops l E S x _) dX5_isSign_10 ⟨by decide, by decide⟩ (Nat.le_of_ble_eq_true rfl) ?_
    exact ret_z hF dX5_isSign_13 (by decide) (by simp [mSign, bI, c6] <;> rfl) (by simp [mSign, c6] <;> rfl)
