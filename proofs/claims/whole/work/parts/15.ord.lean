/-! ORDERS: Q 0 0 length, Q 0 1 at, Q 0 2 stopped, Q 0 3 kind, Q 0 4 holder, Q 0 5 first, Q 0 6 second; row 1 the signs -/
def OI (Q : jO) : Prop := (∃ n : Nat, n ≤ 60 ∧ Q 0 0 = nI n) ∧ ∃ a : Nat, a ≤ 60 ∧ Q 0 1 = nI a
abbrev lenQ (Q : jO) : Nat := toN (Q 0 0)
abbrev atQ (Q : jO) : Nat := toN (Q 0 1)
theorem OI_len {Q : jO} (h : OI Q) : lenQ Q ≤ 60 ∧ Q 0 0 = nI (lenQ Q) := by
  obtain ⟨⟨n, h1, h2⟩, -⟩ := h
  have e : lenQ Q = n := by unfold lenQ; rw [h2, toN_nI (by omega)]
  rw [e]; exact ⟨h1, h2⟩
theorem OI_at {Q : jO} (h : OI Q) : atQ Q ≤ 60 ∧ Q 0 1 = nI (atQ Q) := by
  obtain ⟨-, n, h1, h2⟩ := h
  have e : atQ Q = n := by unfold atQ; rw [h2, toN_nI (by omega)]
  rw [e]; exact ⟨h1, h2⟩
def sgA (Q : jO) (i : Nat) : Int32 := if i < lenQ Q then Q 1 i else -1
def stopQ (Q : jO) : jO := put Q 0 2 (nI 1)
def nextQ (Q : jO) : jO := put Q 0 1 (Q 0 1 + nI 1)
def rdSign (Q : jO) (s : Int32) : jO := if Q 0 2 = 0 ∧ sgA Q (atQ Q) = s then nextQ Q else stopQ Q
def digQ (Q : jO) (i : Nat) : Int32 := if nI 48 ≤ sgA Q i ∧ sgA Q i ≤ nI 57 then sgA Q i - nI 48 else -1
def witQ (v lo hi : Int32) : Bool := decide (lo ≤ v) && decide (v ≤ hi)
def begQ (v lo hi : Int32) : Bool := (decide (0 < v) && decide (nI 10 * v ≤ hi) && decide (lo ≤ nI 10 * v + nI 9)) || witQ v lo hi
def rdTwo (Q : jO) (v lo hi : Int32) : jO × Int32 :=
  if 0 < v ∧ ¬ digQ Q (atQ Q) = -1 ∧ witQ (nI 10 * v + digQ Q (atQ Q)) lo hi = true then (nextQ Q, nI 10 * v + digQ Q (atQ Q)) else (Q, v)
def rdNum (Q : jO) (lo hi : Int32) : jO × Int32 :=
  let v := digQ Q (atQ Q)
  if Q 0 2 = 0 ∧ ¬ v = -1 ∧ begQ v lo hi = true then
    let q := rdTwo (nextQ Q) v lo hi
    (if witQ q.2 lo hi = true then q.1 else stopQ q.1, q.2)
  else (stopQ Q, -1)
def rdOrder (Q : jO) : jO :=
  let k := sgA Q (atQ Q)
  let Q0 := put Q 0 3 k
  if k = nI 116 then
    let a := rdNum (nextQ Q0) (nI 0) (nI 7)
    let b := rdNum (rdSign (put a.1 0 4 a.2) (nI 42)) (nI 1) (nI 99)
    put b.1 0 6 b.2
  else if k = nI 119 then
    let a := rdNum (nextQ Q0) (nI 0) (nI 7)
    let b := rdNum (rdSign (put a.1 0 4 a.2) (nI 64)) (nI 0) (nI 63)
    let c := rdNum (rdSign (put b.1 0 5 b.2) (nI 42)) (nI 1) (nI 99)
    put c.1 0 6 c.2
  else if k = nI 103 then
    let a := rdNum (nextQ Q0) (nI 0) (nI 7)
    let b := rdNum (rdSign (put a.1 0 4 a.2) (nI 58)) (nI 0) (nI 63)
    let Q3 := rdSign (put b.1 0 5 b.2) (nI 45)
    let c := rdNum Q3 (Q3 0 5) (nI 63)
    put c.1 0 6 c.2
  else if k = nI 100 then
    let a := rdNum (nextQ Q0) (nI 1) (nI 99)
    put a.1 0 6 a.2
  else stopQ Q0
def rdNext (Q : jO) : jO :=
  let Q1 := if 0 < Q 0 1 then rdSign Q (nI 59) else Q
  if Q1 0 2 = 0 then rdOrder Q1 else Q1
def rewQ (Q : jO) : jO := put (put Q 0 1 (nI 0)) 0 2 (nI 0)
def rdLoop : Nat → jO → jO
  | 0, Q => Q
  | k + 1, Q => if Q 0 2 = 0 ∧ Q 0 1 < Q 0 0 then rdLoop k (rdNext Q) else Q
def rdAll (Q : jO) : jO := rdLoop 60 (rdNext (rewQ Q))
theorem OI_put {Q : jO} {i : Nat} {v : Int32} (hi : i ≠ 0 ∧ i ≠ 1) (h : OI Q) : OI (put Q 0 i v) := by
  obtain ⟨⟨n, h1, h2⟩, a, h3, h4⟩ := h
  refine ⟨⟨n, h1, ?_⟩, a, h3, ?_⟩
  · rw [put_app, if_neg (fun q => hi.1 q.2.symm), h2]
  · rw [put_app, if_neg (fun q => hi.2 q.2.symm), h4]
theorem OI_stop {Q : jO} (h : OI Q) : OI (stopQ Q) := OI_put (by decide) h
theorem OI_next {Q : jO} (h : OI Q) (ha : atQ Q < 60) : OI (nextQ Q) := by
  obtain ⟨h1, h2⟩ := OI_at h
  refine ⟨?_, atQ Q + 1, by omega, ?_⟩
  · unfold nextQ
    rw [put_app, if_neg (by decide)]
    exact h.1
  · unfold nextQ
    rw [put_app, if_pos (by decide), h2, nI_add]
theorem sgA_lt {Q : jO} (h : OI Q) {i : Nat} {s : Int32} (hs : sgA Q i = s) (hne : ¬ s = -1) : i < 60 := by
  unfold sgA at hs
  split at hs
  · have := (OI_len h).1
    omega
  · exact absurd hs.symm hne
theorem OI_rdSign {Q : jO} (h : OI Q) {s : Int32} (hs : ¬ s = -1) : OI (rdSign Q s) := by
  unfold rdSign
  split
  · exact OI_next h (sgA_lt h (And.right ‹_›) hs)
  · exact OI_stop h
theorem digQ_lt {Q : jO} (h : OI Q) {i : Nat} (hd : ¬ digQ Q i = -1) : i < 60 := by
  refine sgA_lt h rfl fun q => hd ?_
  unfold digQ
  rw [q]
  rw [if_neg (fun r => absurd r.1 (by decide))]
theorem OI_rdTwo {Q : jO} (h : OI Q) {v lo hi : Int32} : OI (rdTwo Q v lo hi).1 := by
  unfold rdTwo
  split
  · rename_i h1
    exact OI_next h (digQ_lt h h1.2.1)
  · exact h
theorem OI_rdNum {Q : jO} (h : OI Q) {lo hi : Int32} : OI (rdNum Q lo hi).1 := by
  unfold rdNum
  simp only
  split
  · rename_i h1
    have h2 : OI (rdTwo (nextQ Q) (digQ Q (atQ Q)) lo hi).1 := OI_rdTwo (OI_next h (digQ_lt h h1.2.1))
    simp only
    split
    · exact h2
    · exact OI_stop h2
  · exact OI_stop h
theorem OI_rdOrder {Q : jO} (h : OI Q) : OI (rdOrder Q) := by
  have h0 : OI (put Q 0 3 (sgA Q (atQ Q))) := OI_put (by decide) h
  have hn : ∀ s : Int32, sgA Q (atQ Q) = s → ¬ s = -1 → OI (nextQ (put Q 0 3 (sgA Q (atQ Q)))) := fun s hs hne => OI_next h0 (by
    have e : atQ (put Q 0 3 (sgA Q (atQ Q))) = atQ Q := by
      unfold atQ
      rw [put_app, if_neg (by decide)]
    rw [e]
    exact sgA_lt h hs hne)
  unfold rdOrder
  simp only
  split
  · exact OI_put (by decide) (OI_rdNum (OI_rdSign (OI_put (by decide) (OI_rdNum (hn _ ‹_› (by decide)))) (by decide)))
  · split
    · exact OI_put (by decide) (OI_rdNum (OI_rdSign (OI_put (by decide) (OI_rdNum (OI_rdSign (OI_put (by decide) (OI_rdNum (hn _ ‹_› (by decide)))) (by decide)))) (by decide)))
    · split
      · exact OI_put (by decide) (OI_rdNum (OI_rdSign (OI_put (by decide) (OI_rdNum (OI_rdSign (OI_put (by decide) (OI_rdNum (hn _ ‹_› (by decide)))) (by decide)))) (by decide)))
      · split
        · exact OI_put (by decide) (OI_rdNum (hn _ ‹_› (by decide)))
        · exact OI_stop h0
theorem OI_rdNext {Q : jO} (h : OI Q) : OI (rdNext Q) := by
  unfold rdNext
  simp only
  have h1 : OI (if 0 < Q 0 1 then rdSign Q (nI 59) else Q) := by
    split
    · exact OI_rdSign h (by decide)
    · exact h
  generalize (if 0 < Q 0 1 then rdSign Q (nI 59) else Q) = Q1 at h1 ⊢
  split
  · exact OI_rdOrder h1
  · exact h1
theorem OI_rew {Q : jO} (h : OI Q) : OI (rewQ Q) := by
  refine OI_put (by decide) ⟨?_, 0, by omega, ?_⟩
  · rw [put_app, if_neg (by decide)]
    exact h.1
  · rw [put_app, if_pos (by decide)]
theorem OI_rdLoop : ∀ (k : Nat) (Q : jO), OI Q → OI (rdLoop k Q)
  | 0, _, h => h
  | k + 1, Q, h => by
    rw [rdLoop]
    split
    · exact OI_rdLoop k _ (OI_rdNext h)
    · exact h
theorem OI_rdAll {Q : jO} (h : OI Q) : OI (rdAll Q) := OI_rdLoop 60 _ (OI_rdNext (OI_rew h))
set_option maxRecDepth 100000 in
set_option maxHeartbeats 1000000 in
theorem c1_addSign (l : Launch) (E : jE) (S : jS) (x : jX) (Q : jO) {n : Nat} (hn : n < 60) (hl : Q 0 0 = nI n) (c : Int32) : Ct l E yX1_addSign cX1_addSign 2 none 1 [.ref (ad E 8 0), .int c] (setO S 8 Q, x) none (setO S 8 (put (put Q 1 n c) 0 0 ((put Q 1 n c) 0 0 + nI 1)), x) := by
  refine Ct.of (by decide +kernel) (Nat.le_refl _) (Nat.le_of_ble_eq_true rfl) rfl (fun J hJ hF => ?_)
  refine r_aload_n hJ dX1_addSign_0 rfl jg0 ?_
  refine r_g1_1O hJ m174 dX1_addSign_1 ?_
  refine r_bipush hJ (v := nI 60) dX1_addSign_4 (by decide) ?_
  refine r_icmp_ge hJ (tgt := 29) dX1_addSign_6 (by decide) (fun c6 => ?_) (fun c6 => ?_)
  · rw [hl] at c6
    exact absurd c6 (nI_ge (by omega) (by omega))
  · rw [hl] at c6
    refine r_aload_n hJ dX1_addSign_9 rfl jg0 ?_
    refine r_g1_0 hJ m173 dX1_addSign_10 ?_
    refine r_aload_n hJ dX1_addSign_13 rfl jg0 ?_
    refine r_g1_1O hJ m174 dX1_addSign_14 ?_
    refine r_iload_n hJ dX1_addSign_17 rfl jg1 ?_
    refine r_iast hJ (by omega) (alO1 (by omega)) hl dX1_addSign_18 ?_
    refine r_aload_n hJ dX1_addSign_19 rfl jg0 ?_
    refine r_dup hJ dX1_addSign_20 rfl ?_
    refine r_g1_1O hJ m174 dX1_addSign_21 ?_
    refine r_iconst hJ (v := nI 1) dX1_addSign_24 (by decide) ?_
    refine r_iadd hJ dX1_addSign_25 ?_
    refine r_p1_1 hJ m174 dX1_addSign_26 ?_
    exact ret_v hF dX1_addSign_29 rfl rfl

set_option maxRecDepth 100000 in
set_option maxHeartbeats 1000000 in
theorem c1_signAt (l : Launch) (E : jE) (S : jS) (x : jX) (Q : jO) (hQ : OI Q) {i : Nat} (hi : i < 2 ^ 31) : Ct l E yX1_signAt cX1_signAt 2 (some .int) 1 [.ref (ad E 8 0), .int (nI i)] (setO S 8 Q, x) (some (.int (sgA Q i))) (setO S 8 Q, x) := by
  obtain ⟨hl6, hl⟩ := OI_len hQ
  refine Ct.of (by decide +kernel) (Nat.le_refl _) (Nat.le_of_ble_eq_true rfl) rfl (fun J hJ hF => ?_)
  refine r_iload_n hJ dX1_signAt_0 rfl jg1 ?_
  refine r_if_lt hJ (tgt := 21) dX1_signAt_1 (by decide) (fun c1 => ?_) (fun c1 => ?_)
  · exact absurd c1 (nI_pos (by omega))
  · refine r_iload_n hJ dX1_signAt_4 rfl jg1 ?_
    refine r_aload_n hJ dX1_signAt_5 rfl jg0 ?_
    refine r_g1_1O hJ m174 dX1_signAt_6 ?_
    refine r_icmp_ge hJ (tgt := 21) dX1_signAt_9 (by decide) (fun c9 => ?_) (fun c9 => ?_)
    · rw [hl, nI_leI (by omega) (by omega)] at c9
      refine r_iconst hJ (v := (-1)) dX1_signAt_21 (by decide) ?_
      first | exact ret_i hF dX1_signAt_22 (by rw [sgA, if_neg (by omega)]) rfl | exact ret_i hF dX1_signAt_22 (by rw [sgA, if_pos (by omega)]) rfl
    · rw [hl, nI_leI (by omega) (by omega)] at c9
      refine r_aload_n hJ dX1_signAt_12 rfl jg0 ?_
      refine r_g1_0 hJ m173 dX1_signAt_13 ?_
      refine r_iload_n hJ dX1_signAt_16 rfl jg1 ?_
      refine r_ialdO hJ (by omega) (alO1 (by omega)) rfl dX1_signAt_17 ?_
      refine r_goto hJ (tgt := 22) dX1_signAt_18 (by decide) ?_
      first | exact ret_i hF dX1_signAt_22 (by rw [sgA, if_neg (by omega)]) rfl | exact ret_i hF dX1_signAt_22 (by rw [sgA, if_pos (by omega)]) rfl

set_option maxRecDepth 100000 in
set_option maxHeartbeats 1000000 in
theorem c1_rewind (l : Launch) (E : jE) (S : jS) (x : jX) (Q : jO) : Ct l E yX1_rewind cX1_rewind 1 none 1 [.ref (ad E 8 0)] (setO S 8 Q, x) none (setO S 8 (rewQ Q), x) := by
  refine Ct.of (by decide +kernel) (Nat.le_refl _) (Nat.le_of_ble_eq_true rfl) rfl (fun J hJ hF => ?_)
  refine r_aload_n hJ dX1_rewind_0 rfl jg0 ?_
  refine r_iconst hJ (v := nI 0) dX1_rewind_1 (by decide) ?_
  refine r_p1_2 hJ m176 dX1_rewind_2 ?_
  refine r_aload_n hJ dX1_rewind_5 rfl jg0 ?_
  refine r_iconst hJ (v := nI 0) dX1_rewind_6 (by decide) ?_
  refine r_p1_3 hJ ⟨rfl, rfl⟩ m178 dX1_rewind_7 ?_
  exact ret_v hF dX1_rewind_10 rfl rfl

set_option maxRecDepth 100000 in
set_option maxHeartbeats 1000000 in
theorem c1_isWithin (l : Launch) (E : jE) (S : jS) (x : jX) (v lo hi : Int32) : Ct l E yX1_isWithin cX1_isWithin 3 (some .boolean) 1 [.int v, .int lo, .int hi] (S, x) (some (.int (bI (witQ v lo hi)))) (S, x) := by
  refine Ct.of (by decide +kernel) (Nat.le_refl _) (Nat.le_of_ble_eq_true rfl) rfl (fun J hJ hF => ?_)
  refine r_iload_n hJ dX1_isWithin_0 rfl jg0 ?_
  refine r_iload_n hJ dX1_isWithin_1 rfl jg1 ?_
  refine r_icmp_lt hJ (tgt := 14) dX1_isWithin_2 (by decide) (fun c2 => ?_) (fun c2 => ?_)
  · have c2 := Int32.not_le.mpr c2
    refine r_iconst hJ (v := nI 0) dX1_isWithin_14 (by decide) ?_
    exact ret_z hF dX1_isWithin_15 (by decide) (by simp [witQ, bI, nI0, nI1, c2]) rfl
  · have c2 := Int32.not_lt.mp c2
    refine r_iload_n hJ dX1_isWithin_5 rfl jg0 ?_
    refine r_iload_n hJ dX1_isWithin_6 rfl jg2 ?_
    refine r_icmp_gt hJ (tgt := 14) dX1_isWithin_7 (by decide) (fun c7 => ?_) (fun c7 => ?_)
    · have c7 := Int32.not_le.mpr c7
      refine r_iconst hJ (v := nI 0) dX1_isWithin_14 (by decide) ?_
      exact ret_z hF dX1_isWithin_15 (by decide) (by simp [witQ, bI, nI0, nI1, c2, c7]) rfl
    · have c7 := Int32.not_lt.mp c7
      refine r_iconst hJ (v := nI 1) dX1_isWithin_10 (by decide) ?_
      refine r_goto hJ (tgt := 15) dX1_isWithin_11 (by decide) ?_
      exact ret_z hF dX1_isWithin_15 (by decide) (by simp [witQ, bI, nI0, nI1, c2, c7]) rfl

set_option maxRecDepth 100000 in
set_option maxHeartbeats 1000000 in
theorem c1_begins (l : Launch) (E : jE) (S : jS) (x : jX) (v lo hi : Int32) : Ct l E yX1_begins cX1_begins 4 (some .boolean) 2 [.int v, .int lo, .int hi] (S, x) (some (.int (bI (begQ v lo hi)))) (S, x) := by
  refine Ct.of (by decide +kernel) (Nat.le_refl _) (Nat.le_of_ble_eq_true rfl) rfl (fun J hJ hF => ?_)
  have tail : ∀ b : Bool, b = (decide (0 < v) && decide (nI 10 * v ≤ hi) && decide (lo ≤ nI 10 * v + nI 9)) → J (S, x) 29 [some (.int v), some (.int lo), some (.int hi), some (.int (bI b))] [] := by
    intro b hb
    refine r_iload_n hJ dX1_begins_29 rfl jg3 ?_
    refine r_if_ne hJ (tgt := 42) dX1_begins_30 (by decide) (fun c30 => ?_) (fun c30 => ?_)
    · rw [bI_0, Bool.not_eq_false] at c30
      rw [hb] at c30
      refine r_iconst hJ (v := nI 1) dX1_begins_42 (by decide) ?_
      refine r_goto hJ (tgt := 47) dX1_begins_43 (by decide) ?_
      exact ret_z hF dX1_begins_47 (by decide) (by unfold begQ; simp only [c30]; rfl) rfl
    · rw [bI_0] at c30
      rw [hb] at c30
      refine r_iload_n hJ dX1_begins_33 rfl jg0 ?_
      refine r_iload_n hJ dX1_begins_34 rfl jg1 ?_
      refine r_iload_n hJ dX1_begins_35 rfl jg2 ?_
      refine r_S3v hJ kX1_66 (c1_isWithin l E S x v lo hi) dX1_begins_36 ⟨by decide, by decide⟩ (Nat.le_of_ble_eq_true rfl) ?_
      refine r_if_eq hJ (tgt := 46) dX1_begins_39 (by decide) (fun c39 => ?_) (fun c39 => ?_)
      · rw [bI_0] at c39
        refine r_iconst hJ (v := nI 0) dX1_begins_46 (by decide) ?_
        exact ret_z hF dX1_begins_47 (by decide) (by unfold begQ; simp only [c30, c39]; rfl) rfl
      · rw [bI_0, Bool.not_eq_false] at c39
        refine r_iconst hJ (v := nI 1) dX1_begins_42 (by decide) ?_
        refine r_goto hJ (tgt := 47) dX1_begins_43 (by decide) ?_
        exact ret_z hF dX1_begins_47 (by decide) (by unfold begQ; simp only [c30, c39]; rfl) rfl
  refine r_iload_n hJ dX1_begins_0 rfl jg0 ?_
  refine r_if_le hJ (tgt := 27) dX1_begins_1 (by decide) (fun c1 => ?_) (fun c1 => ?_)
  · have c1 := Int32.not_lt.mpr c1
    refine r_iconst hJ (v := nI 0) dX1_begins_27 (by decide) ?_
    refine r_istore_n hJ dX1_begins_28 rfl (jp3 rfl rfl) ?_
    first | exact tail false (by simp [c1]) | exact tail true (by simp [c1])
  · have c1 := Int32.not_le.mp c1
    refine r_bipush hJ (v := nI 10) dX1_begins_4 (by decide) ?_
    refine r_iload_n hJ dX1_begins_6 rfl jg0 ?_
    refine r_imul hJ dX1_begins_7 ?_
    refine r_iload_n hJ dX1_begins_8 rfl jg2 ?_
    refine r_icmp_gt hJ (tgt := 27) dX1_begins_9 (by decide) (fun c9 => ?_) (fun c9 => ?_)
    · have c9 := Int32.not_le.mpr c9
      refine r_iconst hJ (v := nI 0) dX1_begins_27 (by decide) ?_
      refine r_istore_n hJ dX1_begins_28 rfl (jp3 rfl rfl) ?_
      first | exact tail false (by simp [c1, c9]) | exact tail true (by simp [c1, c9])
    · have c9 := Int32.not_lt.mp c9
      refine r_bipush hJ (v := nI 10) dX1_begins_12 (by decide) ?_
      refine r_iload_n hJ dX1_begins_14 rfl jg0 ?_
      refine r_imul hJ dX1_begins_15 ?_
      refine r_bipush hJ (v := nI 9) dX1_begins_16 (by decide) ?_
      refine r_iadd hJ dX1_begins_18 ?_
      refine r_iload_n hJ dX1_begins_19 rfl jg1 ?_
      refine r_icmp_lt hJ (tgt := 27) dX1_begins_20 (by decide) (fun c20 => ?_) (fun c20 => ?_)
      · have c20 := Int32.not_le.mpr c20
        refine r_iconst hJ (v := nI 0) dX1_begins_27 (by decide) ?_
        refine r_istore_n hJ dX1_begins_28 rfl (jp3 rfl rfl) ?_
        first | exact tail false (by simp [c1, c9, c20]) | exact tail true (by simp [c1, c9, c20])
      · have c20 := Int32.not_lt.mp c20
        refine r_iconst hJ (v := nI 1) dX1_begins_23 (by decide) ?_
        refine r_goto hJ (tgt := 28) dX1_begins_24 (by decide) ?_
        refine r_istore_n hJ dX1_begins_28 rfl (jp3 rfl rfl) ?_
        first | exact tail false (by simp [c1, c9, c20]) | exact tail true (by simp [c1, c9, c20])

set_option maxRecDepth 100000 in
set_option maxHeartbeats 1000000 in
theorem c1_digitAt (l : Launch) (E : jE) (S : jS) (x : jX) (Q : jO) (hQ : OI Q) {i : Nat} (hi : i < 2 ^ 31) : Ct l E yX1_digitAt cX1_digitAt 3 (some .int) 2 [.ref (ad E 8 0), .int (nI i)] (setO S 8 Q, x) (some (.int (digQ Q i))) (setO S 8 Q, x) := by
  refine Ct.of (by decide +kernel) (Nat.le_refl _) (Nat.le_of_ble_eq_true rfl) rfl (fun J hJ hF => ?_)
  refine r_aload_n hJ dX1_digitAt_0 rfl jg0 ?_
  refine r_iload_n hJ dX1_digitAt_1 rfl jg1 ?_
  refine r_V1v hJ kX1_39 (rcv1 E) (c1_signAt l E S x Q hQ (i := i) hi) dX1_digitAt_2 ⟨by decide, by decide⟩ (Nat.le_of_ble_eq_true rfl) ?_
  refine r_istore_n hJ dX1_digitAt_5 rfl (jp2 rfl rfl) ?_
  refine r_iload_n hJ dX1_digitAt_6 rfl jg2 ?_
  refine r_bipush hJ (v := nI 48) dX1_digitAt_7 (by decide) ?_
  refine r_icmp_lt hJ (tgt := 25) dX1_digitAt_9 (by decide) (fun c9 => ?_) (fun c9 => ?_)
  · have c9 := Int32.not_le.mpr c9
    refine r_iconst hJ (v := (-1)) dX1_digitAt_25 (by decide) ?_
    exact ret_i hF dX1_digitAt_26 (by simp [digQ, c9]) rfl
  · have c9 := Int32.not_lt.mp c9
    refine r_iload_n hJ dX1_digitAt_12 rfl jg2 ?_
    refine r_bipush hJ (v := nI 57) dX1_digitAt_13 (by decide) ?_
    refine r_icmp_gt hJ (tgt := 25) dX1_digitAt_15 (by decide) (fun c15 => ?_) (fun c15 => ?_)
    · have c15 := Int32.not_le.mpr c15
      refine r_iconst hJ (v := (-1)) dX1_digitAt_25 (by decide) ?_
      exact ret_i hF dX1_digitAt_26 (by simp [digQ, c9, c15]) rfl
    · have c15 := Int32.not_lt.mp c15
      refine r_iload_n hJ dX1_digitAt_18 rfl jg2 ?_
      refine r_bipush hJ (v := nI 48) dX1_digitAt_19 (by decide) ?_
      refine r_isub hJ dX1_digitAt_21 ?_
      refine r_goto hJ (tgt := 26) dX1_digitAt_22 (by decide) ?_
      exact ret_i hF dX1_digitAt_26 (by simp [digQ, c9, c15]) rfl

set_option maxRecDepth 100000 in
set_option maxHeartbeats 1000000 in
theorem c1_readSign (l : Launch) (E : jE) (S : jS) (x : jX) (Q : jO) (hQ : OI Q) (s : Int32) : Ct l E yX1_readSign cX1_readSign 2 none 2 [.ref (ad E 8 0), .int s] (setO S 8 Q, x) none (setO S 8 (rdSign Q s), x) := by
  obtain ⟨ha6, ha⟩ := OI_at hQ
  refine Ct.of (by decide +kernel) (Nat.le_refl _) (Nat.le_of_ble_eq_true rfl) rfl (fun J hJ hF => ?_)
  refine r_aload_n hJ dX1_readSign_0 rfl jg0 ?_
  refine r_g1_3O hJ m178 dX1_readSign_1 ?_
  refine r_if_ne hJ (tgt := 19) dX1_readSign_4 (by decide) (fun c4 => ?_) (fun c4 => ?_)
  · refine r_aload_n hJ dX1_readSign_19 rfl jg0 ?_
    refine r_iconst hJ (v := nI 1) dX1_readSign_20 (by decide) ?_
    refine r_p1_3 hJ ⟨rfl, rfl⟩ m178 dX1_readSign_21 ?_
    refine r_goto hJ (tgt := 37) dX1_readSign_24 (by decide) ?_
    exact ret_v hF dX1_readSign_37 rfl (by simp only [rdSign, c4, and_self, and_true, true_and, false_and, and_false, if_true, if_false]; rfl)
  · refine r_aload_n hJ dX1_readSign_7 rfl jg0 ?_
    refine r_aload_n hJ dX1_readSign_8 rfl jg0 ?_
    refine r_g1_2O hJ m176 dX1_readSign_9 ?_
    rw [ha]
    refine r_V1v hJ kX1_39 (rcv1 E) (c1_signAt l E S x Q hQ (i := atQ Q) (by omega)) dX1_readSign_12 ⟨by decide, by decide⟩ (Nat.le_of_ble_eq_true rfl) ?_
    refine r_iload_n hJ dX1_readSign_15 rfl jg1 ?_
    refine r_icmp_eq hJ (tgt := 27) dX1_readSign_16 (by decide) (fun c16 => ?_) (fun c16 => ?_)
    · refine r_aload_n hJ dX1_readSign_27 rfl jg0 ?_
      refine r_dup hJ dX1_readSign_28 rfl ?_
      refine r_g1_2O hJ m176 dX1_readSign_29 ?_
      refine r_iconst hJ (v := nI 1) dX1_readSign_32 (by decide) ?_
      refine r_iadd hJ dX1_readSign_33 ?_
      refine r_p1_2 hJ m176 dX1_readSign_34 ?_
      exact ret_v hF dX1_readSign_37 rfl (by simp only [rdSign, c4, c16, and_self, and_true, true_and, false_and, and_false, if_true, if_false]; rfl)
    · refine r_aload_n hJ dX1_readSign_19 rfl jg0 ?_
      refine r_iconst hJ (v := nI 1) dX1_readSign_20 (by decide) ?_
      refine r_p1_3 hJ ⟨rfl, rfl⟩ m178 dX1_readSign_21 ?_
      refine r_goto hJ (tgt := 37) dX1_readSign_24 (by decide) ?_
      exact ret_v hF dX1_readSign_37 rfl (by simp only [rdSign, c4, c16, and_self, and_true, true_and, false_and, and_false, if_true, if_false]; rfl)
