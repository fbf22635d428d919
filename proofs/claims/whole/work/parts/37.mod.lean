def mTok (T : jO) : jO := put (mOrder T).1 0 6 ((mOrder T).1 0 6 + nI 1)
def mLoop : Nat → jO → jO × Bool
  | 0, T => (T, false)
  | k + 1, T => if (mOrder T).2 = true then (if mAt (mTok T) (nI 59) (nI 59) = true then mLoop k (mNext (mTok T)) else (mStop (mTok T), decide (mTok T 0 3 = mTok T 0 1))) else ((mOrder T).1, false)
def rewT (T : jO) : jO := put (put (put T 0 3 (nI 0)) 0 6 (nI 0)) 0 4 (nI 0)
def mText (T : jO) : jO × Bool := mLoop 21 (rewT T)
theorem put_self (T : jO) (i : Nat) : put T 0 i (T 0 i) = T := by
  funext j q
  rw [put_app]
  split
  · rename_i h
    rw [h.1, h.2]
  · rfl
def XI (T : jO) : Prop := T 0 1 = nI (yT T) ∧ yT T ≤ 60
theorem TI_rew {T : jO} (h : XI T) : TI (rewT T) 0 ∧ aT (rewT T) = 0 := by
  have e1 : rewT T 0 1 = T 0 1 := rfl
  have e3 : rewT T 0 3 = nI 0 := rfl
  have e6 : rewT T 0 6 = nI 0 := rfl
  have e0 : toN (nI 0) = 0 := rfl
  unfold TI aT yT
  rw [e1, e3, e6, e0]
  exact ⟨⟨h.1, h.2, rfl, Nat.zero_le _, rfl, by decide⟩, rfl⟩
theorem TI_ord {T : jO} {k : Nat} (h : TI T k) (hk : k + 1 ≤ 20) : TI (put T 0 6 (T 0 6 + nI 1)) (k + 1) ∧ aT (put T 0 6 (T 0 6 + nI 1)) = aT T := by
  obtain ⟨h1, h2, h3, h4, h5, h6⟩ := h
  have e1 : put T 0 6 (T 0 6 + nI 1) 0 1 = T 0 1 := pfa (by decide)
  have e3 : put T 0 6 (T 0 6 + nI 1) 0 3 = T 0 3 := pfa (by decide)
  have e6 : put T 0 6 (T 0 6 + nI 1) 0 6 = nI (k + 1) := by rw [put_at, if_pos rfl, h5, nI_add]
  unfold TI aT yT
  rw [e1, e3, e6]
  exact ⟨⟨h1, h2, h3, h4, rfl, hk⟩, rfl⟩
theorem TI_tok {T : jO} {k : Nat} (h : TI T k) (hk : 3 * k ≤ aT T) (h2 : (mOrder T).2 = true) : TI (mTok T) (k + 1) ∧ 3 * (k + 1) ≤ aT (mTok T) + 1 := by
  obtain ⟨g, g1, -⟩ := (SR_order h).2 h2
  have h3 := g.2.1
  have h4 := g.2.2.2.1
  obtain ⟨t1, t2⟩ := TI_ord g (by omega)
  unfold mTok
  rw [t2]
  exact ⟨t1, by omega⟩
set_option maxRecDepth 100000 in
set_option maxHeartbeats 1000000 in
theorem c5_isText (l : Launch) (E : jE) (S : jS) (x : jX) (T : jO) (hX : XI T) : Ct l E yX5_isText cX5_isText 2 (some .boolean) 7 [.ref (ad E 10 0)] (setO S 10 T, x) (some (.int (bI (mText T).2))) (setO S 10 (mText T).1, x) := by
  refine Ct.of (by decide +kernel) (Nat.le_refl _) (Nat.le_of_ble_eq_true rfl) rfl (fun J hJ hF => ?_)
  obtain ⟨F, hFF⟩ : ∃ F, mText T = F := ⟨_, rfl⟩
  rw [hFF] at hF
  have fin : ∀ T1 : jO, (mStop T1, decide (T1 0 3 = T1 0 1)) = F → J (setO S 10 T1, x) 17 [some (.ref (ad E 10 0)), some (.int (nI 0))] [] := by
    intro T1 he
    refine r_iload_n hJ dX5_isText_17 rfl jg1 ?_
    refine r_if_eq hJ (tgt := 70) dX5_isText_18 (by decide) (fun c18 => ?_) (fun c18 => ?_)
    · refine r_aload_n hJ dX5_isText_70 rfl jg0 ?_
      refine r_aload_n hJ dX5_isText_71 rfl jg0 ?_
      refine r_g5_7O hJ m798 dX5_isText_72 ?_
      refine r_aload_n hJ dX5_isText_75 rfl jg0 ?_
      refine r_g5_5O hJ m796 dX5_isText_76 ?_
      refine r_icmp_ge hJ (tgt := 86) dX5_isText_79 (by decide) (fun c79 => ?_) (fun c79 => ?_)
      · have c79 := Int32.not_lt.mpr c79
        refine r_iconst hJ (v := nI 0) dX5_isText_86 (by decide) ?_
        refine r_p5_8 hJ ⟨rfl, rfl⟩ m799 dX5_isText_87 ?_
        have e3 : ∀ v, (put T1 0 4 v) 0 3 = T1 0 3 := fun v => pfa (by decide)
        have e1 : ∀ v, (put T1 0 4 v) 0 1 = T1 0 1 := fun v => pfa (by decide)
        refine r_aload_n hJ dX5_isText_90 rfl jg0 ?_
        refine r_g5_7O hJ m798 dX5_isText_91 ?_
        rw [e3]
        refine r_aload_n hJ dX5_isText_94 rfl jg0 ?_
        refine r_g5_5O hJ m796 dX5_isText_95 ?_
        rw [e1]
        refine r_icmp_ne hJ (tgt := 105) dX5_isText_98 (by decide) (fun c98 => ?_) (fun c98 => ?_)
        · refine r_iconst hJ (v := nI 0) dX5_isText_105 (by decide) ?_
          exact ret_z hF dX5_isText_106 (by decide) (by rw [← he]; simp [bI, c18, c79, c98] <;> rfl) (by rw [← he]; simp [mStop, bI, c79] <;> rfl)
        · refine r_iconst hJ (v := nI 1) dX5_isText_101 (by decide) ?_
          refine r_goto hJ (tgt := 106) dX5_isText_102 (by decide) ?_
          exact ret_z hF dX5_isText_106 (by decide) (by rw [← he]; simp [bI, c18, c79, c98] <;> rfl) (by rw [← he]; simp [mStop, bI, c79] <;> rfl)
      · have c79 := Int32.not_le.mp c79
        refine r_iconst hJ (v := nI 1) dX5_isText_82 (by decide) ?_
        refine r_goto hJ (tgt := 87) dX5_isText_83 (by decide) ?_
        refine r_p5_8 hJ ⟨rfl, rfl⟩ m799 dX5_isText_87 ?_
        have e3 : ∀ v, (put T1 0 4 v) 0 3 = T1 0 3 := fun v => pfa (by decide)
        have e1 : ∀ v, (put T1 0 4 v) 0 1 = T1 0 1 := fun v => pfa (by decide)
        refine r_aload_n hJ dX5_isText_90 rfl jg0 ?_
        refine r_g5_7O hJ m798 dX5_isText_91 ?_
        rw [e3]
        refine r_aload_n hJ dX5_isText_94 rfl jg0 ?_
        refine r_g5_5O hJ m796 dX5_isText_95 ?_
        rw [e1]
        refine r_icmp_ne hJ (tgt := 105) dX5_isText_98 (by decide) (fun c98 => ?_) (fun c98 => ?_)
        · refine r_iconst hJ (v := nI 0) dX5_isText_105 (by decide) ?_
          exact ret_z hF dX5_isText_106 (by decide) (by rw [← he]; simp [bI, c18, c79, c98] <;> rfl) (by rw [← he]; simp [mStop, bI, c79] <;> rfl)
        · refine r_iconst hJ (v := nI 1) dX5_isText_101 (by decide) ?_
          refine r_goto hJ (tgt := 106) dX5_isText_102 (by decide) ?_
          exact ret_z hF dX5_isText_106 (by decide) (by rw [← he]; simp [bI, c18, c79, c98] <;> rfl) (by rw [← he]; simp [mStop, bI, c79] <;> rfl)
    · exact absurd rfl c18
  have loop : ∀ (n k : Nat) (T' : jO), n + k = 21 → TI T' k → 3 * k ≤ aT T' → mLoop n T' = F → J (setO S 10 T', x) 17 [some (.ref (ad E 10 0)), some (.int (nI 1))] [] := by
    intro n
    induction n with
    | zero =>
      intro k T' hn hT hk he
      have := hT.2.2.2.2.2
      omega
    | succ n ih =>
      intro k T' hn hT hk he
      refine r_iload_n hJ dX5_isText_17 rfl jg1 ?_
      refine r_if_eq hJ (tgt := 70) dX5_isText_18 (by decide) (fun c18 => ?_) (fun c18 => ?_)
      · exact absurd c18 (by decide)
      · refine r_aload_n hJ dX5_isText_21 rfl jg0 ?_
        refine r_V0v hJ kX5_156 (rcv5 E) (c5_isOrder l E S x T' hT) dX5_isText_22 ⟨by decide, by decide⟩ (Nat.le_of_ble_eq_true rfl) ?_
        
        refine r_if_ne hJ (tgt := 30) dX5_isText_25 (by decide) (fun c25 => ?_) (fun c25 => ?_)
        · have c25 : (mOrder T').2 = true := bI_ne c25
          obtain ⟨k1, k2⟩ := TI_tok hT hk c25
          rw [mLoop, if_pos c25] at he
          refine r_aload_n hJ dX5_isText_30 rfl jg0 ?_
          refine r_dup hJ dX5_isText_31 rfl ?_
          refine r_g5_11O hJ m802 dX5_isText_32 ?_
          refine r_iconst hJ (v := nI 1) dX5_isText_35 (by decide) ?_
          refine r_iadd hJ dX5_isText_36 ?_
          refine r_p5_11 hJ m802 dX5_isText_37 ?_
          change J (setO S 10 (mTok T'), x) _ _ _
          refine r_aload_n hJ dX5_isText_40 rfl jg0 ?_
          refine r_bipush hJ (v := nI 59) dX5_isText_41 (by decide) ?_
          refine r_bipush hJ (v := nI 59) dX5_isText_43 (by decide) ?_
          refine r_V2v hJ kX5_131 (rcv5 E) (c5_isAt l E S x (mTok T') k1 (nI 59) (nI 59)) dX5_isText_45 ⟨by decide, by decide⟩ (Nat.le_of_ble_eq_true rfl) ?_
          refine r_istore_n hJ dX5_isText_48 rfl (jp1 rfl rfl) ?_
          refine r_aload_n hJ dX5_isText_49 rfl jg0 ?_
          refine r_dup hJ dX5_isText_50 rfl ?_
          refine r_g5_7O hJ m798 dX5_isText_51 ?_
          refine r_iload_n hJ dX5_isText_54 rfl jg1 ?_
          refine r_if_eq hJ (tgt := 62) dX5_isText_55 (by decide) (fun c55 => ?_) (fun c55 => ?_)
          · have c55 : mAt (mTok T') (nI 59) (nI 59) = false := bI_0.mp c55
            refine r_iconst hJ (v := nI 0) dX5_isText_62 (by decide) ?_
            refine r_iadd hJ dX5_isText_63 ?_
            refine r_p5_7 hJ m798 dX5_isText_64 ?_
            rw [show (nI 0 : Int32) = 0 from rfl, Int32.add_zero, put_self]
            refine r_goto hJ (tgt := 17) dX5_isText_67 (by decide) ?_
            have e : bI (mAt (mTok T') (nI 59) (nI 59)) = nI 0 := by rw [c55]; rfl
            rw [if_neg (by rw [c55]; decide)] at he
            rw [e]
            exact fin _ he
          · have c55 : mAt (mTok T') (nI 59) (nI 59) = true := bI_ne c55
            refine r_iconst hJ (v := nI 1) dX5_isText_58 (by decide) ?_
            refine r_goto hJ (tgt := 63) dX5_isText_59 (by decide) ?_
            refine r_iadd hJ dX5_isText_63 ?_
            refine r_p5_7 hJ m798 dX5_isText_64 ?_
            change J (setO S 10 (mNext (mTok T')), x) _ _ _
            refine r_goto hJ (tgt := 17) dX5_isText_67 (by decide) ?_
            have e : bI (mAt (mTok T') (nI 59) (nI 59)) = nI 1 := by rw [c55]; rfl
            rw [if_pos c55] at he
            rw [e]
            obtain ⟨n1, n2, -⟩ := GR_next k1 (mAt_lt c55)
            exact ih (k + 1) _ (by omega) n1 (by omega) he
        · have c25 : (mOrder T').2 = false := bI_0.mp c25
          rw [mLoop, if_neg (by rw [c25]; decide)] at he
          refine r_iconst hJ (v := nI 0) dX5_isText_28 (by decide) ?_
          exact ret_z hF dX5_isText_29 (by decide) (by rw [← he]; rfl) (by rw [← he])
  refine r_aload_n hJ dX5_isText_0 rfl jg0 ?_
  refine r_iconst hJ (v := nI 0) dX5_isText_1 (by decide) ?_
  refine r_p5_7 hJ m798 dX5_isText_2 ?_
  refine r_aload_n hJ dX5_isText_5 rfl jg0 ?_
  refine r_iconst hJ (v := nI 0) dX5_isText_6 (by decide) ?_
  refine r_p5_11 hJ m802 dX5_isText_7 ?_
  refine r_aload_n hJ dX5_isText_10 rfl jg0 ?_
  refine r_iconst hJ (v := nI 0) dX5_isText_11 (by decide) ?_
  refine r_p5_8 hJ ⟨rfl, rfl⟩ m799 dX5_isText_12 ?_
  refine r_iconst hJ (v := nI 1) dX5_isText_15 (by decide) ?_
  refine r_istore_n hJ dX5_isText_16 rfl (jp1 rfl rfl) ?_
  obtain ⟨h1, h2⟩ := TI_rew hX
  exact loop 21 0 (rewT T) rfl h1 (Nat.zero_le _) hFF

def mErr (T : jO) : Int32 := if (mText (thr T (nI 0))).2 = false ∧ ¬ (mText (thr T (nI 0))).1 0 4 = 0 then (mText (thr T (nI 0))).1 0 3 else (mText (thr T (nI 0))).1 0 1
set_option maxRecDepth 100000 in
set_option maxHeartbeats 1000000 in
theorem c5_firstError (l : Launch) (E : jE) (S : jS) (x : jX) (T : jO) (hX : XI T) : Ct l E yX5_firstError cX5_firstError 2 (some .int) 8 [.ref (ad E 10 0)] (setO S 10 T, x) (some (.int (mErr T))) (setO S 10 (mText (thr T (nI 0))).1, x) := by
  refine Ct.of (by decide +kernel) (Nat.le_refl _) (Nat.le_of_ble_eq_true rfl) rfl (fun J hJ hF => ?_)
  refine r_aload_n hJ dX5_firstError_0 rfl jg0 ?_
  refine r_iconst hJ (v := nI 0) dX5_firstError_1 (by decide) ?_
  refine r_p5_6 hJ m797 dX5_firstError_2 ?_
  refine r_aload_n hJ dX5_firstError_5 rfl jg0 ?_
  refine r_V0v hJ kX5_159 (rcv5 E) (c5_isText l E S x (thr T (nI 0)) hX) dX5_firstError_6 ⟨by decide, by decide⟩ (Nat.le_of_ble_eq_true rfl) ?_
  refine r_istore_n hJ dX5_firstError_9 rfl (jp1 rfl rfl) ?_
  refine r_iload_n hJ dX5_firstError_10 rfl jg1 ?_
  refine r_if_ne hJ (tgt := 28) dX5_firstError_11 (by decide) (fun c11 => ?_) (fun c11 => ?_)
  · have c11 : (mText (thr T (nI 0))).2 = true := bI_ne c11
    refine r_aload_n hJ dX5_firstError_28 rfl jg0 ?_
    refine r_g5_5O hJ m796 dX5_firstError_29 ?_
    exact ret_i hF dX5_firstError_32 (by unfold mErr; simp [c11]) rfl
  · have c11 : (mText (thr T (nI 0))).2 = false := bI_0.mp c11
    refine r_aload_n hJ dX5_firstError_14 rfl jg0 ?_
    refine r_g5_8O hJ m799 dX5_firstError_15 ?_
    refine r_if_eq hJ (tgt := 28) dX5_firstError_18 (by decide) (fun c18 => ?_) (fun c18 => ?_)
    · refine r_aload_n hJ dX5_firstError_28 rfl jg0 ?_
      refine r_g5_5O hJ m796 dX5_firstError_29 ?_
      exact ret_i hF dX5_firstError_32 (by unfold mErr; simp [c11, c18]) rfl
    · refine r_aload_n hJ dX5_firstError_21 rfl jg0 ?_
      refine r_g5_7O hJ m798 dX5_firstError_22 ?_
      refine r_goto hJ (tgt := 32) dX5_firstError_25 (by decide) ?_
      exact ret_i hF dX5_firstError_32 (by unfold mErr; simp [c11, c18]) rfl

def mOk (o : Nat → Int32) (j : Nat) : Prop :=
  (o (4 * j) = nI 100 ∧ witQ (o (4 * j + 1)) (nI 1) (nI 99) = true) ∨
  (o (4 * j) = nI 116 ∧ witQ (o (4 * j + 1)) (nI 0) (nI 7) = true ∧ witQ (o (4 * j + 2)) (nI 1) (nI 99) = true) ∨
  (o (4 * j) = nI 119 ∧ witQ (o (4 * j + 1)) (nI 0) (nI 7) = true ∧ witQ (o (4 * j + 2)) (nI 0) (nI 63) = true ∧ witQ (o (4 * j + 3)) (nI 1) (nI 99) = true) ∨
  (o (4 * j) = nI 103 ∧ witQ (o (4 * j + 1)) (nI 0) (nI 7) = true ∧ witQ (o (4 * j + 2)) (nI 0) (nI 63) = true ∧ witQ (o (4 * j + 3)) (o (4 * j + 2)) (nI 63) = true)
def mDoneR (r : Nat → Int32) (z : Nat) (s a b c : Int32) : Option (Nat → Int32) :=
  if s = nI 100 then (if r 0 + a ≤ nI 9999 then some (mPass z (toN a) (r, nI 0)).1 else none)
  else if s = nI 116 then (if mMayT r z a = true then some (mGives r (toN (mFirst r (nI 1) z 0 0)) (toN a) b) else none)
  else if s = nI 119 then (if witQ b (nI 0) (nI (z - 1)) = true ∧ mMayW r z a (toN b) = true then some (mWishes r (toN a) (toN b) c).1 else none)
  else (if witQ b (nI 0) (nI (z - 1)) = true ∧ witQ c (nI 0) (nI (z - 1)) = true then some (mBack z a (toN c + 1 - toN b) (toN b) (r, 0)).1 else none)
theorem n9a : (nI 119 = nI 100) = False := by decide
theorem n9b : (nI 119 = nI 116) = False := by decide
theorem n9c : (nI 116 = nI 100) = False := by decide
theorem n9d : (nI 103 = nI 100) = False := by decide
theorem n9e : (nI 103 = nI 116) = False := by decide
theorem n9f : (nI 103 = nI 119) = False := by decide
theorem n9g : (nI 100 = nI 116) = False := by decide
theorem n9h : (nI 100 = nI 119) = False := by decide
theorem n9i : (nI 100 = nI 103) = False := by decide
theorem n9j : (nI 116 = nI 119) = False := by decide
theorem n9k : (nI 116 = nI 103) = False := by decide
theorem n9l : (nI 119 = nI 103) = False := by decide
set_option maxRecDepth 100000 in
set_option maxHeartbeats 1000000 in
theorem c5_isDone (l : Launch) (E : jE) (S : jS) (x : jX) (T : jO) {z : Nat} (hM : MI (T 1) z) {k : Nat} (hk : k ≤ 20) (hOk : mOk (T 5) k) : Ct l E yX5_isDone cX5_isDone 7 (some .boolean) 7 [.ref (ad E 10 0), .int (nI k)] (setO S 10 T, x) (some (.int (bI (mDoneR (T 1) z (T 5 (4 * k)) (T 5 (4 * k + 1)) (T 5 (4 * k + 2)) (T 5 (4 * k + 3))).isSome))) (setO S 10 (putA T 1 ((mDoneR (T 1) z (T 5 (4 * k)) (T 5 (4 * k + 1)) (T 5 (4 * k + 2)) (T 5 (4 * k + 3))).getD (T 1))), x) := by
  refine Ct.of (by decide +kernel) (Nat.le_refl _) (Nat.le_of_ble_eq_true rfl) rfl (fun J hJ hF => ?_)
  obtain ⟨s, hs⟩ : ∃ s, T 5 (4 * k) = s := ⟨_, rfl⟩
  obtain ⟨a, ha⟩ : ∃ a, T 5 (4 * k + 1) = a := ⟨_, rfl⟩
  obtain ⟨b, hb⟩ : ∃ b, T 5 (4 * k + 2) = b := ⟨_, rfl⟩
  obtain ⟨c, hc⟩ : ∃ c, T 5 (4 * k + 3) = c := ⟨_, rfl⟩
  rw [hs, ha, hb, hc] at hF
  have hok := hOk
  unfold mOk at hok
  rw [hs, ha, hb, hc] at hok
  clear hOk
  have hz := hM.1.1
  have hz6 := hM.1.2.2
  have hz4 := hM.1.2.1
  have tail0 : mDoneR (T 1) z s a b c = none → J (setO S 10 T, x) 142 [some (.ref (ad E 10 0)), some (.int (nI k)), some (.int s), some (.int a), some (.int b), some (.int c), none] [.int (nI 0)] := by
    intro hres
    refine r_istore hJ dX5_isDone_142 (jp6 rfl rfl) ?_
    refine r_iload hJ dX5_isDone_144 jg6 ?_
    refine r_if_eq hJ (tgt := 161) dX5_isDone_146 (by decide) (fun c146 => ?_) (fun c146 => ?_)
    · refine r_iload hJ dX5_isDone_161 jg6 ?_
      refine r_if_eq hJ (tgt := 180) dX5_isDone_163 (by decide) (fun c163 => ?_) (fun c163 => ?_)
      · refine r_iload hJ dX5_isDone_180 jg6 ?_
        refine r_if_eq hJ (tgt := 201) dX5_isDone_182 (by decide) (fun c182 => ?_) (fun c182 => ?_)
        · refine r_iload hJ dX5_isDone_201 jg6 ?_
          refine r_if_eq hJ (tgt := 222) dX5_isDone_203 (by decide) (fun c203 => ?_) (fun c203 => ?_)
          · refine r_iload hJ dX5_isDone_222 jg6 ?_
            exact ret_z hF dX5_isDone_224 (by decide) (by rw [hres]; rfl) (by rw [hres, Option.getD_none, putA_self])
          · exact absurd rfl c203
        · exact absurd rfl c182
      · exact absurd rfl c163
    · exact absurd rfl c146
  have tail100 : s = nI 100 → mDoneR (T 1) z s a b c = some (mPass z (toN a) (T 1, nI 0)).1 → J (setO S 10 T, x) 142 [some (.ref (ad E 10 0)), some (.int (nI k)), some (.int s), some (.int a), some (.int b), some (.int c), none] [.int (nI 1)] := by
    intro hs hres
    have hwa : witQ a (nI 1) (nI 99) = true := by
      rcases hok with q | q | q | q
      · exact q.2
      all_goals exact absurd (hs.symm.trans q.1) (by decide)
    refine r_istore hJ dX5_isDone_142 (jp6 rfl rfl) ?_
    refine r_iload hJ dX5_isDone_144 jg6 ?_
    refine r_if_eq hJ (tgt := 161) dX5_isDone_146 (by decide) (fun c146 => ?_) (fun c146 => ?_)
    · exact absurd c146 (by decide)
    · refine r_iload_n hJ dX5_isDone_149 rfl jg2 ?_
      refine r_bipush hJ (v := nI 100) dX5_isDone_150 (by decide) ?_
      refine r_icmp_ne hJ (tgt := 161) dX5_isDone_152 (by decide) (fun c152 => ?_) (fun c152 => ?_)
      · exact absurd hs c152
      · refine r_aload_n hJ dX5_isDone_155 rfl jg0 ?_
        refine r_iload_n hJ dX5_isDone_156 rfl jg3 ?_
        obtain ⟨b1, b2, b3⟩ := wit_N1 (by decide) hwa
        have hps := c5_passesBy l E S x T hM (b := toN a) (by omega)
        rw [← b1] at hps
        refine r_V1v hJ kX5_115 (rcv5 E) (hps) dX5_isDone_157 ⟨by decide, by decide⟩ (Nat.le_of_ble_eq_true rfl) ?_
        refine r_pop hJ dX5_isDone_160 rfl ?_
        refine r_iload hJ dX5_isDone_161 jg6 ?_
        refine r_if_eq hJ (tgt := 180) dX5_isDone_163 (by decide) (fun c163 => ?_) (fun c163 => ?_)
        · exact absurd c163 (by decide)
        · refine r_iload_n hJ dX5_isDone_166 rfl jg2 ?_
          refine r_bipush hJ (v := nI 116) dX5_isDone_167 (by decide) ?_
          refine r_icmp_ne hJ (tgt := 180) dX5_isDone_169 (by decide) (fun c169 => ?_) (fun c169 => ?_)
          · refine r_iload hJ dX5_isDone_180 jg6 ?_
            refine r_if_eq hJ (tgt := 201) dX5_isDone_182 (by decide) (fun c182 => ?_) (fun c182 => ?_)
            · exact absurd c182 (by decide)
            · refine r_iload_n hJ dX5_isDone_185 rfl jg2 ?_
              refine r_bipush hJ (v := nI 119) dX5_isDone_186 (by decide) ?_
              refine r_icmp_ne hJ (tgt := 201) dX5_isDone_188 (by decide) (fun c188 => ?_) (fun c188 => ?_)
              · refine r_iload hJ dX5_isDone_201 jg6 ?_
                refine r_if_eq hJ (tgt := 222) dX5_isDone_203 (by decide) (fun c203 => ?_) (fun c203 => ?_)
                · exact absurd c203 (by decide)
                · refine r_iload_n hJ dX5_isDone_206 rfl jg2 ?_
                  refine r_bipush hJ (v := nI 103) dX5_isDone_207 (by decide) ?_
                  refine r_icmp_ne hJ (tgt := 222) dX5_isDone_209 (by decide) (fun c209 => ?_) (fun c209 => ?_)
                  · refine r_iload hJ dX5_isDone_222 jg6 ?_
                    exact ret_z hF dX5_isDone_224 (by decide) (by rw [hres]; rfl) (by rw [hres]; rfl)
                  · exact absurd (hs.symm.trans c209) (by decide)
              · exact absurd (hs.symm.trans c188) (by decide)
          · exact absurd (hs.symm.trans c169) (by decide)
  have tail116 : ¬ s = nI 100 → s = nI 116 → J (setO S 10 T, x) 142 [some (.ref (ad E 10 0)), some (.int (nI k)), some (.int s), some (.int a), some (.int b), some (.int c), none] [.int (bI (mMayT (T 1) z a))] := by
    intro h1 hs
    have hwa : witQ a (nI 0) (nI 7) = true := by
      rcases hok with q | q | q | q
      · exact absurd (hs.symm.trans q.1) (by decide)
      · exact q.2.1
      · exact q.2.1
      · exact q.2.1
    rcases hmt : mMayT (T 1) z a with _ | _
    · exact tail0 (by simp [mDoneR, hs, n9c, hmt])
    · have hres : mDoneR (T 1) z s a b c = some (mGives (T 1) (toN (mFirst (T 1) (nI 1) z 0 0)) (toN a) b) := by simp [mDoneR, hs, n9c, hmt]
      show J (setO S 10 T, x) 142 [some (.ref (ad E 10 0)), some (.int (nI k)), some (.int s), some (.int a), some (.int b), some (.int c), none] [.int (nI 1)]
      refine r_istore hJ dX5_isDone_142 (jp6 rfl rfl) ?_
      refine r_iload hJ dX5_isDone_144 jg6 ?_
      refine r_if_eq hJ (tgt := 161) dX5_isDone_146 (by decide) (fun c146 => ?_) (fun c146 => ?_)
      · exact absurd c146 (by decide)
      · refine r_iload_n hJ dX5_isDone_149 rfl jg2 ?_
        refine r_bipush hJ (v := nI 100) dX5_isDone_150 (by decide) ?_
        refine r_icmp_ne hJ (tgt := 161) dX5_isDone_152 (by decide) (fun c152 => ?_) (fun c152 => ?_)
        · refine r_iload hJ dX5_isDone_161 jg6 ?_
          refine r_if_eq hJ (tgt := 180) dX5_isDone_163 (by decide) (fun c163 => ?_) (fun c163 => ?_)
          · exact absurd c163 (by decide)
          · refine r_iload_n hJ dX5_isDone_166 rfl jg2 ?_
            refine r_bipush hJ (v := nI 116) dX5_isDone_167 (by decide) ?_
            refine r_icmp_ne hJ (tgt := 180) dX5_isDone_169 (by decide) (fun c169 => ?_) (fun c169 => ?_)
            · exact absurd hs c169
            · refine r_aload_n hJ dX5_isDone_172 rfl jg0 ?_
              refine r_iload_n hJ dX5_isDone_173 rfl jg3 ?_
              refine r_iload hJ dX5_isDone_174 jg4 ?_
              obtain ⟨g, hg, hf⟩ := mMayT_1 hz6 hmt
              obtain ⟨e1, e2⟩ := wit_N (by decide) hwa
              have tg : toN (nI g) = g := toN_nI (by omega)
              have ht := c5_takes l E S x T hM (h := toN a) (g := g) (by omega) (by omega) hf b
              rw [← e1] at ht
              rw [hf, tg] at hres
              refine r_V2v hJ kX5_86 (rcv5 E) (ht) dX5_isDone_176 ⟨by decide, by decide⟩ (Nat.le_of_ble_eq_true rfl) ?_
              refine r_pop hJ dX5_isDone_179 rfl ?_
              refine r_iload hJ dX5_isDone_180 jg6 ?_
              refine r_if_eq hJ (tgt := 201) dX5_isDone_182 (by decide) (fun c182 => ?_) (fun c182 => ?_)
              · exact absurd c182 (by decide)
              · refine r_iload_n hJ dX5_isDone_185 rfl jg2 ?_
                refine r_bipush hJ (v := nI 119) dX5_isDone_186 (by decide) ?_
                refine r_icmp_ne hJ (tgt := 201) dX5_isDone_188 (by decide) (fun c188 => ?_) (fun c188 => ?_)
                · refine r_iload hJ dX5_isDone_201 jg6 ?_
                  refine r_if_eq hJ (tgt := 222) dX5_isDone_203 (by decide) (fun c203 => ?_) (fun c203 => ?_)
                  · exact absurd c203 (by decide)
                  · refine r_iload_n hJ dX5_isDone_206 rfl jg2 ?_
                    refine r_bipush hJ (v := nI 103) dX5_isDone_207 (by decide) ?_
                    refine r_icmp_ne hJ (tgt := 222) dX5_isDone_209 (by decide) (fun c209 => ?_) (fun c209 => ?_)
                    · refine r_iload hJ dX5_isDone_222 jg6 ?_
                      exact ret_z hF dX5_isDone_224 (by decide) (by rw [hres]; rfl) (by rw [hres]; rfl)
                    · exact absurd (hs.symm.trans c209) (by decide)
                · exact absurd (hs.symm.trans c188) (by decide)
        · exact absurd (hs.symm.trans c152) (by decide)
  have tail119 : s = nI 119 → witQ b (nI 0) (nI (z - 1)) = true → mMayW (T 1) z a (toN b) = true → J (setO S 10 T, x) 142 [some (.ref (ad E 10 0)), some (.int (nI k)), some (.int s), some (.int a), some (.int b), some (.int c), none] [.int (nI 1)] := by
    intro hs hwb hmw
    have hwa : witQ a (nI 0) (nI 7) = true := by
      rcases hok with q | q | q | q
      · exact absurd (hs.symm.trans q.1) (by decide)
      · exact q.2.1
      · exact q.2.1
      · exact q.2.1
    have hres : mDoneR (T 1) z s a b c = some (mWishes (T 1) (toN a) (toN b) c).1 := by simp [mDoneR, hs, n9a, n9b, hwb, hmw]
    refine r_istore hJ dX5_isDone_142 (jp6 rfl rfl) ?_
    refine r_iload hJ dX5_isDone_144 jg6 ?_
    refine r_if_eq hJ (tgt := 161) dX5_isDone_146 (by decide) (fun c146 => ?_) (fun c146 => ?_)
    · exact absurd c146 (by decide)
    · refine r_iload_n hJ dX5_isDone_149 rfl jg2 ?_
      refine r_bipush hJ (v := nI 100) dX5_isDone_150 (by decide) ?_
      refine r_icmp_ne hJ (tgt := 161) dX5_isDone_152 (by decide) (fun c152 => ?_) (fun c152 => ?_)
      · refine r_iload hJ dX5_isDone_161 jg6 ?_
        refine r_if_eq hJ (tgt := 180) dX5_isDone_163 (by decide) (fun c163 => ?_) (fun c163 => ?_)
        · exact absurd c163 (by decide)
        · refine r_iload_n hJ dX5_isDone_166 rfl jg2 ?_
          refine r_bipush hJ (v := nI 116) dX5_isDone_167 (by decide) ?_
          refine r_icmp_ne hJ (tgt := 180) dX5_isDone_169 (by decide) (fun c169 => ?_) (fun c169 => ?_)
          · refine r_iload hJ dX5_isDone_180 jg6 ?_
            refine r_if_eq hJ (tgt := 201) dX5_isDone_182 (by decide) (fun c182 => ?_) (fun c182 => ?_)
            · exact absurd c182 (by decide)
            · refine r_iload_n hJ dX5_isDone_185 rfl jg2 ?_
              refine r_bipush hJ (v := nI 119) dX5_isDone_186 (by decide) ?_
              refine r_icmp_ne hJ (tgt := 201) dX5_isDone_188 (by decide) (fun c188 => ?_) (fun c188 => ?_)
              · exact absurd hs c188
              · refine r_aload_n hJ dX5_isDone_191 rfl jg0 ?_
                refine r_iload_n hJ dX5_isDone_192 rfl jg3 ?_
                refine r_iload hJ dX5_isDone_193 jg4 ?_
                refine r_iload hJ dX5_isDone_195 jg5 ?_
                obtain ⟨n1, n2⟩ := wit_N (by omega) hwb
                obtain ⟨e1, e2⟩ := wit_N (by decide) hwa
                obtain ⟨-, w, hw, hQ⟩ := hM.2 (toN b) (by omega)
                have hwi := c5_wishes l E S x T hM (n := toN b) (h := toN a) (by omega) (by omega) (mMayW_3 hw hQ hmw) c
                rw [← e1, ← n1] at hwi
                refine r_V3v hJ kX5_104 (rcv5 E) (hwi) dX5_isDone_197 ⟨by decide, by decide⟩ (Nat.le_of_ble_eq_true rfl) ?_
                refine r_pop hJ dX5_isDone_200 rfl ?_
                refine r_iload hJ dX5_isDone_201 jg6 ?_
                refine r_if_eq hJ (tgt := 222) dX5_isDone_203 (by decide) (fun c203 => ?_) (fun c203 => ?_)
                · exact absurd c203 (by decide)
                · refine r_iload_n hJ dX5_isDone_206 rfl jg2 ?_
                  refine r_bipush hJ (v := nI 103) dX5_isDone_207 (by decide) ?_
                  refine r_icmp_ne hJ (tgt := 222) dX5_isDone_209 (by decide) (fun c209 => ?_) (fun c209 => ?_)
                  · refine r_iload hJ dX5_isDone_222 jg6 ?_
                    exact ret_z hF dX5_isDone_224 (by decide) (by rw [hres]; rfl) (by rw [hres]; rfl)
                  · exact absurd (hs.symm.trans c209) (by decide)
          · exact absurd (hs.symm.trans c169) (by decide)
      · exact absurd (hs.symm.trans c152) (by decide)
  have tail103 : ¬ s = nI 100 → ¬ s = nI 116 → ¬ s = nI 119 → witQ b (nI 0) (nI (z - 1)) = true → witQ c (nI 0) (nI (z - 1)) = true → J (setO S 10 T, x) 142 [some (.ref (ad E 10 0)), some (.int (nI k)), some (.int s), some (.int a), some (.int b), some (.int c), none] [.int (nI 1)] := by
    intro h1 h2 h3 hwb hwc
    have hs : s = nI 103 := by
      rcases hok with q | q | q | q
      · exact absurd q.1 h1
      · exact absurd q.1 h2
      · exact absurd q.1 h3
      · exact q.1
    have hres : mDoneR (T 1) z s a b c = some (mBack z a (toN c + 1 - toN b) (toN b) (T 1, 0)).1 := by simp [mDoneR, h1, h2, h3, hwb, hwc]
    refine r_istore hJ dX5_isDone_142 (jp6 rfl rfl) ?_
    refine r_iload hJ dX5_isDone_144 jg6 ?_
    refine r_if_eq hJ (tgt := 161) dX5_isDone_146 (by decide) (fun c146 => ?_) (fun c146 => ?_)
    · exact absurd c146 (by decide)
    · refine r_iload_n hJ dX5_isDone_149 rfl jg2 ?_
      refine r_bipush hJ (v := nI 100) dX5_isDone_150 (by decide) ?_
      refine r_icmp_ne hJ (tgt := 161) dX5_isDone_152 (by decide) (fun c152 => ?_) (fun c152 => ?_)
      · refine r_iload hJ dX5_isDone_161 jg6 ?_
        refine r_if_eq hJ (tgt := 180) dX5_isDone_163 (by decide) (fun c163 => ?_) (fun c163 => ?_)
        · exact absurd c163 (by decide)
        · refine r_iload_n hJ dX5_isDone_166 rfl jg2 ?_
          refine r_bipush hJ (v := nI 116) dX5_isDone_167 (by decide) ?_
          refine r_icmp_ne hJ (tgt := 180) dX5_isDone_169 (by decide) (fun c169 => ?_) (fun c169 => ?_)
          · refine r_iload hJ dX5_isDone_180 jg6 ?_
            refine r_if_eq hJ (tgt := 201) dX5_isDone_182 (by decide) (fun c182 => ?_) (fun c182 => ?_)
            · exact absurd c182 (by decide)
            · refine r_iload_n hJ dX5_isDone_185 rfl jg2 ?_
              refine r_bipush hJ (v := nI 119) dX5_isDone_186 (by decide) ?_
              refine r_icmp_ne hJ (tgt := 201) dX5_isDone_188 (by decide) (fun c188 => ?_) (fun c188 => ?_)
              · refine r_iload hJ dX5_isDone_201 jg6 ?_
                refine r_if_eq hJ (tgt := 222) dX5_isDone_203 (by decide) (fun c203 => ?_) (fun c203 => ?_)
                · exact absurd c203 (by decide)
                · refine r_iload_n hJ dX5_isDone_206 rfl jg2 ?_
                  refine r_bipush hJ (v := nI 103) dX5_isDone_207 (by decide) ?_
                  refine r_icmp_ne hJ (tgt := 222) dX5_isDone_209 (by decide) (fun c209 => ?_) (fun c209 => ?_)
                  · exact absurd hs c209
                  · refine r_aload_n hJ dX5_isDone_212 rfl jg0 ?_
                    refine r_iload_n hJ dX5_isDone_213 rfl jg3 ?_
                    refine r_iload hJ dX5_isDone_214 jg4 ?_
                    refine r_iload hJ dX5_isDone_216 jg5 ?_
                    obtain ⟨a1, a2⟩ := wit_N (by omega) hwb
                    obtain ⟨b1, b2⟩ := wit_N (by omega) hwc
                    have hgb := c5_givesBack l E S x T hM a (a := toN b) (b := toN c) (by omega) (by omega)
                    rw [← a1, ← b1] at hgb
                    refine r_V3v hJ kX5_108 (rcv5 E) (hgb) dX5_isDone_218 ⟨by decide, by decide⟩ (Nat.le_of_ble_eq_true rfl) ?_
                    refine r_pop hJ dX5_isDone_221 rfl ?_
                    refine r_iload hJ dX5_isDone_222 jg6 ?_
                    exact ret_z hF dX5_isDone_224 (by decide) (by rw [hres]; rfl) (by rw [hres]; rfl)
              · exact absurd (hs.symm.trans c188) (by decide)
          · exact absurd (hs.symm.trans c169) (by decide)
      · exact absurd (hs.symm.trans c152) (by decide)
  refine r_aload_n hJ dX5_isDone_0 rfl jg0 ?_
  refine r_g5_10 hJ m801 dX5_isDone_1 ?_
  refine r_iconst hJ (v := nI 4) dX5_isDone_4 (by decide) ?_
  refine r_iload_n hJ dX5_isDone_5 rfl jg1 ?_
  refine r_imulN hJ dX5_isDone_6 ?_
  refine r_ialdO hJ (by omega) (alM5 (by omega)) rfl dX5_isDone_7 ?_
  rw [hs]
  refine r_istore_n hJ dX5_isDone_8 rfl (jp2 rfl rfl) ?_
  refine r_aload_n hJ dX5_isDone_9 rfl jg0 ?_
  refine r_g5_10 hJ m801 dX5_isDone_10 ?_
  refine r_iconst hJ (v := nI 4) dX5_isDone_13 (by decide) ?_
  refine r_iload_n hJ dX5_isDone_14 rfl jg1 ?_
  refine r_imulN hJ dX5_isDone_15 ?_
  refine r_iconst hJ (v := nI 1) dX5_isDone_16 (by decide) ?_
  refine r_iaddN hJ dX5_isDone_17 ?_
  refine r_ialdO hJ (by omega) (alM5 (by omega)) rfl dX5_isDone_18 ?_
  rw [ha]
  refine r_istore_n hJ dX5_isDone_19 rfl (jp3 rfl rfl) ?_
  refine r_aload_n hJ dX5_isDone_20 rfl jg0 ?_
  refine r_g5_10 hJ m801 dX5_isDone_21 ?_
  refine r_iconst hJ (v := nI 4) dX5_isDone_24 (by decide) ?_
  refine r_iload_n hJ dX5_isDone_25 rfl jg1 ?_
  refine r_imulN hJ dX5_isDone_26 ?_
  refine r_iconst hJ (v := nI 2) dX5_isDone_27 (by decide) ?_
  refine r_iaddN hJ dX5_isDone_28 ?_
  refine r_ialdO hJ (by omega) (alM5 (by omega)) rfl dX5_isDone_29 ?_
  rw [hb]
  refine r_istore hJ dX5_isDone_30 (jp4 rfl rfl) ?_
  refine r_aload_n hJ dX5_isDone_32 rfl jg0 ?_
  refine r_g5_10 hJ m801 dX5_isDone_33 ?_
  refine r_iconst hJ (v := nI 4) dX5_isDone_36 (by decide) ?_
  refine r_iload_n hJ dX5_isDone_37 rfl jg1 ?_
  refine r_imulN hJ dX5_isDone_38 ?_
  refine r_iconst hJ (v := nI 3) dX5_isDone_39 (by decide) ?_
  refine r_iaddN hJ dX5_isDone_40 ?_
  refine r_ialdO hJ (by omega) (alM5 (by omega)) rfl dX5_isDone_41 ?_
  rw [hc]
  refine r_istore hJ dX5_isDone_42 (jp5 rfl rfl) ?_
  refine r_iload_n hJ dX5_isDone_44 rfl jg2 ?_
  refine r_bipush hJ (v := nI 100) dX5_isDone_45 (by decide) ?_
  refine r_icmp_ne hJ (tgt := 72) dX5_isDone_47 (by decide) (fun c47 => ?_) (fun c47 => ?_)
  · refine r_iload_n hJ dX5_isDone_72 rfl jg2 ?_
    refine r_bipush hJ (v := nI 116) dX5_isDone_73 (by decide) ?_
    refine r_icmp_ne hJ (tgt := 86) dX5_isDone_75 (by decide) (fun c75 => ?_) (fun c75 => ?_)
    · refine r_iload_n hJ dX5_isDone_86 rfl jg2 ?_
      refine r_bipush hJ (v := nI 119) dX5_isDone_87 (by decide) ?_
      refine r_icmp_ne hJ (tgt := 119) dX5_isDone_89 (by decide) (fun c89 => ?_) (fun c89 => ?_)
      · refine r_aload_n hJ dX5_isDone_119 rfl jg0 ?_
        refine r_iload hJ dX5_isDone_120 jg4 ?_
        refine r_V1v hJ kX5_97 (rcv5 E) (c5_isNumber l E S x T (z := z) (by omega) hz b) dX5_isDone_122 ⟨by decide, by decide⟩ (Nat.le_of_ble_eq_true rfl) ?_
        refine r_if_eq hJ (tgt := 141) dX5_isDone_125 (by decide) (fun c125 => ?_) (fun c125 => ?_)
        · have c125 : witQ b (nI 0) (nI (z - 1)) = false := bI_0.mp c125
          refine r_iconst hJ (v := nI 0) dX5_isDone_141 (by decide) ?_
          exact tail0 (by simp [mDoneR, c47, c75, c89, c125])
        · have c125 : witQ b (nI 0) (nI (z - 1)) = true := bI_ne c125
          refine r_aload_n hJ dX5_isDone_128 rfl jg0 ?_
          refine r_iload hJ dX5_isDone_129 jg5 ?_
          refine r_V1v hJ kX5_97 (rcv5 E) (c5_isNumber l E S x T (z := z) (by omega) hz c) dX5_isDone_131 ⟨by decide, by decide⟩ (Nat.le_of_ble_eq_true rfl) ?_
          refine r_if_eq hJ (tgt := 141) dX5_isDone_134 (by decide) (fun c134 => ?_) (fun c134 => ?_)
          · have c134 : witQ c (nI 0) (nI (z - 1)) = false := bI_0.mp c134
            refine r_iconst hJ (v := nI 0) dX5_isDone_141 (by decide) ?_
            exact tail0 (by simp [mDoneR, c47, c75, c89, c125, c134])
          · have c134 : witQ c (nI 0) (nI (z - 1)) = true := bI_ne c134
            refine r_iconst hJ (v := nI 1) dX5_isDone_137 (by decide) ?_
            refine r_goto hJ (tgt := 142) dX5_isDone_138 (by decide) ?_
            exact tail103 c47 c75 c89 c125 c134
      · refine r_aload_n hJ dX5_isDone_92 rfl jg0 ?_
        refine r_iload hJ dX5_isDone_93 jg4 ?_
        refine r_V1v hJ kX5_97 (rcv5 E) (c5_isNumber l E S x T (z := z) (by omega) hz b) dX5_isDone_95 ⟨by decide, by decide⟩ (Nat.le_of_ble_eq_true rfl) ?_
        refine r_if_eq hJ (tgt := 115) dX5_isDone_98 (by decide) (fun c98 => ?_) (fun c98 => ?_)
        · have c98 : witQ b (nI 0) (nI (z - 1)) = false := bI_0.mp c98
          refine r_iconst hJ (v := nI 0) dX5_isDone_115 (by decide) ?_
          refine r_goto hJ (tgt := 142) dX5_isDone_116 (by decide) ?_
          exact tail0 (by simp [mDoneR, c47, c75, c89, n9a, n9b, c98])
        · have c98 : witQ b (nI 0) (nI (z - 1)) = true := bI_ne c98
          refine r_aload_n hJ dX5_isDone_101 rfl jg0 ?_
          refine r_iload_n hJ dX5_isDone_102 rfl jg3 ?_
          refine r_iload hJ dX5_isDone_103 jg4 ?_
          obtain ⟨n1, n2⟩ := wit_N (by omega) c98
          have hmy := c5_mayWish l E S x T hM (n := toN b) (by omega) a
          rw [← n1] at hmy
          refine r_V2v hJ kX5_100 (rcv5 E) (hmy) dX5_isDone_105 ⟨by decide, by decide⟩ (Nat.le_of_ble_eq_true rfl) ?_
          refine r_if_eq hJ (tgt := 115) dX5_isDone_108 (by decide) (fun c108 => ?_) (fun c108 => ?_)
          · have c108 : mMayW (T 1) z a (toN b) = false := bI_0.mp c108
            refine r_iconst hJ (v := nI 0) dX5_isDone_115 (by decide) ?_
            refine r_goto hJ (tgt := 142) dX5_isDone_116 (by decide) ?_
            exact tail0 (by simp [mDoneR, c47, c75, c89, n9a, n9b, c98, c108])
          · have c108 : mMayW (T 1) z a (toN b) = true := bI_ne c108
            refine r_iconst hJ (v := nI 1) dX5_isDone_111 (by decide) ?_
            refine r_goto hJ (tgt := 142) dX5_isDone_112 (by decide) ?_
            exact tail119 c89 c98 c108
    · refine r_aload_n hJ dX5_isDone_78 rfl jg0 ?_
      refine r_iload_n hJ dX5_isDone_79 rfl jg3 ?_
      refine r_V1v hJ kX5_80 (rcv5 E) (c5_mayTake l E S x T hM a) dX5_isDone_80 ⟨by decide, by decide⟩ (Nat.le_of_ble_eq_true rfl) ?_
      refine r_goto hJ (tgt := 142) dX5_isDone_83 (by decide) ?_
      exact tail116 c47 c75
  · refine r_aload_n hJ dX5_isDone_50 rfl jg0 ?_
    refine r_g5_0 hJ m791 dX5_isDone_51 ?_
    refine r_iconst hJ (v := nI 0) dX5_isDone_54 (by decide) ?_
    refine r_ialdO hJ (by omega) (alM1 (by omega)) rfl dX5_isDone_55 ?_
    refine r_iload_n hJ dX5_isDone_56 rfl jg3 ?_
    refine r_iadd hJ dX5_isDone_57 ?_
    refine r_sipush hJ (v := nI 9999) dX5_isDone_58 (by decide) ?_
    refine r_icmp_gt hJ (tgt := 68) dX5_isDone_61 (by decide) (fun c61 => ?_) (fun c61 => ?_)
    · have c61 := Int32.not_le.mpr c61
      refine r_iconst hJ (v := nI 0) dX5_isDone_68 (by decide) ?_
      refine r_goto hJ (tgt := 142) dX5_isDone_69 (by decide) ?_
      exact tail0 (by simp [mDoneR, c47, c61])
    · have c61 := Int32.not_lt.mp c61
      refine r_iconst hJ (v := nI 1) dX5_isDone_64 (by decide) ?_
      refine r_goto hJ (tgt := 142) dX5_isDone_65 (by decide) ?_
      exact tail100 c47 (by simp [mDoneR, c47, c61])
