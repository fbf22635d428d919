def mSpV (q n lo : Int32) : Int32 := if q = 0 then n else if q = nI 1 then lo else -1
def mSpN (r : Nat → Int32) (z : Nat) (s q : Int32) : Nat → Nat → Int32 → Int32 → Int32 → Int32
  | 0, _, n, lo, _ => mSpV q n lo
  | k + 1, i, n, lo, run =>
    if i < z ∧ mFree r i = true then mSpN r z s q k (i + 1) n lo (run + nI 1)
    else if 0 < run ∧ n = s ∧ nI 1 < q then (if q = nI 2 then nI i - run else run)
    else mSpN r z s q k (i + 1) (n + (if 0 < run then nI 1 else nI 0)) (if lo < run then run else lo) (nI 0)
def mSpans (r : Nat → Int32) (z : Nat) (s q : Int32) : Int32 := mSpN r z s q (z + 1) 0 (nI 0) (nI 0) (nI 0)
set_option maxRecDepth 100000 in
set_option maxHeartbeats 1000000 in
theorem c5_spans (l : Launch) (E : jE) (S : jS) (x : jX) (T : jO) {z : Nat} (hM : MI (T 1) z) (s q : Int32) : Ct l E yX5_spans cX5_spans 8 (some .int) 3 [.ref (ad E 10 0), .int s, .int q] (setO S 10 T, x) (some (.int (mSpans (T 1) z s q))) (setO S 10 T, x) := by
  refine Ct.of (by decide +kernel) (Nat.le_refl _) (Nat.le_of_ble_eq_true rfl) rfl (fun J hJ hF => ?_)
  have hz := hM.1.1
  have hz6 := hM.1.2.2
  have hz4 := hM.1.2.1
  have loop : ∀ (k i : Nat) (n lo run : Int32), i + k = z + 1 → mSpN (T 1) z s q k i n lo run = mSpans (T 1) z s q → J (setO S 10 T, x) 19 [some (.ref (ad E 10 0)), some (.int s), some (.int q), some (.int n), some (.int lo), some (.int run), some (.int (nI z)), some (.int (nI i))] [] := by
    intro k
    induction k with
    | zero =>
      intro i n lo run hi he
      obtain rfl : i = z + 1 := by omega
      refine r_iload hJ dX5_spans_19 jg7 ?_
      refine r_iload hJ dX5_spans_21 jg6 ?_
      refine r_icmp_gt hJ (tgt := 120) dX5_spans_23 (by decide) (fun c23 => ?_) (fun c23 => ?_)
      · refine r_iload_n hJ dX5_spans_120 rfl jg2 ?_
        refine r_if_ne hJ (tgt := 128) dX5_spans_121 (by decide) (fun c121 => ?_) (fun c121 => ?_)
        · refine r_iload_n hJ dX5_spans_128 rfl jg2 ?_
          refine r_iconst hJ (v := nI 1) dX5_spans_129 (by decide) ?_
          refine r_icmp_ne hJ (tgt := 138) dX5_spans_130 (by decide) (fun c130 => ?_) (fun c130 => ?_)
          · refine r_iconst hJ (v := (-1)) dX5_spans_138 (by decide) ?_
            exact ret_i hF dX5_spans_139 (by rw [← he]; simp only [mSpN, mSpV, c23, c121, c130, if_true, if_false, n10] <;> rfl) rfl
          · refine r_iload hJ dX5_spans_133 jg4 ?_
            refine r_goto hJ (tgt := 139) dX5_spans_135 (by decide) ?_
            exact ret_i hF dX5_spans_139 (by rw [← he]; simp only [mSpN, mSpV, c23, c121, c130, if_true, if_false, n10] <;> rfl) rfl
        · refine r_iload_n hJ dX5_spans_124 rfl jg3 ?_
          refine r_goto hJ (tgt := 139) dX5_spans_125 (by decide) ?_
          exact ret_i hF dX5_spans_139 (by rw [← he]; simp only [mSpN, mSpV, c23, c121, if_true, if_false, n10] <;> rfl) rfl
      · exact absurd (show nI z < nI (z + 1) from nI_lt (by omega) (by omega)) c23
    | succ k ih =>
      intro i n lo run hi he
      have t51 : ¬ (i < z ∧ mFree (T 1) i = true) → J (setO S 10 T, x) 51 [some (.ref (ad E 10 0)), some (.int s), some (.int q), some (.int n), some (.int lo), some (.int run), some (.int (nI z)), some (.int (nI i))] [] := by
        intro hnf
        have he1 : 0 < run ∧ n = s ∧ nI 1 < q → (if q = nI 2 then nI i - run else run) = mSpans (T 1) z s q := fun w => by
          rw [← he, mSpN, if_neg hnf, if_pos w]
        have he2 : ¬ (0 < run ∧ n = s ∧ nI 1 < q) → mSpN (T 1) z s q k (i + 1) (n + (if 0 < run then nI 1 else nI 0)) (if lo < run then run else lo) (nI 0) = mSpans (T 1) z s q := fun w => by
          rw [← he, mSpN, if_neg hnf, if_neg w]
        have t82 : ¬ (0 < run ∧ n = s ∧ nI 1 < q) → J (setO S 10 T, x) 82 [some (.ref (ad E 10 0)), some (.int s), some (.int q), some (.int n), some (.int lo), some (.int run), some (.int (nI z)), some (.int (nI i))] [] := by
          intro hno
          refine r_iload_n hJ dX5_spans_82 rfl jg3 ?_
          refine r_iload hJ dX5_spans_83 jg5 ?_
          refine r_if_le hJ (tgt := 92) dX5_spans_85 (by decide) (fun c85 => ?_) (fun c85 => ?_)
          · have c85 := Int32.not_lt.mpr c85
            refine r_iconst hJ (v := nI 0) dX5_spans_92 (by decide) ?_
            refine r_iadd hJ dX5_spans_93 ?_
            refine r_istore_n hJ dX5_spans_94 rfl (jp3 rfl rfl) ?_
            refine r_iload hJ dX5_spans_95 jg5 ?_
            refine r_iload hJ dX5_spans_97 jg4 ?_
            refine r_icmp_le hJ (tgt := 107) dX5_spans_99 (by decide) (fun c99 => ?_) (fun c99 => ?_)
            · have c99 := Int32.not_lt.mpr c99
              refine r_iload hJ dX5_spans_107 jg4 ?_
              refine r_istore hJ dX5_spans_109 (jp4 rfl rfl) ?_
              refine r_iconst hJ (v := nI 0) dX5_spans_111 (by decide) ?_
              refine r_istore hJ dX5_spans_112 (jp5 rfl rfl) ?_
              refine r_iinc hJ dX5_spans_114 jg7 (ii1 _) (jp7 rfl rfl) ?_
              refine r_goto hJ (tgt := 19) dX5_spans_117 (by decide) ?_
              exact ih (i + 1) _ _ _ (by omega) (by rw [← he2 hno, if_neg c85, if_neg c99])
            · have c99 := Int32.not_le.mp c99
              refine r_iload hJ dX5_spans_102 jg5 ?_
              refine r_goto hJ (tgt := 109) dX5_spans_104 (by decide) ?_
              refine r_istore hJ dX5_spans_109 (jp4 rfl rfl) ?_
              refine r_iconst hJ (v := nI 0) dX5_spans_111 (by decide) ?_
              refine r_istore hJ dX5_spans_112 (jp5 rfl rfl) ?_
              refine r_iinc hJ dX5_spans_114 jg7 (ii1 _) (jp7 rfl rfl) ?_
              refine r_goto hJ (tgt := 19) dX5_spans_117 (by decide) ?_
              exact ih (i + 1) _ _ _ (by omega) (by rw [← he2 hno, if_neg c85, if_pos c99])
          · have c85 := Int32.not_le.mp c85
            refine r_iconst hJ (v := nI 1) dX5_spans_88 (by decide) ?_
            refine r_goto hJ (tgt := 93) dX5_spans_89 (by decide) ?_
            refine r_iadd hJ dX5_spans_93 ?_
            refine r_istore_n hJ dX5_spans_94 rfl (jp3 rfl rfl) ?_
            refine r_iload hJ dX5_spans_95 jg5 ?_
            refine r_iload hJ dX5_spans_97 jg4 ?_
            refine r_icmp_le hJ (tgt := 107) dX5_spans_99 (by decide) (fun c99 => ?_) (fun c99 => ?_)
            · have c99 := Int32.not_lt.mpr c99
              refine r_iload hJ dX5_spans_107 jg4 ?_
              refine r_istore hJ dX5_spans_109 (jp4 rfl rfl) ?_
              refine r_iconst hJ (v := nI 0) dX5_spans_111 (by decide) ?_
              refine r_istore hJ dX5_spans_112 (jp5 rfl rfl) ?_
              refine r_iinc hJ dX5_spans_114 jg7 (ii1 _) (jp7 rfl rfl) ?_
              refine r_goto hJ (tgt := 19) dX5_spans_117 (by decide) ?_
              exact ih (i + 1) _ _ _ (by omega) (by rw [← he2 hno, if_pos c85, if_neg c99])
            · have c99 := Int32.not_le.mp c99
              refine r_iload hJ dX5_spans_102 jg5 ?_
              refine r_goto hJ (tgt := 109) dX5_spans_104 (by decide) ?_
              refine r_istore hJ dX5_spans_109 (jp4 rfl rfl) ?_
              refine r_iconst hJ (v := nI 0) dX5_spans_111 (by decide) ?_
              refine r_istore hJ dX5_spans_112 (jp5 rfl rfl) ?_
              refine r_iinc hJ dX5_spans_114 jg7 (ii1 _) (jp7 rfl rfl) ?_
              refine r_goto hJ (tgt := 19) dX5_spans_117 (by decide) ?_
              exact ih (i + 1) _ _ _ (by omega) (by rw [← he2 hno, if_pos c85, if_pos c99])
        refine r_iload hJ dX5_spans_51 jg5 ?_
        refine r_if_le hJ (tgt := 82) dX5_spans_53 (by decide) (fun c53 => ?_) (fun c53 => ?_)
        · have c53 := Int32.not_lt.mpr c53
          exact t82 (fun q => absurd q.1 c53)
        · have c53 := Int32.not_le.mp c53
          refine r_iload_n hJ dX5_spans_56 rfl jg3 ?_
          refine r_iload_n hJ dX5_spans_57 rfl jg1 ?_
          refine r_icmp_ne hJ (tgt := 82) dX5_spans_58 (by decide) (fun c58 => ?_) (fun c58 => ?_)
          · exact t82 (fun q => c58 q.2.1)
          · refine r_iload_n hJ dX5_spans_61 rfl jg2 ?_
            refine r_iconst hJ (v := nI 1) dX5_spans_62 (by decide) ?_
            refine r_icmp_le hJ (tgt := 82) dX5_spans_63 (by decide) (fun c63 => ?_) (fun c63 => ?_)
            · have c63 := Int32.not_lt.mpr c63
              exact t82 (fun q => absurd q.2.2 c63)
            · have c63 := Int32.not_le.mp c63
              refine r_iload_n hJ dX5_spans_66 rfl jg2 ?_
              refine r_iconst hJ (v := nI 2) dX5_spans_67 (by decide) ?_
              refine r_icmp_ne hJ (tgt := 79) dX5_spans_68 (by decide) (fun c68 => ?_) (fun c68 => ?_)
              · have c68 : ¬ q = nI 2 := c68
                refine r_iload hJ dX5_spans_79 jg5 ?_
                exact ret_i hF dX5_spans_81 (by rw [← he1 ⟨c53, c58, c63⟩]; simp only [c68, if_true, if_false]) rfl
              · have c68 : q = nI 2 := c68
                refine r_iload hJ dX5_spans_71 jg7 ?_
                refine r_iload hJ dX5_spans_73 jg5 ?_
                refine r_isub hJ dX5_spans_75 ?_
                refine r_goto hJ (tgt := 81) dX5_spans_76 (by decide) ?_
                exact ret_i hF dX5_spans_81 (by rw [← he1 ⟨c53, c58, c63⟩]; simp only [c68, if_true, if_false]) rfl
      refine r_iload hJ dX5_spans_19 jg7 ?_
      refine r_iload hJ dX5_spans_21 jg6 ?_
      refine r_icmp_gt hJ (tgt := 120) dX5_spans_23 (by decide) (fun c23 => ?_) (fun c23 => ?_)
      · exact absurd (show nI z < nI i from c23) (nI_nlt (by omega) (by omega))
      · refine r_iload hJ dX5_spans_26 jg7 ?_
        refine r_iload hJ dX5_spans_28 jg6 ?_
        refine r_icmp_ge hJ (tgt := 51) dX5_spans_30 (by decide) (fun c30 => ?_) (fun c30 => ?_)
        · have c30 : ¬ i < z := fun q => absurd (show nI z ≤ nI i from c30) (nI_ge q (by omega))
          exact t51 (fun q => c30 q.1)
        · have c30 : i < z := by
            rcases Nat.lt_or_ge i z with q | q
            · exact q
            · exact absurd (show nI z ≤ nI i from nI_le q (by omega)) c30
          refine r_aload_n hJ dX5_spans_33 rfl jg0 ?_
          refine r_g5_0 hJ m791 dX5_spans_34 ?_
          refine r_iload hJ dX5_spans_37 jg7 ?_
          refine r_S2v hJ kX5_43 (h5_isFree l E S x T (Or.inl rfl) (n := i) (by omega)) dX5_spans_39 ⟨by decide, by decide⟩ (Nat.le_of_ble_eq_true rfl) ?_
          refine r_if_eq hJ (tgt := 51) dX5_spans_42 (by decide) (fun c42 => ?_) (fun c42 => ?_)
          · have c42 : mFree (T 1) i = false := bI_0.mp c42
            exact t51 (fun q => absurd q.2 (by rw [c42]; decide))
          · have c42 : mFree (T 1) i = true := bI_ne c42
            refine r_iinc hJ dX5_spans_45 jg5 (show run + Int32.ofInt 1 = run + nI 1 from rfl) (jp5 rfl rfl) ?_
            refine r_goto hJ (tgt := 114) dX5_spans_48 (by decide) ?_
            refine r_iinc hJ dX5_spans_114 jg7 (ii1 _) (jp7 rfl rfl) ?_
            refine r_goto hJ (tgt := 19) dX5_spans_117 (by decide) ?_
            exact ih (i + 1) _ _ _ (by omega) (by rw [← he, mSpN, if_pos ⟨c30, c42⟩])
  refine r_iconst hJ (v := nI 0) dX5_spans_0 (by decide) ?_
  refine r_istore_n hJ dX5_spans_1 rfl (jp3 rfl rfl) ?_
  refine r_iconst hJ (v := nI 0) dX5_spans_2 (by decide) ?_
  refine r_istore hJ dX5_spans_3 (jp4 rfl rfl) ?_
  refine r_iconst hJ (v := nI 0) dX5_spans_5 (by decide) ?_
  refine r_istore hJ dX5_spans_6 (jp5 rfl rfl) ?_
  refine r_aload_n hJ dX5_spans_8 rfl jg0 ?_
  refine r_g5_0 hJ m791 dX5_spans_9 ?_
  refine r_iconst hJ (v := nI 4) dX5_spans_12 (by decide) ?_
  refine r_ialdO hJ (by omega) (alM1 (by omega)) rfl dX5_spans_13 ?_
  rw [show T 1 4 = nI z from hz]
  refine r_istore hJ dX5_spans_14 (jp6 rfl rfl) ?_
  refine r_iconst hJ (v := nI 0) dX5_spans_16 (by decide) ?_
  refine r_istore hJ dX5_spans_17 (jp7 rfl rfl) ?_
  exact loop (z + 1) 0 _ _ _ (by omega) rfl

def mSpanQ (T : jO) (z : Nat) (s q : Int32) : Int32 × jO :=
  if ¬ s < 0 ∧ witQ q (nI 0) (nI 1) = true then (mSpans (T 1) z s (q + nI 2), thr T (nI 0)) else (nI 0, thr (thr T (nI 0)) (nI 1))
set_option maxRecDepth 100000 in
set_option maxHeartbeats 1000000 in
theorem c5_span (l : Launch) (E : jE) (S : jS) (x : jX) (T : jO) {z : Nat} (hM : MI (T 1) z) (s q : Int32) : Ct l E yX5_span cX5_span 3 (some .int) 4 [.ref (ad E 10 0), .int s, .int q] (setO S 10 T, x) (some (.int (mSpanQ T z s q).1)) (setO S 10 (mSpanQ T z s q).2, x) := by
  refine Ct.of (by decide +kernel) (Nat.le_refl _) (Nat.le_of_ble_eq_true rfl) rfl (fun J hJ hF => ?_)
  refine r_aload_n hJ dX5_span_0 rfl jg0 ?_
  refine r_iconst hJ (v := nI 0) dX5_span_1 (by decide) ?_
  refine r_p5_6 hJ m797 dX5_span_2 ?_
  refine r_iload_n hJ dX5_span_5 rfl jg1 ?_
  refine r_if_lt hJ (tgt := 18) dX5_span_6 (by decide) (fun c6 => ?_) (fun c6 => ?_)
  · refine r_aload_n hJ dX5_span_18 rfl jg0 ?_
    refine r_iconst hJ (v := nI 1) dX5_span_19 (by decide) ?_
    refine r_V1v hJ kX5_36 (rcv5 E) (c5_fails l E _ x _ (nI 1)) dX5_span_20 ⟨by decide, by decide⟩ (Nat.le_of_ble_eq_true rfl) ?_
    exact ret_i hF dX5_span_23 (by unfold mSpanQ; rw [if_neg (fun w => w.1 c6)] <;> rfl) (by unfold mSpanQ; rw [if_neg (fun w => w.1 c6)] <;> rfl)
  · refine r_iload_n hJ dX5_span_9 rfl jg2 ?_
    refine r_iconst hJ (v := nI 0) dX5_span_10 (by decide) ?_
    refine r_iconst hJ (v := nI 1) dX5_span_11 (by decide) ?_
    refine r_S3v hJ kX5_29 (c5_in l E _ x q (nI 0) (nI 1)) dX5_span_12 ⟨by decide, by decide⟩ (Nat.le_of_ble_eq_true rfl) ?_
    refine r_if_ne hJ (tgt := 24) dX5_span_15 (by decide) (fun c15 => ?_) (fun c15 => ?_)
    · have c15 : witQ q (nI 0) (nI 1) = true := bI_ne c15
      refine r_aload_n hJ dX5_span_24 rfl jg0 ?_
      refine r_iload_n hJ dX5_span_25 rfl jg1 ?_
      refine r_iload_n hJ dX5_span_26 rfl jg2 ?_
      refine r_iconst hJ (v := nI 2) dX5_span_27 (by decide) ?_
      refine r_iadd hJ dX5_span_28 ?_
      refine r_V2v hJ kX5_171 (rcv5 E) (c5_spans l E S x (thr T (nI 0)) hM s (q + nI 2)) dX5_span_29 ⟨by decide, by decide⟩ (Nat.le_of_ble_eq_true rfl) ?_
      exact ret_i hF dX5_span_32 (by unfold mSpanQ; rw [if_pos ⟨c6, c15⟩] <;> rfl) (by unfold mSpanQ; rw [if_pos ⟨c6, c15⟩] <;> rfl)
    · have c15 : witQ q (nI 0) (nI 1) = false := bI_0.mp c15
      refine r_aload_n hJ dX5_span_18 rfl jg0 ?_
      refine r_iconst hJ (v := nI 1) dX5_span_19 (by decide) ?_
      refine r_V1v hJ kX5_36 (rcv5 E) (c5_fails l E _ x _ (nI 1)) dX5_span_20 ⟨by decide, by decide⟩ (Nat.le_of_ble_eq_true rfl) ?_
      exact ret_i hF dX5_span_23 (by unfold mSpanQ; rw [if_neg (fun w => absurd w.2 (by rw [c15]; decide))] <;> rfl) (by unfold mSpanQ; rw [if_neg (fun w => absurd w.2 (by rw [c15]; decide))] <;> rfl)

def mCnt (T : jO) (z : Nat) : Nat → Int32
  | 0 => T 1 0
  | 1 => nI (cnt (fun n => decide (mStg (T 1) n = nI 0)) z)
  | 2 => nI (cnt (fun n => decide (mStg (T 1) n = nI 1)) z)
  | 3 => nI (cnt (fun n => decide (mStg (T 1) n = nI 2)) z)
  | 4 => mSum (T 1) 37 12 z
  | 5 => mSum (T 1) 8 1 8
  | 6 => T 1 5
  | 7 => T 1 6
  | 8 => T 1 7
  | 9 => mSum (T 1) 16 1 8
  | 10 => mSpans (T 1) z (nI 0) (nI 0)
  | 11 => mSpans (T 1) z (nI 0) (nI 1)
  | _ => T 0 0
set_option maxRecDepth 100000 in
set_option maxHeartbeats 1000000 in
theorem c5_counted (l : Launch) (E : jE) (S : jS) (x : jX) (T : jO) {z : Nat} (hM : MI (T 1) z) {q : Nat} (hq : q ≤ 12) : Ct l E yX5_counted cX5_counted 2 (some .int) 5 [.ref (ad E 10 0), .int (nI q)] (setO S 10 T, x) (some (.int (mCnt T z q))) (setO S 10 T, x) := by
  refine Ct.of (by decide +kernel) (Nat.le_refl _) (Nat.le_of_ble_eq_true rfl) rfl (fun J hJ hF => ?_)
  have hz := hM.1.1
  have hz6 := hM.1.2.2
  have hz4 := hM.1.2.1
  rcases le12 hq with rfl | rfl | rfl | rfl | rfl | rfl | rfl | rfl | rfl | rfl | rfl | rfl | rfl
  · refine r_iload_n hJ dX5_counted_0 rfl jg1 ?_
    refine r_iconst hJ (v := nI 4) dX5_counted_1 (by decide) ?_
    refine r_icmp_ge hJ (tgt := 29) dX5_counted_2 (by decide) (fun c2 => ?_) (fun c2 => ?_)
    · exact absurd c2 (by decide)
    · refine r_iload_n hJ dX5_counted_5 rfl jg1 ?_
      refine r_if_ne hJ (tgt := 18) dX5_counted_6 (by decide) (fun c6 => ?_) (fun c6 => ?_)
      · exact absurd rfl c6
      · refine r_aload_n hJ dX5_counted_9 rfl jg0 ?_
        refine r_g5_0 hJ m791 dX5_counted_10 ?_
        refine r_iconst hJ (v := nI 0) dX5_counted_13 (by decide) ?_
        refine r_ialdO hJ (by omega) (alM1 (by omega)) rfl dX5_counted_14 ?_
        refine r_goto hJ (tgt := 28) dX5_counted_15 (by decide) ?_
        exact ret_i hF dX5_counted_28 rfl rfl
  · refine r_iload_n hJ dX5_counted_0 rfl jg1 ?_
    refine r_iconst hJ (v := nI 4) dX5_counted_1 (by decide) ?_
    refine r_icmp_ge hJ (tgt := 29) dX5_counted_2 (by decide) (fun c2 => ?_) (fun c2 => ?_)
    · exact absurd c2 (by decide)
    · refine r_iload_n hJ dX5_counted_5 rfl jg1 ?_
      refine r_if_ne hJ (tgt := 18) dX5_counted_6 (by decide) (fun c6 => ?_) (fun c6 => ?_)
      · refine r_aload_n hJ dX5_counted_18 rfl jg0 ?_
        refine r_g5_0 hJ m791 dX5_counted_19 ?_
        refine r_iload_n hJ dX5_counted_22 rfl jg1 ?_
        refine r_iconst hJ (v := nI 1) dX5_counted_23 (by decide) ?_
        refine r_isub hJ dX5_counted_24 ?_
        rw [show nI 1 - nI 1 = nI 0 from rfl]
        refine r_S2v hJ kX5_174 (h5_atStage l E S x T (Or.inl rfl) hz hz6 (nI 0)) dX5_counted_25 ⟨by decide, by decide⟩ (Nat.le_of_ble_eq_true rfl) ?_
        exact ret_i hF dX5_counted_28 rfl rfl
      · exact absurd c6 (by decide)
  · refine r_iload_n hJ dX5_counted_0 rfl jg1 ?_
    refine r_iconst hJ (v := nI 4) dX5_counted_1 (by decide) ?_
    refine r_icmp_ge hJ (tgt := 29) dX5_counted_2 (by decide) (fun c2 => ?_) (fun c2 => ?_)
    · exact absurd c2 (by decide)
    · refine r_iload_n hJ dX5_counted_5 rfl jg1 ?_
      refine r_if_ne hJ (tgt := 18) dX5_counted_6 (by decide) (fun c6 => ?_) (fun c6 => ?_)
      · refine r_aload_n hJ dX5_counted_18 rfl jg0 ?_
        refine r_g5_0 hJ m791 dX5_counted_19 ?_
        refine r_iload_n hJ dX5_counted_22 rfl jg1 ?_
        refine r_iconst hJ (v := nI 1) dX5_counted_23 (by decide) ?_
        refine r_isub hJ dX5_counted_24 ?_
        rw [show nI 2 - nI 1 = nI 1 from rfl]
        refine r_S2v hJ kX5_174 (h5_atStage l E S x T (Or.inl rfl) hz hz6 (nI 1)) dX5_counted_25 ⟨by decide, by decide⟩ (Nat.le_of_ble_eq_true rfl) ?_
        exact ret_i hF dX5_counted_28 rfl rfl
      · exact absurd c6 (by decide)
  · refine r_iload_n hJ dX5_counted_0 rfl jg1 ?_
    refine r_iconst hJ (v := nI 4) dX5_counted_1 (by decide) ?_
    refine r_icmp_ge hJ (tgt := 29) dX5_counted_2 (by decide) (fun c2 => ?_) (fun c2 => ?_)
    · exact absurd c2 (by decide)
    · refine r_iload_n hJ dX5_counted_5 rfl jg1 ?_
      refine r_if_ne hJ (tgt := 18) dX5_counted_6 (by decide) (fun c6 => ?_) (fun c6 => ?_)
      · refine r_aload_n hJ dX5_counted_18 rfl jg0 ?_
        refine r_g5_0 hJ m791 dX5_counted_19 ?_
        refine r_iload_n hJ dX5_counted_22 rfl jg1 ?_
        refine r_iconst hJ (v := nI 1) dX5_counted_23 (by decide) ?_
        refine r_isub hJ dX5_counted_24 ?_
        rw [show nI 3 - nI 1 = nI 2 from rfl]
        refine r_S2v hJ kX5_174 (h5_atStage l E S x T (Or.inl rfl) hz hz6 (nI 2)) dX5_counted_25 ⟨by decide, by decide⟩ (Nat.le_of_ble_eq_true rfl) ?_
        exact ret_i hF dX5_counted_28 rfl rfl
      · exact absurd c6 (by decide)
  · refine r_iload_n hJ dX5_counted_0 rfl jg1 ?_
    refine r_iconst hJ (v := nI 4) dX5_counted_1 (by decide) ?_
    refine r_icmp_ge hJ (tgt := 29) dX5_counted_2 (by decide) (fun c2 => ?_) (fun c2 => ?_)
    · refine r_iload_n hJ dX5_counted_29 rfl jg1 ?_
      refine r_iconst hJ (v := nI 4) dX5_counted_30 (by decide) ?_
      refine r_icmp_ne hJ (tgt := 49) dX5_counted_31 (by decide) (fun c31 => ?_) (fun c31 => ?_)
      · exact absurd rfl c31
      · refine r_aload_n hJ dX5_counted_34 rfl jg0 ?_
        refine r_bipush hJ (v := nI 37) dX5_counted_35 (by decide) ?_
        refine r_bipush hJ (v := nI 12) dX5_counted_37 (by decide) ?_
        refine r_aload_n hJ dX5_counted_39 rfl jg0 ?_
        refine r_g5_0 hJ m791 dX5_counted_40 ?_
        refine r_iconst hJ (v := nI 4) dX5_counted_43 (by decide) ?_
        refine r_ialdO hJ (by omega) (alM1 (by omega)) rfl dX5_counted_44 ?_
        rw [show T 1 4 = nI z from hz]
        refine r_V3v hJ kX5_177 (rcv5 E) (c5_sumOf l E S x T (a := 37) (b := 12) (m := z) (by omega) (fun k hk => alM1 (by omega))) dX5_counted_45 ⟨by decide, by decide⟩ (Nat.le_of_ble_eq_true rfl) ?_
        exact ret_i hF dX5_counted_48 rfl rfl
    · exact absurd (by decide) c2
  · refine r_iload_n hJ dX5_counted_0 rfl jg1 ?_
    refine r_iconst hJ (v := nI 4) dX5_counted_1 (by decide) ?_
    refine r_icmp_ge hJ (tgt := 29) dX5_counted_2 (by decide) (fun c2 => ?_) (fun c2 => ?_)
    · refine r_iload_n hJ dX5_counted_29 rfl jg1 ?_
      refine r_iconst hJ (v := nI 4) dX5_counted_30 (by decide) ?_
      refine r_icmp_ne hJ (tgt := 49) dX5_counted_31 (by decide) (fun c31 => ?_) (fun c31 => ?_)
      · refine r_iload_n hJ dX5_counted_49 rfl jg1 ?_
        refine r_bipush hJ (v := nI 9) dX5_counted_50 (by decide) ?_
        refine r_icmp_ge hJ (tgt := 84) dX5_counted_52 (by decide) (fun c52 => ?_) (fun c52 => ?_)
        · exact absurd c52 (by decide)
        · refine r_iload_n hJ dX5_counted_55 rfl jg1 ?_
          refine r_iconst hJ (v := nI 5) dX5_counted_56 (by decide) ?_
          refine r_icmp_ne hJ (tgt := 72) dX5_counted_57 (by decide) (fun c57 => ?_) (fun c57 => ?_)
          · exact absurd rfl c57
          · refine r_aload_n hJ dX5_counted_60 rfl jg0 ?_
            refine r_bipush hJ (v := nI 8) dX5_counted_61 (by decide) ?_
            refine r_iconst hJ (v := nI 1) dX5_counted_63 (by decide) ?_
            refine r_bipush hJ (v := nI 8) dX5_counted_64 (by decide) ?_
            refine r_V3v hJ kX5_177 (rcv5 E) (c5_sumOf l E S x T (a := 8) (b := 1) (m := 8) (by omega) (fun k hk => alM1 (by omega))) dX5_counted_66 ⟨by decide, by decide⟩ (Nat.le_of_ble_eq_true rfl) ?_
            refine r_goto hJ (tgt := 83) dX5_counted_69 (by decide) ?_
            exact ret_i hF dX5_counted_83 rfl rfl
      · exact absurd c31 (by decide)
    · exact absurd (by decide) c2
  · refine r_iload_n hJ dX5_counted_0 rfl jg1 ?_
    refine r_iconst hJ (v := nI 4) dX5_counted_1 (by decide) ?_
    refine r_icmp_ge hJ (tgt := 29) dX5_counted_2 (by decide) (fun c2 => ?_) (fun c2 => ?_)
    · refine r_iload_n hJ dX5_counted_29 rfl jg1 ?_
      refine r_iconst hJ (v := nI 4) dX5_counted_30 (by decide) ?_
      refine r_icmp_ne hJ (tgt := 49) dX5_counted_31 (by decide) (fun c31 => ?_) (fun c31 => ?_)
      · refine r_iload_n hJ dX5_counted_49 rfl jg1 ?_
        refine r_bipush hJ (v := nI 9) dX5_counted_50 (by decide) ?_
        refine r_icmp_ge hJ (tgt := 84) dX5_counted_52 (by decide) (fun c52 => ?_) (fun c52 => ?_)
        · exact absurd c52 (by decide)
        · refine r_iload_n hJ dX5_counted_55 rfl jg1 ?_
          refine r_iconst hJ (v := nI 5) dX5_counted_56 (by decide) ?_
          refine r_icmp_ne hJ (tgt := 72) dX5_counted_57 (by decide) (fun c57 => ?_) (fun c57 => ?_)
          · refine r_aload_n hJ dX5_counted_72 rfl jg0 ?_
            refine r_g5_0 hJ m791 dX5_counted_73 ?_
            refine r_iconst hJ (v := nI 5) dX5_counted_76 (by decide) ?_
            refine r_iload_n hJ dX5_counted_77 rfl jg1 ?_
            refine r_iaddN hJ dX5_counted_78 ?_
            refine r_bipush hJ (v := nI 6) dX5_counted_79 (by decide) ?_
            refine r_isub hJ dX5_counted_81 ?_
            have hq2 : nI (5 + 6) - nI 6 = nI 5 := rfl
            refine r_ialdO hJ (by omega) (alM1 (by omega)) hq2 dX5_counted_82 ?_
            exact ret_i hF dX5_counted_83 rfl rfl
          · exact absurd c57 (by decide)
      · exact absurd c31 (by decide)
    · exact absurd (by decide) c2
  · refine r_iload_n hJ dX5_counted_0 rfl jg1 ?_
    refine r_iconst hJ (v := nI 4) dX5_counted_1 (by decide) ?_
    refine r_icmp_ge hJ (tgt := 29) dX5_counted_2 (by decide) (fun c2 => ?_) (fun c2 => ?_)
    · refine r_iload_n hJ dX5_counted_29 rfl jg1 ?_
      refine r_iconst hJ (v := nI 4) dX5_counted_30 (by decide) ?_
      refine r_icmp_ne hJ (tgt := 49) dX5_counted_31 (by decide) (fun c31 => ?_) (fun c31 => ?_)
      · refine r_iload_n hJ dX5_counted_49 rfl jg1 ?_
        refine r_bipush hJ (v := nI 9) dX5_counted_50 (by decide) ?_
        refine r_icmp_ge hJ (tgt := 84) dX5_counted_52 (by decide) (fun c52 => ?_) (fun c52 => ?_)
        · exact absurd c52 (by decide)
        · refine r_iload_n hJ dX5_counted_55 rfl jg1 ?_
          refine r_iconst hJ (v := nI 5) dX5_counted_56 (by decide) ?_
          refine r_icmp_ne hJ (tgt := 72) dX5_counted_57 (by decide) (fun c57 => ?_) (fun c57 => ?_)
          · refine r_aload_n hJ dX5_counted_72 rfl jg0 ?_
            refine r_g5_0 hJ m791 dX5_counted_73 ?_
            refine r_iconst hJ (v := nI 5) dX5_counted_76 (by decide) ?_
            refine r_iload_n hJ dX5_counted_77 rfl jg1 ?_
            refine r_iaddN hJ dX5_counted_78 ?_
            refine r_bipush hJ (v := nI 6) dX5_counted_79 (by decide) ?_
            refine r_isub hJ dX5_counted_81 ?_
            have hq2 : nI (5 + 7) - nI 6 = nI 6 := rfl
            refine r_ialdO hJ (by omega) (alM1 (by omega)) hq2 dX5_counted_82 ?_
            exact ret_i hF dX5_counted_83 rfl rfl
          · exact absurd c57 (by decide)
      · exact absurd c31 (by decide)
    · exact absurd (by decide) c2
  · refine r_iload_n hJ dX5_counted_0 rfl jg1 ?_
    refine r_iconst hJ (v := nI 4) dX5_counted_1 (by decide) ?_
    refine r_icmp_ge hJ (tgt := 29) dX5_counted_2 (by decide) (fun c2 => ?_) (fun c2 => ?_)
    · refine r_iload_n hJ dX5_counted_29 rfl jg1 ?_
      refine r_iconst hJ (v := nI 4) dX5_counted_30 (by decide) ?_
      refine r_icmp_ne hJ (tgt := 49) dX5_counted_31 (by decide) (fun c31 => ?_) (fun c31 => ?_)
      · refine r_iload_n hJ dX5_counted_49 rfl jg1 ?_
        refine r_bipush hJ (v := nI 9) dX5_counted_50 (by decide) ?_
        refine r_icmp_ge hJ (tgt := 84) dX5_counted_52 (by decide) (fun c52 => ?_) (fun c52 => ?_)
        · exact absurd c52 (by decide)
        · refine r_iload_n hJ dX5_counted_55 rfl jg1 ?_
          refine r_iconst hJ (v := nI 5) dX5_counted_56 (by decide) ?_
          refine r_icmp_ne hJ (tgt := 72) dX5_counted_57 (by decide) (fun c57 => ?_) (fun c57 => ?_)
          · refine r_aload_n hJ dX5_counted_72 rfl jg0 ?_
            refine r_g5_0 hJ m791 dX5_counted_73 ?_
            refine r_iconst hJ (v := nI 5) dX5_counted_76 (by decide) ?_
            refine r_iload_n hJ dX5_counted_77 rfl jg1 ?_
            refine r_iaddN hJ dX5_counted_78 ?_
            refine r_bipush hJ (v := nI 6) dX5_counted_79 (by decide) ?_
            refine r_isub hJ dX5_counted_81 ?_
            have hq2 : nI (5 + 8) - nI 6 = nI 7 := rfl
            refine r_ialdO hJ (by omega) (alM1 (by omega)) hq2 dX5_counted_82 ?_
            exact ret_i hF dX5_counted_83 rfl rfl
          · exact absurd c57 (by decide)
      · exact absurd c31 (by decide)
    · exact absurd (by decide) c2
  · refine r_iload_n hJ dX5_counted_0 rfl jg1 ?_
    refine r_iconst hJ (v := nI 4) dX5_counted_1 (by decide) ?_
    refine r_icmp_ge hJ (tgt := 29) dX5_counted_2 (by decide) (fun c2 => ?_) (fun c2 => ?_)
    · refine r_iload_n hJ dX5_counted_29 rfl jg1 ?_
      refine r_iconst hJ (v := nI 4) dX5_counted_30 (by decide) ?_
      refine r_icmp_ne hJ (tgt := 49) dX5_counted_31 (by decide) (fun c31 => ?_) (fun c31 => ?_)
      · refine r_iload_n hJ dX5_counted_49 rfl jg1 ?_
        refine r_bipush hJ (v := nI 9) dX5_counted_50 (by decide) ?_
        refine r_icmp_ge hJ (tgt := 84) dX5_counted_52 (by decide) (fun c52 => ?_) (fun c52 => ?_)
        · refine r_iload_n hJ dX5_counted_84 rfl jg1 ?_
          refine r_bipush hJ (v := nI 9) dX5_counted_85 (by decide) ?_
          refine r_icmp_ne hJ (tgt := 102) dX5_counted_87 (by decide) (fun c87 => ?_) (fun c87 => ?_)
          · exact absurd rfl c87
          · refine r_aload_n hJ dX5_counted_90 rfl jg0 ?_
            refine r_bipush hJ (v := nI 16) dX5_counted_91 (by decide) ?_
            refine r_iconst hJ (v := nI 1) dX5_counted_93 (by decide) ?_
            refine r_bipush hJ (v := nI 8) dX5_counted_94 (by decide) ?_
            refine r_V3v hJ kX5_177 (rcv5 E) (c5_sumOf l E S x T (a := 16) (b := 1) (m := 8) (by omega) (fun k hk => alM1 (by omega))) dX5_counted_96 ⟨by decide, by decide⟩ (Nat.le_of_ble_eq_true rfl) ?_
            refine r_goto hJ (tgt := 124) dX5_counted_99 (by decide) ?_
            exact ret_i hF dX5_counted_124 rfl rfl
        · exact absurd (by decide) c52
      · exact absurd c31 (by decide)
    · exact absurd (by decide) c2
  · refine r_iload_n hJ dX5_counted_0 rfl jg1 ?_
    refine r_iconst hJ (v := nI 4) dX5_counted_1 (by decide) ?_
    refine r_icmp_ge hJ (tgt := 29) dX5_counted_2 (by decide) (fun c2 => ?_) (fun c2 => ?_)
    · refine r_iload_n hJ dX5_counted_29 rfl jg1 ?_
      refine r_iconst hJ (v := nI 4) dX5_counted_30 (by decide) ?_
      refine r_icmp_ne hJ (tgt := 49) dX5_counted_31 (by decide) (fun c31 => ?_) (fun c31 => ?_)
      · refine r_iload_n hJ dX5_counted_49 rfl jg1 ?_
        refine r_bipush hJ (v := nI 9) dX5_counted_50 (by decide) ?_
        refine r_icmp_ge hJ (tgt := 84) dX5_counted_52 (by decide) (fun c52 => ?_) (fun c52 => ?_)
        · refine r_iload_n hJ dX5_counted_84 rfl jg1 ?_
          refine r_bipush hJ (v := nI 9) dX5_counted_85 (by decide) ?_
          refine r_icmp_ne hJ (tgt := 102) dX5_counted_87 (by decide) (fun c87 => ?_) (fun c87 => ?_)
          · refine r_iload_n hJ dX5_counted_102 rfl jg1 ?_
            refine r_bipush hJ (v := nI 12) dX5_counted_103 (by decide) ?_
            refine r_icmp_ne hJ (tgt := 115) dX5_counted_105 (by decide) (fun c105 => ?_) (fun c105 => ?_)
            · refine r_aload_n hJ dX5_counted_115 rfl jg0 ?_
              refine r_iconst hJ (v := nI 0) dX5_counted_116 (by decide) ?_
              refine r_iload_n hJ dX5_counted_117 rfl jg1 ?_
              refine r_bipush hJ (v := nI 10) dX5_counted_118 (by decide) ?_
              refine r_isub hJ dX5_counted_120 ?_
              rw [show nI 10 - nI 10 = nI 0 from rfl]
              refine r_V2v hJ kX5_171 (rcv5 E) (c5_spans l E S x T hM (nI 0) (nI 0)) dX5_counted_121 ⟨by decide, by decide⟩ (Nat.le_of_ble_eq_true rfl) ?_
              exact ret_i hF dX5_counted_124 rfl rfl
            · exact absurd c105 (by decide)
          · exact absurd c87 (by decide)
        · exact absurd (by decide) c52
      · exact absurd c31 (by decide)
    · exact absurd (by decide) c2
  · refine r_iload_n hJ dX5_counted_0 rfl jg1 ?_
    refine r_iconst hJ (v := nI 4) dX5_counted_1 (by decide) ?_
    refine r_icmp_ge hJ (tgt := 29) dX5_counted_2 (by decide) (fun c2 => ?_) (fun c2 => ?_)
    · refine r_iload_n hJ dX5_counted_29 rfl jg1 ?_
      refine r_iconst hJ (v := nI 4) dX5_counted_30 (by decide) ?_
      refine r_icmp_ne hJ (tgt := 49) dX5_counted_31 (by decide) (fun c31 => ?_) (fun c31 => ?_)
      · refine r_iload_n hJ dX5_counted_49 rfl jg1 ?_
        refine r_bipush hJ (v := nI 9) dX5_counted_50 (by decide) ?_
        refine r_icmp_ge hJ (tgt := 84) dX5_counted_52 (by decide) (fun c52 => ?_) (fun c52 => ?_)
        · refine r_iload_n hJ dX5_counted_84 rfl jg1 ?_
          refine r_bipush hJ (v := nI 9) dX5_counted_85 (by decide) ?_
          refine r_icmp_ne hJ (tgt := 102) dX5_counted_87 (by decide) (fun c87 => ?_) (fun c87 => ?_)
          · refine r_iload_n hJ dX5_counted_102 rfl jg1 ?_
            refine r_bipush hJ (v := nI 12) dX5_counted_103 (by decide) ?_
            refine r_icmp_ne hJ (tgt := 115) dX5_counted_105 (by decide) (fun c105 => ?_) (fun c105 => ?_)
            · refine r_aload_n hJ dX5_counted_115 rfl jg0 ?_
              refine r_iconst hJ (v := nI 0) dX5_counted_116 (by decide) ?_
              refine r_iload_n hJ dX5_counted_117 rfl jg1 ?_
              refine r_bipush hJ (v := nI 10) dX5_counted_118 (by decide) ?_
              refine r_isub hJ dX5_counted_120 ?_
              rw [show nI 11 - nI 10 = nI 1 from rfl]
              refine r_V2v hJ kX5_171 (rcv5 E) (c5_spans l E S x T hM (nI 0) (nI 1)) dX5_counted_121 ⟨by decide, by decide⟩ (Nat.le_of_ble_eq_true rfl) ?_
              exact ret_i hF dX5_counted_124 rfl rfl
            · exact absurd c105 (by decide)
          · exact absurd c87 (by decide)
        · exact absurd (by decide) c52
      · exact absurd c31 (by decide)
    · exact absurd (by decide) c2
  · refine r_iload_n hJ dX5_counted_0 rfl jg1 ?_
    refine r_iconst hJ (v := nI 4) dX5_counted_1 (by decide) ?_
    refine r_icmp_ge hJ (tgt := 29) dX5_counted_2 (by decide) (fun c2 => ?_) (fun c2 => ?_)
    · refine r_iload_n hJ dX5_counted_29 rfl jg1 ?_
      refine r_iconst hJ (v := nI 4) dX5_counted_30 (by decide) ?_
      refine r_icmp_ne hJ (tgt := 49) dX5_counted_31 (by decide) (fun c31 => ?_) (fun c31 => ?_)
      · refine r_iload_n hJ dX5_counted_49 rfl jg1 ?_
        refine r_bipush hJ (v := nI 9) dX5_counted_50 (by decide) ?_
        refine r_icmp_ge hJ (tgt := 84) dX5_counted_52 (by decide) (fun c52 => ?_) (fun c52 => ?_)
        · refine r_iload_n hJ dX5_counted_84 rfl jg1 ?_
          refine r_bipush hJ (v := nI 9) dX5_counted_85 (by decide) ?_
          refine r_icmp_ne hJ (tgt := 102) dX5_counted_87 (by decide) (fun c87 => ?_) (fun c87 => ?_)
          · refine r_iload_n hJ dX5_counted_102 rfl jg1 ?_
            refine r_bipush hJ (v := nI 12) dX5_counted_103 (by decide) ?_
            refine r_icmp_ne hJ (tgt := 115) dX5_counted_105 (by decide) (fun c105 => ?_) (fun c105 => ?_)
            · exact absurd rfl c105
            · refine r_aload_n hJ dX5_counted_108 rfl jg0 ?_
              refine r_g5_3O hJ m794 dX5_counted_109 ?_
              refine r_goto hJ (tgt := 124) dX5_counted_112 (by decide) ?_
              exact ret_i hF dX5_counted_124 rfl rfl
          · exact absurd c87 (by decide)
        · exact absurd (by decide) c52
      · exact absurd c31 (by decide)
    · exact absurd (by decide) c2

def mCount (T : jO) (z : Nat) (q : Int32) : Int32 × jO := if witQ q (nI 0) (nI 12) = true then (mCnt (thr T (nI 0)) z (toN q), thr T (nI 0)) else (nI 0, thr (thr T (nI 0)) (nI 1))
set_option maxRecDepth 100000 in
set_option maxHeartbeats 1000000 in
theorem c5_count (l : Launch) (E : jE) (S : jS) (x : jX) (T : jO) {z : Nat} (hM : MI (T 1) z) (q : Int32) : Ct l E yX5_count cX5_count 2 (some .int) 6 [.ref (ad E 10 0), .int q] (setO S 10 T, x) (some (.int (mCount T z q).1)) (setO S 10 (mCount T z q).2, x) := by
  refine Ct.of (by decide +kernel) (Nat.le_refl _) (Nat.le_of_ble_eq_true rfl) rfl (fun J hJ hF => ?_)
  refine r_aload_n hJ dX5_count_0 rfl jg0 ?_
  refine r_iconst hJ (v := nI 0) dX5_count_1 (by decide) ?_
  refine r_p5_6 hJ m797 dX5_count_2 ?_
  refine r_iload_n hJ dX5_count_5 rfl jg1 ?_
  refine r_iconst hJ (v := nI 0) dX5_count_6 (by decide) ?_
  refine r_bipush hJ (v := nI 12) dX5_count_7 (by decide) ?_
  refine r_S3v hJ kX5_29 (c5_in l E _ x q (nI 0) (nI 12)) dX5_count_9 ⟨by decide, by decide⟩ (Nat.le_of_ble_eq_true rfl) ?_
  refine r_if_eq hJ (tgt := 23) dX5_count_12 (by decide) (fun c12 => ?_) (fun c12 => ?_)
  · have c12 : witQ q (nI 0) (nI 12) = false := bI_0.mp c12
    refine r_aload_n hJ dX5_count_23 rfl jg0 ?_
    refine r_iconst hJ (v := nI 1) dX5_count_24 (by decide) ?_
    refine r_V1v hJ kX5_36 (rcv5 E) (c5_fails l E _ x _ (nI 1)) dX5_count_25 ⟨by decide, by decide⟩ (Nat.le_of_ble_eq_true rfl) ?_
    exact ret_i hF dX5_count_28 (by simp [mCount, c12]) (by simp [mCount, thr, c12])
  · have c12 : witQ q (nI 0) (nI 12) = true := bI_ne c12
    refine r_aload_n hJ dX5_count_15 rfl jg0 ?_
    refine r_iload_n hJ dX5_count_16 rfl jg1 ?_
    obtain ⟨q1, q2⟩ := wit_N (by decide) c12
    have hon := c5_counted l E S x (thr T (nI 0)) hM (q := toN q) q2
    rw [← q1] at hon
    refine r_V1v hJ kX5_180 (rcv5 E) (hon) dX5_count_17 ⟨by decide, by decide⟩ (Nat.le_of_ble_eq_true rfl) ?_
    refine r_goto hJ (tgt := 28) dX5_count_20 (by decide) ?_
    exact ret_i hF dX5_count_28 (by simp [mCount, c12]) (by simp [mCount, thr, c12])
