/-! THE RUN ON BOTH SIDES -/
theorem loop_5 : ∀ (n k : Nat) (T : jO), n + k = 21 → TI T k → 3 * k ≤ aT T → (mLoop n T).2 = true → (∃ m, k + 1 ≤ m ∧ m ≤ 20 ∧ (mLoop n T).1 0 6 = nI m) ∧ ∀ q, q < 4 * k → (mLoop n T).1 5 q = T 5 q
  | 0, k, T, hn, hT, _, _ => by have := hT.2.2.2.2.2; omega
  | n + 1, k, T, hn, hT, hk, h => by
    rw [mLoop] at h ⊢
    by_cases h2 : (mOrder T).2 = true
    · rw [if_pos h2] at h ⊢
      obtain ⟨t1, t2⟩ := TI_tok hT hk h2
      obtain ⟨o1, o2⟩ := order_ok hT h2
      have e5 : mTok T 5 = (mOrder T).1 5 := rfl
      by_cases h3 : mAt (mTok T) (nI 59) (nI 59) = true
      · rw [if_pos h3] at h ⊢
        obtain ⟨g1, g2, g3⟩ := GR_next t1 (mAt_lt h3)
        obtain ⟨⟨m, m1, m20, m2⟩, f2⟩ := loop_5 n (k + 1) (mNext (mTok T)) (by omega) g1 (by omega) h
        refine ⟨⟨m, by omega, m20, m2⟩, fun q hq => ?_⟩
        rw [f2 q (by omega)]
        exact o2 q hq
      · rw [if_neg h3] at h ⊢
        refine ⟨⟨k + 1, by omega, t1.2.2.2.2.2, ?_⟩, fun q hq => o2 q hq⟩
        show mStop (mTok T) 0 6 = _
        rw [mStop_6]
        exact t1.2.2.2.2.1
    · rw [if_neg h2] at h
      exact Bool.noConfusion h
theorem FO_of {Q : jO} {o o' : Nat → Int32} {k : Nat} (h : ∀ q, q < 4 * (k + 1) → o' q = o q) (hF : FO Q o k) : FO Q o' k := by
  unfold FO
  rw [h _ (by omega), h _ (by omega), h _ (by omega), h _ (by omega)]
  exact hF
theorem ord_of {Q : jO} {o : Nat → Int32} {k : Nat} (hF : FO Q o k) (hO : mOk o k) : ordOk Q := by
  obtain ⟨f0, f1, f2, f3⟩ := hF
  unfold ordOk
  rw [f0]
  rcases hO with ⟨e, w1⟩ | ⟨e, w1, w2⟩ | ⟨e, w1, w2, w3⟩ | ⟨e, w1, w2, w3⟩
  · obtain ⟨b, b1, b2, b3⟩ := wit_j (by decide) w1 (by omega)
    exact Or.inr (Or.inr (Or.inr ⟨e, b, by omega, (f1 e).trans b3⟩))
  · obtain ⟨h, h1, h2, h3⟩ := wit_j (by decide) w1 (by omega)
    exact Or.inl ⟨e, h, by omega, (f2 e).1.trans h3⟩
  · obtain ⟨g1, g2, g3⟩ := f3 (Or.inl e)
    obtain ⟨h, h1, h2, h3⟩ := wit_j (by decide) w1 (by omega)
    obtain ⟨n, n1, n2, n3⟩ := wit_j (by decide) w2 (by omega)
    exact Or.inr (Or.inl ⟨e, ⟨h, by omega, g1.trans h3⟩, n, by omega, g2.trans n3⟩)
  · obtain ⟨g1, g2, g3⟩ := f3 (Or.inr e)
    obtain ⟨h, h1, h2, h3⟩ := wit_j (by decide) w1 (by omega)
    obtain ⟨n, n1, n2, n3⟩ := wit_j (by decide) w2 (by omega)
    rw [n3] at w3
    have hns : n ≤ 63 := n2
    obtain ⟨s, s1, s2, s3⟩ := wit_j (by decide) w3 hns
    exact Or.inr (Or.inr (Or.inl ⟨e, ⟨h, by omega, g1.trans h3⟩, n, s, s1, by omega, g2.trans n3, g3.trans s3⟩))
theorem runL_end {z : Nat} {Q P : jO} (h : ¬ Q 0 1 < Q 0 0) : ∀ (f c : Nat), runL z f Q P c = (Q, P, c) ∧ okRun z f Q P
  | 0, _ => ⟨rfl, trivial⟩
  | f + 1, c => ⟨by rw [runL, if_neg h], fun q => absurd q h⟩
theorem runs_all {w z : Nat} : ∀ (n k : Nat) (T Q : jO) (fuel : Nat) (P : jO) (r o : Nat → Int32) (t C m : Nat), n + k = 21 → TI T k → 3 * k ≤ aT T → RC Q T w k → Q 0 2 = 0 → fuel + k = 60 → t ≤ 9999 → CP P r → V P z t 64 → B10 P C → B12 P (64 * t) → OI Q →
    (mLoop n T).2 = true → (mLoop n T).1 0 6 = nI m → m ≤ 20 → (mLoop n T).1 5 = o → (∀ j, j < m → mOk o j) →
    okRun z fuel Q P ∧ (runL z fuel Q P k).2.2 = (mRunL o z (m - k) k r).2 ∧ OI (runL z fuel Q P k).1 ∧ ∃ t1, t1 ≤ 9999 ∧ CP (runL z fuel Q P k).2.1 (mRunL o z (m - k) k r).1 ∧ V (runL z fuel Q P k).2.1 z t1 64 ∧ B10 (runL z fuel Q P k).2.1 (C + 6400 * (m - k)) ∧ B12 (runL z fuel Q P k).2.1 (64 * t1)
  | 0, k, T, Q, fuel, P, r, o, t, C, m, hn, hT, _, _, _, _, _, _, _, _, _, _, _, _, _, _, _ => by have := hT.2.2.2.2.2; omega
  | n + 1, k, T, Q, fuel, P, r, o, t, C, m, hn, hT, hk, hR, h2, hf, ht, hC, hV, hB, hU, hI, hb, hm, hm20, ho, hO => by
    have hk6 : k ≤ 20 := hT.2.2.2.2.2
    obtain ⟨⟨m', m1, m20', m2⟩, h5⟩ := loop_5 (n + 1) k T hn hT hk hb
    have hmm : m = m' := by
      rw [hm] at m2
      exact (nI_eq (by omega) (by omega)).mp m2
    subst hmm
    obtain ⟨Q1, a, e1, e2, e3⟩ := next_go hR h2
    obtain ⟨g, gF⟩ := order_go hk6 e2 e3 hT.2.2.2.2.1
    have h6 : (mOrder T).2 = true := by
      rcases hq : (mOrder T).2 with _ | _
      · rw [mLoop, hq, if_neg (by decide)] at hb
        exact Bool.noConfusion hb
      · rfl
    obtain ⟨gF, haw⟩ := gF h6
    obtain ⟨a', p1, p2, p3⟩ := GO_ok g h6
    obtain ⟨q1, q2, q3, q4⟩ := tok_go hk hT h6 p1
    have hlt : Q 0 1 < Q 0 0 := by
      rcases hR with ⟨k0, hp⟩ | ⟨k0, b, x1, x2, x3, x4, x5, x6⟩
      · refine (at_lt hp).mpr ?_
        have : a = 0 := by
          have := e2.2.2.1
          rw [hp.2.2.1] at this
          exact ((nI_eq (by omega) (by have := e2.2.2.2; have := e2.1.2.2.1; omega)).mp this).symm
        omega
      · rw [x1.1, x3]
        exact nI_lt x5 (by have := x1.2.2.1; omega)
    obtain ⟨fuel, rfl⟩ : ∃ f, fuel = f + 1 := ⟨fuel - 1, by omega⟩
    have hmk : m - k = (m - (k + 1)) + 1 := by omega
    have hI2 : OI (rdOrder Q1) := by rw [← e1]; exact OI_rdNext hI
    rw [mLoop, if_pos h6] at hb hm ho
    -- the entries of this order stay
    have ho4 : ∀ q, q < 4 * (k + 1) → o q = (mOrder T).1 5 q := by
      intro q hq
      by_cases h7 : mAt (mTok T) (nI 59) (nI 59) = true
      · rw [if_pos h7] at hb ho
        obtain ⟨r1, r2, r3, r4, r5⟩ := q4 h7
        obtain ⟨-, f2⟩ := loop_5 n (k + 1) (mNext (mTok T)) (by omega) r4 r5 hb
        rw [← ho, f2 q hq]
        rfl
      · rw [if_neg h7] at ho
        rw [← ho]
        rfl
    have hF := FO_of ho4 gF
    have hOk := hO k (by omega)
    rw [hmk, mRunL, runL, okRun, if_pos hlt, e1]
    rcases cry_eq ht hC hV hB hU hF hOk with ⟨c1, c2⟩ | ⟨P1, r1, t1, c1, c2, c3, c4, c5, c6, c7⟩
    · rw [c1, c2]
      refine ⟨fun _ => ⟨ord_of hF hOk, fun P1 q => by cases q⟩, rfl, hI2, t, ht, hC, hV, B10_mono (by omega) hB, hU⟩
    · rw [c1, c2]
      simp only
      by_cases h7 : mAt (mTok T) (nI 59) (nI 59) = true
      · rw [if_pos h7] at hb ho hm
        obtain ⟨r1, r2, r3, r4, r5⟩ := q4 h7
        obtain ⟨x1, x2, xI, t2, x3, x4, x5, x6, x7⟩ := runs_all n (k + 1) _ _ fuel P1 _ o t1 (C + 6400) m (by omega) r4 r5 r3 p3 (by omega) c5 c3 c4 c6 c7 hI2 hb hm hm20 ho hO
        refine ⟨fun _ => ⟨ord_of hF hOk, fun P2 q => by cases q; exact x1⟩, x2, xI, t2, x3, x4, x5, B10_mono (by omega) x6, x7⟩
      · rw [if_neg h7] at hb ho hm
        have hmk1 : m = k + 1 := by
          have h9 : mStop (mTok T) 0 6 = nI m := hm
          rw [mStop_6, q2.2.2.2.2.1] at h9
          exact ((nI_eq (by omega) (by omega)).mp h9).symm
        have hb2 : decide (mTok T 0 3 = mTok T 0 1) = true := hb
        rw [q1.2.2.1, q1.1.2.1] at hb2
        have hw6 := q1.1.2.2.1
        have haw2 : a' = w := (nI_eq (by have := q1.2.2.2; omega) (by omega)).mp (of_decide_eq_true hb2)
        obtain ⟨y1, y2⟩ := runL_end (z := z) (P := P1) (show ¬ rdOrder Q1 0 1 < rdOrder Q1 0 0 from fun q => by have := (at_lt p1).mp q; omega) fuel (k + 1)
        rw [y1, show m - (k + 1) = 0 by omega, mRunL]
        exact ⟨fun _ => ⟨ord_of hF hOk, fun P2 q => by cases q; exact y2⟩, rfl, hI2, t1, c5, c3, c4, B10_mono (by omega) c6, c7⟩
