/-! THE WHOLE TEXT, AND THE RUN, ON BOTH SIDES -/
def RC (Q T : jO) (w k : Nat) : Prop := (k = 0 ∧ PC Q T 0 w) ∨ (0 < k ∧ ∃ a, TX Q T w ∧ 0 < a ∧ Q 0 1 = nI a ∧ T 0 3 = nI (a + 1) ∧ a < w ∧ Q 1 a = nI 59)
theorem next_go {Q T : jO} {w k : Nat} (h : RC Q T w k) (h2 : Q 0 2 = 0) : ∃ Q1 a, rdNext Q = rdOrder Q1 ∧ PC Q1 T a w ∧ Q1 0 2 = 0 := by
  unfold rdNext
  simp only
  rcases h with ⟨-, h⟩ | ⟨-, a, t, a0, a1, a2, a3, a4⟩
  · have e : (if 0 < Q 0 1 then rdSign Q (nI 59) else Q) = Q := if_neg (by rw [h.2.1]; decide)
    rw [e, if_pos h2]
    exact ⟨Q, 0, rfl, h, h2⟩
  · have hw := t.2.2.1
    have e : (if 0 < Q 0 1 then rdSign Q (nI 59) else Q) = rdSign Q (nI 59) := if_pos (by rw [a1]; exact (nI_0lt (by omega)).mpr a0)
    rw [e]
    have es : sgA Q (atQ Q) = nI 59 := by
      unfold sgA lenQ atQ
      rw [t.1, a1, toN_nI (by omega), toN_nI (by omega), if_pos a3]
      exact a4
    have en : rdSign Q (nI 59) = nextQ Q := by
      unfold rdSign
      rw [if_pos ⟨h2, es⟩]
    rw [en, if_pos (show nextQ Q 0 2 = 0 by rw [next_2]; exact h2)]
    refine ⟨nextQ Q, a + 1, rfl, ⟨⟨?_, t.2.1, hw, t.2.2.2⟩, ?_, a2, by omega⟩, by rw [next_2]; exact h2⟩
    · unfold nextQ
      rw [pfa (by omega)]
      exact t.1
    · unfold nextQ
      rw [put_at, if_pos rfl, a1, nI_add]
theorem rdLoop_stop {Q : jO} (h : ¬ Q 0 2 = 0) : ∀ k, rdLoop k Q = Q
  | 0 => rfl
  | k + 1 => by rw [rdLoop, if_neg (fun q => h q.1)]
theorem rdLoop_end {Q : jO} (h : ¬ Q 0 1 < Q 0 0) : ∀ k, rdLoop k Q = Q
  | 0 => rfl
  | k + 1 => by rw [rdLoop, if_neg (fun q => h q.2)]
def GP (Q : jO) (p : jO × Bool) (w : Nat) : Prop := ∃ a, PC Q p.1 a w ∧ (p.2 = true → Q 0 2 = 0 ∧ a = w) ∧ (p.2 = false → ¬ Q 0 2 = 0 ∧ p.1 0 4 = bI (decide (a < w)))
/-- behind an order that is right: goes on, or ends -/
theorem tok_go {Q T : jO} {a w k : Nat} (hk : 3 * k ≤ aT T) (hT : TI T k) (h2 : (mOrder T).2 = true) (hP : PC Q (mOrder T).1 a w) :
    PC Q (mTok T) a w ∧ TI (mTok T) (k + 1) ∧ 3 * (k + 1) ≤ a + 1 ∧ (mAt (mTok T) (nI 59) (nI 59) = true → a < w ∧ Q 1 a = nI 59 ∧ RC Q (mNext (mTok T)) w (k + 1) ∧ TI (mNext (mTok T)) (k + 1) ∧ 3 * (k + 1) ≤ aT (mNext (mTok T))) := by
  obtain ⟨t1, t2⟩ := TI_tok hT hk h2
  have hP2 : PC Q (mTok T) a w := PC_t (by omega) (by omega) hP
  have ea : aT (mTok T) = a := by
    show toN (mTok T 0 3) = a
    rw [hP2.2.2.1, toN_nI (by have := hP2.1.2.2.1; have := hP2.2.2.2; omega)]
  rw [ea] at t2
  refine ⟨hP2, t1, t2, fun h3 => ?_⟩
  obtain ⟨g1, g2, -⟩ := GR_next t1 (mAt_lt h3)
  rw [PC_at hP2, wit_one, Bool.and_eq_true, decide_eq_true_eq, decide_eq_true_eq] at h3
  rw [ea] at g2
  have e3 : mNext (mTok T) 0 3 = nI (a + 1) := by
    unfold mNext
    rw [put_at, if_pos rfl, hP2.2.2.1, nI_add]
  refine ⟨h3.1, h3.2, Or.inr ⟨by omega, a, ⟨hP2.1.1, ?_, hP2.1.2.2.1, hP2.1.2.2.2⟩, by omega, hP2.2.1, e3, h3.1, h3.2⟩, g1, by omega⟩
  unfold mNext
  rw [pfa (by omega)]
  exact hP2.1.2.1
theorem at_lt {Q T : jO} {a w : Nat} (hP : PC Q T a w) : (Q 0 1 < Q 0 0) ↔ a < w := by
  obtain ⟨⟨a1, a2, a3, a4⟩, b1, b2, b3⟩ := hP
  rw [a1, b1]
  exact nI_ltI (by omega) (by omega)
theorem parse_all {w : Nat} : ∀ (n k : Nat) (T Q : jO) (fuel : Nat), n + k = 21 → TI T k → 3 * k ≤ aT T → RC Q T w k → Q 0 2 = 0 → fuel + k = 60 → GP (rdLoop fuel (rdNext Q)) (mLoop n T) w
  | 0, k, T, Q, fuel, hn, hT, _, _, _, _ => by have := hT.2.2.2.2.2; omega
  | n + 1, k, T, Q, fuel, hn, hT, hk, hR, h2, hf => by
    have hk6 : k ≤ 20 := hT.2.2.2.2.2
    obtain ⟨Q1, a, e1, e2, e3⟩ := next_go hR h2
    obtain ⟨g, -⟩ := order_go hk6 e2 e3 hT.2.2.2.2.1
    rw [e1, mLoop]
    by_cases ho : (mOrder T).2 = true
    · rw [if_pos ho]
      obtain ⟨a', p1, p2, p3⟩ := GO_ok g ho
      obtain ⟨q1, q2, q3, q4⟩ := tok_go hk hT ho p1
      by_cases h5 : mAt (mTok T) (nI 59) (nI 59) = true
      · rw [if_pos h5]
        obtain ⟨r1, r2, r3, r4, r5⟩ := q4 h5
        obtain ⟨fuel, rfl⟩ : ∃ f, fuel = f + 1 := ⟨fuel - 1, by omega⟩
        rw [rdLoop, if_pos ⟨p3, (at_lt p1).mpr r1⟩]
        exact parse_all n (k + 1) _ _ fuel (by omega) r4 r5 r3 p3 (by omega)
      · rw [if_neg h5]
        rw [PC_at q1, wit_one] at h5
        by_cases ha : a' < w
        · rw [decide_eq_true ha, Bool.true_and, decide_eq_true_eq] at h5
          obtain ⟨fuel, rfl⟩ : ∃ f, fuel = f + 1 := ⟨fuel - 1, by omega⟩
          have hw6 := p1.1.2.2.1
          have e5 : rdNext (rdOrder Q1) = stopQ (rdOrder Q1) := by
            unfold rdNext
            simp only
            have hpos : 0 < rdOrder Q1 0 1 := by rw [p1.2.1]; exact (nI_0lt (by omega)).mpr (by omega)
            have hs : rdSign (rdOrder Q1) (nI 59) = stopQ (rdOrder Q1) := by
              unfold rdSign
              rw [PC_sg p1, if_pos ha, if_neg (fun q => h5 q.2)]
            rw [if_pos hpos, hs, if_neg]
            unfold stopQ
            rw [put_at, if_pos rfl]
            decide
          have e6 : ¬ stopQ (rdOrder Q1) 0 2 = 0 := by
            unfold stopQ
            rw [put_at, if_pos rfl]
            decide
          rw [rdLoop, if_pos ⟨p3, (at_lt p1).mpr ha⟩, e5, rdLoop_stop e6]
          obtain ⟨a2, s1, s2, s3, s4⟩ := stop_GO q1 q2.2.2.2.2.1
          have ea : a2 = a' := by
            have := s1.2.1
            unfold stopQ at this
            rw [pfa (by omega), q1.2.1] at this
            exact ((nI_eq (by omega) (by have := s1.2.2.2; omega)).mp this).symm
          subst ea
          have ed : decide (mTok T 0 3 = mTok T 0 1) = false := by
            rw [q1.2.2.1, q1.1.2.1]
            exact decide_eq_false (fun q => by have := (nI_eq (by omega) (by omega)).mp q; omega)
          rw [ed]
          exact ⟨a2, s1, fun q => Bool.noConfusion q, s4⟩
        · have ew : a' = w := by have := p1.2.2.2; omega
          have hw6 := p1.1.2.2.1
          rw [rdLoop_end (fun q => ha ((at_lt p1).mp q))]
          have ed : decide (mTok T 0 3 = mTok T 0 1) = true := by
            rw [q1.2.2.1, q1.1.2.1, ew]
            exact decide_eq_true rfl
          rw [ed]
          exact ⟨a', PC_t (by omega) (by omega) q1, fun _ => ⟨p3, ew⟩, fun q => Bool.noConfusion q⟩
    · have ho := Bool.eq_false_iff.mpr ho
      rw [ho, if_neg (by decide)]
      obtain ⟨a', p1, p2, p3, p4⟩ := g
      have p4 := p4 ho
      rw [rdLoop_stop p4.1]
      exact ⟨a', p1, fun q => Bool.noConfusion q, fun _ => p4⟩
theorem rew_go {Q T : jO} {w : Nat} (h : TX Q T w) : RC (rewQ Q) (rewT T) w 0 ∧ rewQ Q 0 2 = 0 ∧ XI T ∧ TI (rewT T) 0 := by
  obtain ⟨a1, a2, a3, a4⟩ := h
  have hX : XI T := by
    unfold XI yT
    rw [a2, toN_nI (by omega)]
    exact ⟨rfl, a3⟩
  refine ⟨Or.inl ⟨rfl, ⟨⟨?_, ?_, a3, a4⟩, ?_, ?_, by omega⟩⟩, ?_, hX, (TI_rew hX).1⟩
  · unfold rewQ
    rw [pfa (by omega), pfa (by omega)]
    exact a1
  · unfold rewT
    rw [pfa (by omega), pfa (by omega), pfa (by omega)]
    exact a2
  · unfold rewQ
    rw [pfa (by omega), put_at, if_pos rfl]
  · unfold rewT
    rw [pfa (by omega), pfa (by omega), put_at, if_pos rfl]
  · unfold rewQ
    rw [put_at, if_pos rfl]
    rfl
theorem text_go {Q T : jO} {w : Nat} (h : TX Q T w) : GP (rdAll Q) (mText T) w := by
  obtain ⟨a, b, c, d⟩ := rew_go h
  exact parse_all 21 0 _ _ 60 rfl d (by omega) a b rfl
theorem TX_thr {Q T : jO} {w : Nat} {v : Int32} (h : TX Q T w) : TX Q (thr T v) w := by
  obtain ⟨a1, a2, a3, a4⟩ := h
  exact ⟨a1, by unfold thr; rw [pfa (by omega)]; exact a2, a3, a4⟩
theorem err_eq {Q T : jO} {w : Nat} (h : TX Q T w) : mErr T = rdAll Q 0 1 ∧ TX (rdAll Q) (mText (thr T (nI 0))).1 w := by
  obtain ⟨a, p1, p2, p3⟩ := text_go (TX_thr (v := nI 0) h)
  refine ⟨?_, p1.1⟩
  unfold mErr
  by_cases hb : (mText (thr T (nI 0))).2 = true
  · rw [if_neg (fun q => by rw [hb] at q; exact Bool.noConfusion q.1), p1.1.2.1, p1.2.1, (p2 hb).2]
  · have hb := Bool.eq_false_iff.mpr hb
    obtain ⟨q1, q2⟩ := p3 hb
    rw [q2, p1.2.2.1, p1.1.2.1, p1.2.1]
    by_cases ha : a < w
    · rw [if_pos ⟨hb, by rw [decide_eq_true ha]; decide⟩]
    · rw [if_neg (fun q => q.2 (by rw [decide_eq_false ha]; rfl)), show a = w by have := p1.2.2.2; omega]
theorem run_ok {Q T : jO} {w : Nat} (h : TX Q T w) : ((mText (thr T (nI 0))).2 = true ↔ rdAll Q 0 2 = 0) := by
  obtain ⟨a, p1, p2, p3⟩ := text_go (TX_thr (v := nI 0) h)
  constructor
  · exact fun q => (p2 q).1
  · intro q
    rcases hb : (mText (thr T (nI 0))).2 with _ | _
    · exact absurd q (p3 hb).1
    · rfl
/-! an order carried out -/
theorem wit_j {v : Int32} {lo hi : Nat} (hh : hi < 2 ^ 31) : witQ v (nI lo) (nI hi) = true → lo ≤ hi → ∃ j, lo ≤ j ∧ j ≤ hi ∧ v = nI j := by
  intro h hl
  unfold witQ at h
  rw [Bool.and_eq_true, decide_eq_true_eq, decide_eq_true_eq] at h
  have h0 : ¬ v < 0 := fun q => nI_pos (n := lo) (by omega) (Int32.lt_of_le_of_lt h.1 q)
  obtain ⟨j, j1, rfl⟩ := nI_of2 (n := hi) (nI_toInt hh) h0 h.2
  exact ⟨j, (nI_leI (by omega) (by omega)).mp h.1, j1, rfl⟩
theorem wit_b {b z : Nat} (hb : b < 2 ^ 31) (hz : 0 < z) (hz6 : z ≤ 64) : witQ (nI b) (nI 0) (nI (z - 1)) = decide (b < z) := by
  unfold witQ
  rw [decide_eq_true (nI_le (by omega) hb), Bool.true_and, decide_eq_decide, nI_leI hb (by omega)]
  omega
theorem in_b {P : jO} {b z t : Nat} (hb : b < 2 ^ 31) (hV : VH P z t) : (!decide (nI b < 0) && !decide (P 1 3 ≤ nI b)) = decide (b < z) := by
  have hz := hV.2.1.2.2
  rw [hV.2.1.1, decide_eq_false (nI_pos hb), Bool.not_false, Bool.true_and, ← decide_not, decide_eq_decide, nI_leI (by omega) hb]
  omega
theorem low_none {P : jO} {z : Nat} (hz : z ≤ 64) (m : Int32) : (oI (lowR P z m) = -1) ↔ lowR P z m = none :=
  oI_m1 (fun n h => by have := (fnd_lt h).2.1; omega)
theorem mayT_eq {P : jO} {r : Nat → Int32} {z t m h : Nat} (hh : h < 8) (hC : CP P r) (hV : V P z t m) : mMayT r z (nI h) = (hasR P (nI h) (nI 1) && (lowR P z (nI 1)).isSome) := by
  have hz := hV.2.1.2.1.2.2
  unfold mMayT
  rw [first_eq hz (by omega) (by omega) hC, ← room_eq hh hC hV.2.1 (V_tail hV), Bool.and_comm]
  congr 1
  cases hl : lowR P z (nI 1) with
  | none => rfl
  | some f =>
    have := low_some hz (by omega) hl
    rw [Option.isSome_some]
    show (!decide (nI f = -1)) = true
    rw [decide_eq_false (nI_m1 (by omega))]
    rfl
theorem cry_eq {P : jO} {r : Nat → Int32} {Q : jO} {o : Nat → Int32} {z t k C : Nat} (ht : t ≤ 9999) (hC : CP P r) (hV : V P z t 64) (hB : B10 P C) (hU : B12 P (64 * t)) (hF : FO Q o k) (hO : mOk o k) :
    (cryP P z (Q 0 3) (Q 0 4) (Q 0 5) (Q 0 6) = none ∧ mDoneR r z (o (4 * k)) (o (4 * k + 1)) (o (4 * k + 2)) (o (4 * k + 3)) = none) ∨
    ∃ P1 r1 t1, cryP P z (Q 0 3) (Q 0 4) (Q 0 5) (Q 0 6) = some P1 ∧ mDoneR r z (o (4 * k)) (o (4 * k + 1)) (o (4 * k + 2)) (o (4 * k + 3)) = some r1 ∧ CP P1 r1 ∧ V P1 z t1 64 ∧ t1 ≤ 9999 ∧ B10 P1 (C + 6400) ∧ B12 P1 (64 * t1) := by
  have hz6 := hV.2.1.2.1.2.2
  have hz4 := hV.2.1.2.1.2.1
  obtain ⟨f0, f1, f2, f3⟩ := hF
  rw [f0]
  unfold cryP mDoneR
  rcases hO with ⟨e, w1⟩ | ⟨e, w1, w2⟩ | ⟨e, w1, w2, w3⟩ | ⟨e, w1, w2, w3⟩
  · rw [f1 e, e]
    simp only [eq_self, if_true, if_false, n9a, n9b, n9c, n9d, n9e, n9f, n9g, n9h, n9i, n9j, n9k, n9l]
    obtain ⟨b, b1, b2, b3⟩ := wit_j (by decide) w1 (by omega)
    rw [b3, CP_t hC, hV.2.1.1, nI_add, toN_nI (by omega)]
    by_cases hc : t + b ≤ 9999
    · right
      rw [if_pos (by rw [decide_eq_false (nI_nlt hc (by omega))]; rfl), if_pos (nI_le hc (by omega))]
      obtain ⟨a1, a2, a3⟩ := pass_all b t P r (nI 0) (by omega) hC hV
      refine ⟨_, _, t + b, rfl, rfl, a1, a2, hc, B10_mono (by omega) (B10_passN b P C hV.1 hB), ?_⟩
      rw [show 64 * (t + b) = 64 * t + 64 * b by omega]
      exact B12_passN b P _ hU
    · left
      rw [if_neg (by rw [decide_eq_true (nI_lt (by omega) (by omega))]; decide), if_neg (nI_ge (by omega) (by omega))]
      exact ⟨rfl, rfl⟩
  · rw [(f2 e).1, (f2 e).2, e]
    simp only [eq_self, if_true, if_false, n9a, n9b, n9c, n9d, n9e, n9f, n9g, n9h, n9i, n9j, n9k, n9l]
    obtain ⟨h, h1, h2, h3⟩ := wit_j (by decide) w1 (by omega)
    obtain ⟨u, u1, u2, u3⟩ := wit_j (by decide) w2 (by omega)
    rw [h3, u3, mayT_eq (by omega) hC hV, toN_nI (by omega)]
    by_cases hc : (hasR P (nI h) (nI 1) && (lowR P z (nI 1)).isSome) = true
    · right
      rw [if_pos hc, if_pos hc]
      rw [Bool.and_eq_true] at hc
      obtain ⟨f, hf⟩ := Option.isSome_iff_exists.mp hc.2
      obtain ⟨a1, a2, a3, a4⟩ := row_all (h := h) (u := u) (by omega) (by omega) u1 (by omega) (by omega) hC hV hB hf
      have hl := low_some hz6 (by omega) hf
      refine ⟨_, _, t, rfl, rfl, ?_, a2, ht, B10_mono (by omega) a3, B12_of a4 hU⟩
      rw [first_eq hz6 (by omega) (by omega) hC, oI_some hf, toN_nI (by omega)]
      exact a1
    · left
      rw [if_neg hc, if_neg hc]
      exact ⟨rfl, rfl⟩
  · obtain ⟨g1, g2, g3⟩ := f3 (Or.inl e)
    rw [g1, g2, g3, e]
    simp only [eq_self, if_true, if_false, n9a, n9b, n9c, n9d, n9e, n9f, n9g, n9h, n9i, n9j, n9k, n9l]
    obtain ⟨h, h1, h2, h3⟩ := wit_j (by decide) w1 (by omega)
    obtain ⟨n, n1, n2, n3⟩ := wit_j (by decide) w2 (by omega)
    obtain ⟨u, u1, u2, u3⟩ := wit_j (by decide) w3 (by omega)
    rw [h3, u3, n3, in_b (by omega) hV.2.1, wit_b (by omega) (by omega) hz6, toN_nI (n := h) (by omega), toN_nI (n := n) (by omega)]
    by_cases hn : n < z
    · rw [decide_eq_true hn, if_pos rfl, mayW_eq (by omega) (by omega) hC hV]
      by_cases hc : mayW P (nI h) n = true
      · right
        rw [if_pos hc, if_pos ⟨rfl, hc⟩]
        obtain ⟨a1, a2, a3, a4, a5⟩ := addW_all (u := u) hn (by omega : h < 8) (by omega) u1 (by omega) hC hV (fun q => mayW_w (by omega) hV.1 hc q) hB
        exact ⟨_, _, t, rfl, rfl, a1, a2, ht, B10_mono (by omega) a4, B12_of a5 hU⟩
      · left
        rw [if_neg hc, if_neg (fun q => hc q.2)]
        exact ⟨rfl, rfl⟩
    · left
      rw [decide_eq_false hn, if_neg (by decide), if_neg (fun q => Bool.noConfusion q.1)]
      exact ⟨rfl, rfl⟩
  · obtain ⟨g1, g2, g3⟩ := f3 (Or.inr e)
    rw [g1, g2, g3, e]
    simp only [eq_self, if_true, if_false, n9a, n9b, n9c, n9d, n9e, n9f, n9g, n9h, n9i, n9j, n9k, n9l]
    obtain ⟨h, h1, h2, h3⟩ := wit_j (by decide) w1 (by omega)
    obtain ⟨n, n1, n2, n3⟩ := wit_j (by decide) w2 (by omega)
    rw [n3] at w3 ⊢
    obtain ⟨s, s1, s2, s3⟩ := wit_j (by decide) w3 (by omega)
    rw [h3, s3, in_b (by omega) hV.2.1, in_b (by omega) hV.2.1, wit_b (by omega) (by omega) hz6, wit_b (by omega) (by omega) hz6, toN_nI (n := s) (by omega), toN_nI (n := n) (by omega)]
    by_cases hs : s < z
    · right
      rw [decide_eq_true hs, decide_eq_true (by omega : n < z), if_pos rfl, if_pos rfl, if_pos ⟨rfl, rfl⟩]
      obtain ⟨a1, a2, -⟩ := span_all (h := h) (by omega : t ≤ 20000) (s + 1 - n) n 0 P r (by omega) hC hV
      refine ⟨_, _, t, rfl, rfl, a1, a2, ht, B10_mono (by omega) (B10_spanN (h := nI h) (s + 1 - n) n (P, 0) C (by omega) hV.1 hB), B12_of (r12_spanN (h := nI h) _ _ _) hU⟩
    · left
      have e2 : ¬ (decide (n < z) = true ∧ false = true) := fun q => Bool.noConfusion q.2
      rw [decide_eq_false hs, if_neg e2]
      refine ⟨?_, rfl⟩
      split
      · rw [if_neg (by decide)]
      · rfl
