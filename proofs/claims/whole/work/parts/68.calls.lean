/-! WHAT EACH CALL COMES TO, ON BOTH SIDES -/
section PCALLS
variable {l : Launch} {E : jE} {S : jS} {K : Nat → Nat} {C : Nat} {y : Int64 × Nat}
theorem nf {b : Bool} (h : b = false) : ¬ b = true := by rw [h]; decide
theorem q4 {q : Int32} (h0 : q < nI 0 ∨ ¬ q ≤ nI 3) : q < 0 ∨ ¬ q < nI 4 := by
  rcases h0 with x | x
  · exact Or.inl x
  · right
    intro x2
    have h1 : q < 0 ∨ ¬ q < 0 := Decidable.em _
    rcases h1 with h1 | h1
    · exact x (Int32.le_of_lt (Int32.lt_of_lt_of_le h1 (by decide)))
    · obtain ⟨j, j1, rfl⟩ := nI_of h1
      rw [nI_ltI j1 (by omega)] at x2
      exact x (nI_le (by omega) (by omega))
theorem held_fnd {r : Nat → Int32} {P : jO} (hC : CP P r) : ∀ (k n : Nat), n + k ≤ 64 → (mHeld r k n = true ↔ (fnd (fun n => !frP P n) k n).isSome = true)
  | 0, n, _ => by
    rw [mHeld, fnd]
    simp
  | k + 1, n, hk => by
    rw [mHeld, fnd, free_eq (by omega) hC]
    rcases hf : frP P n with _ | _
    · simp
    · simp only [Bool.not_true, if_true, Bool.false_eq_true, if_false]
      exact held_fnd hC k (n + 1) (by omega)
theorem held_eq {r : Nat → Int32} {P : jO} {z v : Nat} (hv : v ≤ 64) (hz : z ≤ 64) (hC : CP P r) (hT : ∀ i, z ≤ i → i < 64 → P 2 i = -1) : mHeld r (z - v) v = true ↔ (fnd (fun n => !frP P n) (64 - v) v).isSome = true := by
  by_cases h : z ≤ v
  · rw [show z - v = 0 by omega, mHeld]
    have e := fnd_tail (p := fun n => !frP P n) 0 v (64 - v) (fun i a b => by
      unfold frP
      rw [hT i (by omega) (by omega)]
      rfl)
    rw [Nat.zero_add, fnd] at e
    rw [e]
    simp
  · rw [held_fnd hC (z - v) v (by omega)]
    have e := fnd_tail (p := fun n => !frP P n) (z - v) v (64 - z) (fun i a b => by
      unfold frP
      rw [hT i (by omega) (by omega)]
      rfl)
    rw [show z - v + (64 - z) = 64 - v by omega] at e
    rw [e]
theorem set_V {P : jO} {z t q v : Nat} (hq : q ≤ 3) (hv : v ≤ 64) (hl : (lsS q).toInt ≤ v) (h2 : q = 2 → v ≤ 1) (h50 : q = 0 → v ≤ 50) (hV : V P z t 64) (hfit : q = 3 → (fnd (fun n => !frP P n) (64 - v) v).isNone = true) : ∃ z', V (put P 1 q (nI v)) z' t 64 := by
  obtain ⟨a, ⟨b1, b2, b3, b4, b5⟩, c⟩ := hV
  have e : ∀ j, j ≠ 1 → put P 1 q (nI v) j = P j := fun j hj => put_ne hj
  have hPI : ∀ z', 4 ≤ z' → z' ≤ 64 → put P 1 q (nI v) 1 3 = nI z' → PI (put P 1 q (nI v)) := by
    intro z' h4 h6 h3
    obtain ⟨-, a2, a3⟩ := a
    exact ⟨⟨z', h4, h6, h3⟩, fun n hn => by rw [e 2 (by decide)]; exact a2 n hn, fun n hn => PIq_of (by rw [e 7 (by decide)]) (fun k _ => by rw [e 8 (by decide)]) (a3 n hn)⟩
  have hVL : ∀ z', (∀ n, n < 64 → ¬ P 2 n = -1 → n < z') → ∀ n, n < 64 → VL (put P 1 q (nI v)) z' t (if n < 64 then 1 else 0) n := by
    intro z' hz' n hn
    obtain ⟨x1, x2, x3⟩ := c n hn
    unfold VL VT VO
    rw [e 2 (by decide), e 4 (by decide), e 5 (by decide), e 7 (by decide), e 9 (by decide)]
    exact ⟨x1, x2, fun y => ⟨(x3 y).1, hz' n hn y⟩⟩
  by_cases h3 : q = 3
  · subst h3
    have h4 : 4 ≤ v := by
      have : (lsS 3).toInt = 4 := by decide
      omega
    have hz : put P 1 3 (nI v) 1 3 = nI v := by rw [put_at, if_pos rfl]
    refine ⟨v, hPI v h4 hv hz, ⟨by rw [e 0 (by decide)]; exact b1, ⟨hz, h4, hv⟩, ?_, ?_, ?_⟩, hVL v (fun n hn hf => ?_)⟩
    · rw [put_at, if_neg (by omega)]
      exact b3
    · rw [put_at, if_neg (by omega)]
      exact b4
    · rw [put_at, if_neg (by omega)]
      exact b5
    · rcases Nat.lt_or_ge n v with x | x
      · exact x
      · exfalso
        have hn2 := hfit rfl
        have : ∀ (k i : Nat), (fnd (fun n => !frP P n) k i).isNone = true → ∀ j, i ≤ j → j < i + k → frP P j = true := by
          intro k
          induction k with
          | zero => intro i _ j a b; omega
          | succ k ih =>
            intro i hx j ja jb
            rw [fnd] at hx
            rcases hfi : frP P i with _ | _
            · rw [hfi] at hx
              simp at hx
            · rw [hfi] at hx
              simp only [Bool.not_true, Bool.false_eq_true, if_false] at hx
              by_cases hji : j = i
              · rw [hji]
                exact hfi
              · exact ih (i + 1) hx j (by omega) (by omega)
        have := this (64 - v) v hn2 n x (by omega)
        unfold frP at this
        exact hf (of_decide_eq_true this)
  · have hz : put P 1 q (nI v) 1 3 = nI z := by rw [put_at, if_neg (by omega)]; exact b2.1
    refine ⟨z, hPI z b2.2.1 b2.2.2 hz, ⟨by rw [e 0 (by decide)]; exact b1, ⟨hz, b2.2.1, b2.2.2⟩, ?_, ?_, ?_⟩, hVL z (fun n hn hf => ((c n hn).2.2 hf).2)⟩
    · rw [put_at]
      by_cases x : 0 = q
      · rw [if_pos x]
        exact ⟨v, h50 x.symm, rfl⟩
      · rw [if_neg x]
        exact b3
    · rw [put_at]
      by_cases x : 1 = q
      · rw [if_pos x]
        subst x
        have : (lsS 1).toInt = 1 := by decide
        exact ⟨v, by omega, hv, rfl⟩
      · rw [if_neg x]
        exact b4
    · rw [put_at]
      by_cases x : 2 = q
      · rw [if_pos x]
        exact ⟨v, h2 x.symm, rfl⟩
      · rw [if_neg x]
        exact b5
theorem p_take (hst : l.stackTraces = false) (hc : COUP S K C) (p0 p1 : Int32) : Res l E yX4_take cX4_take 3 8 yX5_take cX5_take 3 5 [xO, xA, xS] [.int p0, .int p1] S K C y := by
  obtain ⟨⟨z, t, hC, hV, ht, hB, hU⟩, hs, hO, w, hX⟩ := id hc
  have hSI := SI_of hs
  obtain ⟨hK, m, hm6, h9, hm, hsv⟩ := id hs
  have hM := MI_of_CP hC hV
  have hz := hV.2.1.2.1.1
  have hz4 := hV.2.1.2.1.2.1
  have hz6 := hV.2.1.2.1.2.2
  have cm : ∀ (S1 : jS) (x : jX), Ct l E yX5_take cX5_take 3 (some .int) 5 [.ref (ad E 10 0), .int p0, .int p1] (setO S1 10 (S 10), x) (some (.int (mTake (S 10) z p0 p1).1)) (setO S1 10 (mTake (S 10) z p0 p1).2, x) := fun S1 x => c5_take l E S1 x (S 10) hM hm6 hm p0 p1
  rcases hol_split p0 with ⟨h, hh, rfl, wh⟩ | ⟨h0, wh⟩
  · rcases rng_split p1 (lo := 1) (hi := 999) (by omega) (by omega) with ⟨u, u1, u2, rfl, wu, n1, n2⟩ | ⟨h0, wu⟩
    · by_cases hq : (hasR (S 0) (nI h) (nI 1) && (lowR (S 0) z (nI 1)).isSome) = true
      · obtain ⟨f, hf⟩ := Option.isSome_iff_exists.mp (Bool.and_eq_true _ _ ▸ hq).2
        obtain ⟨a1, a2, a3, a4⟩ := row_all (h := h) (u := u) hh (by omega : t ≤ 20000) u1 u2 (by omega : 1 ≤ 64) hC hV hB hf
        have hfz := low_some hz6 (by omega) hf
        have e : mTake (S 10) z (nI h) (nI u) = (oI (lowR (S 0) z (nI 1)), putA (savT (thr (S 10) (nI 0))) 1 (mGivN h (nI u) 1 f (S 10 1))) := by
          unfold mTake
          rw [if_pos wh, if_pos wu, mayT_eq hh hC hV, if_pos hq, first_eq hz6 (by omega) (by omega) hC, oI_some hf, toN_nI (by omega), toN_nI (by omega)]
          rfl
        rw [e] at cm
        exact do_Res hc ⟨a1, a2, ht, B10_mono (by omega) a3, B12_of a4 hU⟩ (c4_take l E S K y hh n1 n2 hz hz6 hSI hq) (fun y' => cm _ _)
      · have e : mTake (S 10) z (nI h) (nI u) = (nI 0, thr (thr (S 10) (nI 0)) (nI 3)) := by
          unfold mTake
          rw [if_pos wh, if_pos wu, mayT_eq hh hC hV, if_neg hq]
        rw [e] at cm
        exact ref_Res 2 hc rfl (t4_take_s l hst E S K y hh n1 n2 hz hz6 (Bool.eq_false_iff.mpr hq)) (fun y' => cm _ _)
    · have e : mTake (S 10) z (nI h) p1 = (nI 0, thr (thr (S 10) (nI 0)) (nI 2)) := by
        unfold mTake
        rw [if_pos wh, if_neg (nf wu)]
      rw [e] at cm
      exact ref_Res 1 hc rfl (t4_take_t l hst E S K y hh h0) (fun y' => cm _ _)
  · have e : mTake (S 10) z p0 p1 = (nI 0, thr (thr (S 10) (nI 0)) (nI 1)) := by
      unfold mTake
      rw [if_neg (nf wh)]
    rw [e] at cm
    exact ref_Res 0 hc rfl (t4_take_h l hst E S K y h0) (fun y' => cm _ _)

theorem p_takeSpan (hst : l.stackTraces = false) (hc : COUP S K C) (p0 p1 p2 : Int32) : Res l E yX4_takeSpan cX4_takeSpan 4 8 yX5_takeSpan cX5_takeSpan 6 5 [xO, xA, xS] [.int p0, .int p1, .int p2] S K C y := by
  obtain ⟨⟨z, t, hC, hV, ht, hB, hU⟩, hs, hO, w, hX⟩ := id hc
  have hSI := SI_of hs
  obtain ⟨hK, m, hm6, h9, hm, hsv⟩ := id hs
  have hM := MI_of_CP hC hV
  have hz := hV.2.1.2.1.1
  have hz4 := hV.2.1.2.1.2.1
  have hz6 := hV.2.1.2.1.2.2
  have cm : ∀ (S1 : jS) (x : jX), Ct l E yX5_takeSpan cX5_takeSpan 6 (some .int) 5 [.ref (ad E 10 0), .int p0, .int p1, .int p2] (setO S1 10 (S 10), x) (some (.int (mSpan (S 10) z p0 p1 p2).1)) (setO S1 10 (mSpan (S 10) z p0 p1 p2).2, x) := fun S1 x => c5_takeSpan l E S1 x (S 10) hM hm6 hm p0 p1 p2
  rcases hol_split p0 with ⟨h, hh, rfl, wh⟩ | ⟨h0, wh⟩
  · rcases rng_split p1 (lo := 1) (hi := 64) (by omega) (by omega) with ⟨q, q1, q2, rfl, wq, m1, m2⟩ | ⟨h0, wq⟩
    · rcases rng_split p2 (lo := 1) (hi := 999) (by omega) (by omega) with ⟨u, u1, u2, rfl, wu, n1, n2⟩ | ⟨h0, wu⟩
      · by_cases hq : (hasR (S 0) (nI h) (nI q) && (lowR (S 0) z (nI q)).isSome) = true
        · have hq2 := hq
          rw [Bool.and_eq_true] at hq2
          obtain ⟨f, hf⟩ := Option.isSome_iff_exists.mp hq2.2
          obtain ⟨a1, a2, a3, a4⟩ := row_all (h := h) (u := u) hh (by omega : t ≤ 20000) u1 u2 q2 hC hV hB hf
          have hfz := low_some hz6 q2 hf
          have c1 : ¬ nI f = -1 ∧ mRoom (S 10 1) z (nI h) (nI q) = true := ⟨nI_m1 (by omega), by rw [← room_eq hh hC hV.2.1 (V_tail hV)]; exact hq2.1⟩
          have e : mSpan (S 10) z (nI h) (nI q) (nI u) = (oI (lowR (S 0) z (nI q)), putA (savT (thr (S 10) (nI 0))) 1 (mGivN h (nI u) q f (S 10 1))) := by
            unfold mSpan
            rw [if_pos wh, if_pos ⟨wq, wu⟩, first_eq hz6 q1 q2 hC, oI_some hf, if_pos c1, toN_nI (n := f) (by omega), toN_nI (n := h) (by omega), toN_nI (n := q) (by omega)]
          rw [e] at cm
          exact do_Res hc ⟨a1, a2, ht, B10_mono (by omega) a3, B12_of a4 hU⟩ (c4_takeSpan l E S K y hh q1 q2 n1 n2 hz hz6 hSI hq) (fun y' => cm _ _)
        · have c1 : ¬ (¬ oI (lowR (S 0) z (nI q)) = -1 ∧ mRoom (S 10 1) z (nI h) (nI q) = true) := by
            rintro ⟨x1, x2⟩
            rw [← room_eq hh hC hV.2.1 (V_tail hV)] at x2
            refine hq ?_
            rw [x2, Bool.true_and]
            rcases hl : lowR (S 0) z (nI q) with _ | f
            · rw [hl] at x1
              exact absurd rfl x1
            · rfl
          have e : mSpan (S 10) z (nI h) (nI q) (nI u) = (nI 0, thr (thr (S 10) (nI 0)) (nI 3)) := by
            unfold mSpan
            rw [if_pos wh, if_pos ⟨wq, wu⟩, first_eq hz6 q1 q2 hC, if_neg c1]
          rw [e] at cm
          exact ref_Res 2 hc rfl (t4_takeSpan_s l hst E S K y hh q1 q2 n1 n2 hz hz6 (Bool.eq_false_iff.mpr hq)) (fun y' => cm _ _)
      · have e : mSpan (S 10) z (nI h) (nI q) p2 = (nI 0, thr (thr (S 10) (nI 0)) (nI 2)) := by
          unfold mSpan
          rw [if_pos wh, if_neg (fun x => nf wu x.2)]
        rw [e] at cm
        exact ref_Res 1 hc rfl (t4_takeSpan_t l hst E S K y hh q1 q2 h0) (fun y' => cm _ _)
    · have e : mSpan (S 10) z (nI h) p1 p2 = (nI 0, thr (thr (S 10) (nI 0)) (nI 2)) := by
        unfold mSpan
        rw [if_pos wh, if_neg (fun x => nf wq x.1)]
      rw [e] at cm
      exact ref_Res 1 hc rfl (t4_takeSpan_m l hst E S K y hh h0) (fun y' => cm _ _)
  · have e : mSpan (S 10) z p0 p1 p2 = (nI 0, thr (thr (S 10) (nI 0)) (nI 1)) := by
      unfold mSpan
      rw [if_neg (nf wh)]
    rw [e] at cm
    exact ref_Res 0 hc rfl (t4_takeSpan_h l hst E S K y h0) (fun y' => cm _ _)

theorem p_wish (hst : l.stackTraces = false) (hc : COUP S K C) (p0 p1 p2 : Int32) : Res l E yX4_wish cX4_wish 4 7 yX5_wish cX5_wish 4 5 [xO, xA, xS] [.int p0, .int p1, .int p2] S K C y := by
  obtain ⟨⟨z, t, hC, hV, ht, hB, hU⟩, hs, hO, w, hX⟩ := id hc
  have hSI := SI_of hs
  obtain ⟨hK, m, hm6, h9, hm, hsv⟩ := id hs
  have hM := MI_of_CP hC hV
  have hz := hV.2.1.2.1.1
  have hz4 := hV.2.1.2.1.2.1
  have hz6 := hV.2.1.2.1.2.2
  have cm : ∀ (S1 : jS) (x : jX), Ct l E yX5_wish cX5_wish 4 (some .int) 5 [.ref (ad E 10 0), .int p0, .int p1, .int p2] (setO S1 10 (S 10), x) (some (.int (mWishM (S 10) z p0 p1 p2).1)) (setO S1 10 (mWishM (S 10) z p0 p1 p2).2, x) := fun S1 x => c5_wish l E S1 x (S 10) hM hm6 hm p0 p1 p2
  rcases hol_split p0 with ⟨h, hh, rfl, wh⟩ | ⟨h0, wh⟩
  · rcases num_split hV.2.1 p1 with ⟨n, hn, rfl, okn, wn⟩ | ⟨okn, wn⟩
    · obtain ⟨w3, hwe⟩ := PI_w hV.1 (by omega : n < 64)
      rcases rng_split p2 (lo := 1) (hi := 999) (by omega) (by omega) with ⟨u, u1, u2, rfl, wu, n1, n2⟩ | ⟨h0, wu⟩
      · by_cases hq : mayW (S 0) (nI h) n = true
        · obtain ⟨a1, a2, a3, a4, a5⟩ := addW_all (u := u) hn hh (by omega : t ≤ 20000) u1 u2 hC hV (fun x => mayW_w (by omega) hV.1 hq x) hB
          have e : mWishM (S 10) z (nI h) (nI n) (nI u) = ((if S 0 2 n = -1 then nI 0 else addW (S 0) h n (nI u) 7 n), putA (savT (thr (S 10) (nI 0))) 1 (mWishes (S 10 1) h n (nI u)).1) := by
            unfold mWishM
            rw [if_pos ⟨wh, wn⟩, if_pos wu, toN_nI (n := n) (by omega), toN_nI (n := h) (by omega), mayW_eq (by omega) hh hC hV, if_pos hq, a3]
          rw [e] at cm
          exact do_Res hc ⟨a1, a2, ht, B10_mono (by omega) a4, B12_of a5 hU⟩ (c4_wish l E S K y hh (by omega) okn n1 n2 w3 hwe hSI hq) (fun y' => cm _ _)
        · have e : mWishM (S 10) z (nI h) (nI n) (nI u) = (nI 0, thr (thr (S 10) (nI 0)) (nI 3)) := by
            unfold mWishM
            rw [if_pos ⟨wh, wn⟩, if_pos wu, toN_nI (n := n) (by omega), mayW_eq (by omega) hh hC hV, if_neg hq]
          rw [e] at cm
          exact ref_Res 2 hc rfl (t4_wish_s l hst E S K y hh (by omega) okn n1 n2 w3 hwe (Bool.eq_false_iff.mpr hq)) (fun y' => cm _ _)
      · have e : mWishM (S 10) z (nI h) (nI n) p2 = (nI 0, thr (thr (S 10) (nI 0)) (nI 2)) := by
          unfold mWishM
          rw [if_pos ⟨wh, wn⟩, if_neg (nf wu)]
        rw [e] at cm
        exact ref_Res 1 hc rfl (t4_wish_t l hst E S K y hh (by omega) okn h0) (fun y' => cm _ _)
    · have e : mWishM (S 10) z (nI h) p1 p2 = (nI 0, thr (thr (S 10) (nI 0)) (nI 1)) := by
        unfold mWishM
        rw [if_neg (fun x => nf wn x.2)]
      rw [e] at cm
      exact ref_Res 0 hc rfl (t4_wish_n l hst E S K y hh okn) (fun y' => cm _ _)
  · have e : mWishM (S 10) z p0 p1 p2 = (nI 0, thr (thr (S 10) (nI 0)) (nI 1)) := by
      unfold mWishM
      rw [if_neg (fun x => nf wh x.1)]
    rw [e] at cm
    exact ref_Res 0 hc rfl (t4_wish_h l hst E S K y h0) (fun y' => cm _ _)

theorem p_unwish (hst : l.stackTraces = false) (hc : COUP S K C) (p0 p1 : Int32) : Res l E yX4_unwish cX4_unwish 4 7 yX5_unwish cX5_unwish 4 5 [xO, xS] [.int p0, .int p1] S K C y := by
  obtain ⟨⟨z, t, hC, hV, ht, hB, hU⟩, hs, hO, w, hX⟩ := id hc
  have hSI := SI_of hs
  obtain ⟨hK, m, hm6, h9, hm, hsv⟩ := id hs
  have hM := MI_of_CP hC hV
  have hz := hV.2.1.2.1.1
  have hz4 := hV.2.1.2.1.2.1
  have hz6 := hV.2.1.2.1.2.2
  have cm : ∀ (S1 : jS) (x : jX), Ct l E yX5_unwish cX5_unwish 4 (some .int) 5 [.ref (ad E 10 0), .int p0, .int p1] (setO S1 10 (S 10), x) (some (.int (mUnw (S 10) z p0 p1).1)) (setO S1 10 (mUnw (S 10) z p0 p1).2, x) := fun S1 x => c5_unwish l E S1 x (S 10) hM hm6 hm p0 p1
  rcases hol_split p0 with ⟨h, hh, rfl, wh⟩ | ⟨h0, wh⟩
  · rcases num_split hV.2.1 p1 with ⟨n, hn, rfl, okn, wn⟩ | ⟨okn, wn⟩
    · obtain ⟨w3, hwe⟩ := PI_w hV.1 (by omega : n < 64)
      have ew := wish_eq (by omega : n < 64) hC hV.1 (nI h)
      rcases hq : placeW (S 0) (nI h) n with _ | q
      · have e : mUnw (S 10) z (nI h) (nI n) = (nI 0, thr (thr (S 10) (nI 0)) (nI 2)) := by
          unfold mUnw
          rw [if_pos ⟨wh, wn⟩, toN_nI (n := n) (by omega), ew, hq]
        rw [e] at cm
        exact ref_Res 1 hc rfl (t4_unwish_s l hst E S K y hh (by omega) okn w3 hwe hq) (fun y' => cm _ _)
      · have hql : q < toN (S 0 7 n) := by
          have := (fnd_lt hq).2.1
          omega
        obtain ⟨a1, a2⟩ := dropW_all hn hql hC hV
        have e : mUnw (S 10) z (nI h) (nI n) = (dropP (S 0) n q 7 n, putA (savT (thr (S 10) (nI 0))) 1 (mDrop (S 10 1) n q)) := by
          unfold mUnw
          rw [if_pos ⟨wh, wn⟩, toN_nI (n := n) (by omega), ew, hq]
          simp only
          rw [CP_wait a1 (by omega)]
        rw [e] at cm
        exact do_Res hc ⟨a1, a2, ht, B10_mono (by omega) (B10_of (drop_ne (by decide) (by decide) (by decide)) hB), B12_of (drop_ne (by decide) (by decide) (by decide)) hU⟩ (c4_unwish l E S K y hh (by omega) okn w3 hwe hSI hql hq) (fun y' => cm _ _)
    · have e : mUnw (S 10) z (nI h) p1 = (nI 0, thr (thr (S 10) (nI 0)) (nI 1)) := by
        unfold mUnw
        rw [if_neg (fun x => nf wn x.2)]
      rw [e] at cm
      exact ref_Res 0 hc rfl (t4_unwish_n l hst E S K y hh okn) (fun y' => cm _ _)
  · have e : mUnw (S 10) z p0 p1 = (nI 0, thr (thr (S 10) (nI 0)) (nI 1)) := by
      unfold mUnw
      rw [if_neg (fun x => nf wh x.1)]
    rw [e] at cm
    exact ref_Res 0 hc rfl (t4_unwish_h l hst E S K y h0) (fun y' => cm _ _)

theorem p_renew (hst : l.stackTraces = false) (hc : COUP S K C) (p0 p1 p2 : Int32) : Res l E yX4_renew cX4_renew 4 7 yX5_renew cX5_renew 6 5 [xO, xA, xS] [.int p0, .int p1, .int p2] S K C y := by
  obtain ⟨⟨z, t, hC, hV, ht, hB, hU⟩, hs, hO, w, hX⟩ := id hc
  have hSI := SI_of hs
  obtain ⟨hK, m, hm6, h9, hm, hsv⟩ := id hs
  have hM := MI_of_CP hC hV
  have hz := hV.2.1.2.1.1
  have hz4 := hV.2.1.2.1.2.1
  have hz6 := hV.2.1.2.1.2.2
  have cm : ∀ (S1 : jS) (x : jX), Ct l E yX5_renew cX5_renew 6 (some .int) 5 [.ref (ad E 10 0), .int p0, .int p1, .int p2] (setO S1 10 (S 10), x) (some (.int (mRen (S 10) z p0 p1 p2).1)) (setO S1 10 (mRen (S 10) z p0 p1 p2).2, x) := fun S1 x => c5_renew l E S1 x (S 10) hM hm6 hm p0 p1 p2
  rcases hol_split p0 with ⟨h, hh, rfl, wh⟩ | ⟨h0, wh⟩
  · rcases num_split hV.2.1 p1 with ⟨n, hn, rfl, okn, wn⟩ | ⟨okn, wn⟩
    · obtain ⟨w3, hwe⟩ := PI_w hV.1 (by omega : n < 64)
      rcases rng_split p2 (lo := 1) (hi := 999) (by omega) (by omega) with ⟨u, u1, u2, rfl, wu, n1, n2⟩ | ⟨h0, wu⟩
      · have hcond : (decide (S 0 2 n = nI h) && (decide (S 0 1 2 = 0) || decide (S 0 7 n = 0))) = true ↔ (S 10 1 (32 + 12 * n) = nI h ∧ (S 10 1 (32 + 12 * n + 5) ≤ 0 ∨ ¬ S 10 1 3 = nI 1)) := by
          obtain ⟨b, b1, b2⟩ := hV.2.1.2.2.2.2
          rw [CP_who hC (by omega), CP_wait hC (by omega), show S 10 1 3 = S 0 1 2 from CP_s (i := 2) hC (by omega), b2, hwe, Bool.and_eq_true, Bool.or_eq_true, decide_eq_true_eq, decide_eq_true_eq, decide_eq_true_eq, show (0 : Int32) = nI 0 from rfl,
            nI_eq (by omega) (by omega), nI_eq (by omega) (by omega), nI_eq (by omega) (by omega), nI_leI (by omega) (by omega)]
          constructor
          · rintro ⟨x1, x2⟩
            exact ⟨x1, by omega⟩
          · rintro ⟨x1, x2⟩
            exact ⟨x1, by omega⟩
        by_cases hq : (decide (S 0 2 n = nI h) && (decide (S 0 1 2 = 0) || decide (S 0 7 n = 0))) = true
        · obtain ⟨a1, a2, a3, a4⟩ := prol_all (u := u) hn (by omega : t ≤ 20000) u1 u2 hC hV
          have e : mRen (S 10) z (nI h) (nI n) (nI u) = (S 0 4 n, putA (savT (thr (S 10) (nI 0))) 1 (mRenR (S 10 1) n (nI u))) := by
            unfold mRen
            rw [if_pos ⟨wh, wn⟩, if_pos wu, toN_nI (n := n) (by omega), if_pos (hcond.mp hq), CP_end hC (by omega)]
          rw [e] at cm
          exact do_Res hc ⟨a1, a2, ht, B10_mono (by omega) (B10_of a3 hB), B12_of a4 hU⟩ (c4_renew l E S K y hh (by omega) okn n1 n2 hSI hq) (fun y' => cm _ _)
        · have e : mRen (S 10) z (nI h) (nI n) (nI u) = (nI 0, thr (thr (S 10) (nI 0)) (nI 3)) := by
            unfold mRen
            rw [if_pos ⟨wh, wn⟩, if_pos wu, toN_nI (n := n) (by omega), if_neg (fun x => hq (hcond.mpr x))]
          rw [e] at cm
          exact ref_Res 2 hc rfl (t4_renew_s l hst E S K y hh (by omega) okn n1 n2 (Bool.eq_false_iff.mpr hq)) (fun y' => cm _ _)
      · have e : mRen (S 10) z (nI h) (nI n) p2 = (nI 0, thr (thr (S 10) (nI 0)) (nI 2)) := by
          unfold mRen
          rw [if_pos ⟨wh, wn⟩, if_neg (nf wu)]
        rw [e] at cm
        exact ref_Res 1 hc rfl (t4_renew_t l hst E S K y hh (by omega) okn h0) (fun y' => cm _ _)
    · have e : mRen (S 10) z (nI h) p1 p2 = (nI 0, thr (thr (S 10) (nI 0)) (nI 1)) := by
        unfold mRen
        rw [if_neg (fun x => nf wn x.2)]
      rw [e] at cm
      exact ref_Res 0 hc rfl (t4_renew_n l hst E S K y hh okn) (fun y' => cm _ _)
  · have e : mRen (S 10) z p0 p1 p2 = (nI 0, thr (thr (S 10) (nI 0)) (nI 1)) := by
      unfold mRen
      rw [if_neg (fun x => nf wh x.1)]
    rw [e] at cm
    exact ref_Res 0 hc rfl (t4_renew_h l hst E S K y h0) (fun y' => cm _ _)

theorem p_giveBack (hst : l.stackTraces = false) (hc : COUP S K C) (p0 p1 p2 : Int32) : Res l E yX4_giveBack cX4_giveBack 4 7 yX5_giveBack cX5_giveBack 4 6 [xO, xA] [.int p0, .int p1, .int p2] S K C y := by
  obtain ⟨⟨z, t, hC, hV, ht, hB, hU⟩, hs, hO, w, hX⟩ := id hc
  have hSI := SI_of hs
  obtain ⟨hK, m, hm6, h9, hm, hsv⟩ := id hs
  have hM := MI_of_CP hC hV
  have hz := hV.2.1.2.1.1
  have hz4 := hV.2.1.2.1.2.1
  have hz6 := hV.2.1.2.1.2.2
  have cm : ∀ (S1 : jS) (x : jX), Ct l E yX5_giveBack cX5_giveBack 4 (some .int) 6 [.ref (ad E 10 0), .int p0, .int p1, .int p2] (setO S1 10 (S 10), x) (some (.int (mGive (S 10) z p0 p1 p2).1)) (setO S1 10 (mGive (S 10) z p0 p1 p2).2, x) := fun S1 x => c5_giveBack l E S1 x (S 10) hM hm6 hm p0 p1 p2
  rcases hol_split p0 with ⟨h, hh, rfl, wh⟩ | ⟨h0, wh⟩
  · rcases num_split hV.2.1 p1 with ⟨n, hn, rfl, okn, wn⟩ | ⟨okn, wn⟩
    · rcases num_split hV.2.1 p2 with ⟨s, hs2, rfl, oks, ws⟩ | ⟨oks, ws⟩
      · by_cases hq : n ≤ s
        · obtain ⟨a1, a2, a3⟩ := span_all (h := h) (by omega : t ≤ 20000) (s + 1 - n) n 0 (S 0) (S 10 1) (by omega) hC hV
          have e : mGive (S 10) z (nI h) (nI n) (nI s) = (nI (spanN (nI h) (s + 1 - n) n (S 0, 0)).2, putA (savT (thr (S 10) (nI 0))) 1 (mBack z (nI h) (s + 1 - n) n (S 10 1, 0)).1) := by
            unfold mGive
            rw [if_pos ⟨wh, wn, ws⟩, if_neg (nI_nlt hq (by omega)), toN_nI (n := n) (by omega), toN_nI (n := s) (by omega), a3]
          rw [e] at cm
          exact do_Res hc ⟨a1, a2, ht, B10_mono (by omega) (B10_spanN (h := nI h) (s + 1 - n) n (S 0, 0) C (by omega) hV.1 hB), B12_of (r12_spanN (h := nI h) _ _ _) hU⟩ (c4_giveBack l E S K y hh (by omega) okn oks (by omega) hV.1 hSI hq) (fun y' => cm _ _)
        · have e : mGive (S 10) z (nI h) (nI n) (nI s) = (nI 0, thr (thr (S 10) (nI 0)) (nI 2)) := by
            unfold mGive
            rw [if_pos ⟨wh, wn, ws⟩, if_pos (nI_lt (by omega) (by omega))]
          rw [e] at cm
          exact ref_Res 1 hc rfl (t4_giveBack_r l hst E S K y hh (by omega) okn oks (by omega) (by omega)) (fun y' => cm _ _)
      · have e : mGive (S 10) z (nI h) (nI n) p2 = (nI 0, thr (thr (S 10) (nI 0)) (nI 1)) := by
          unfold mGive
          rw [if_neg (fun x => nf ws x.2.2)]
        rw [e] at cm
        exact ref_Res 0 hc rfl (t4_giveBack_b l hst E S K y hh okn oks) (fun y' => cm _ _)
    · have e : mGive (S 10) z (nI h) p1 p2 = (nI 0, thr (thr (S 10) (nI 0)) (nI 1)) := by
        unfold mGive
        rw [if_neg (fun x => nf wn x.2.1)]
      rw [e] at cm
      exact ref_Res 0 hc rfl (t4_giveBack_a l hst E S K y hh okn) (fun y' => cm _ _)
  · have e : mGive (S 10) z p0 p1 p2 = (nI 0, thr (thr (S 10) (nI 0)) (nI 1)) := by
      unfold mGive
      rw [if_neg (fun x => nf wh x.1)]
    rw [e] at cm
    exact ref_Res 0 hc rfl (t4_giveBack_h l hst E S K y h0) (fun y' => cm _ _)

theorem p_pass (hst : l.stackTraces = false) (hc : COUP S K C) (p0 : Int32) : Res l E yX4_pass cX4_pass 2 7 yX5_pass cX5_pass 2 7 [xA, xS] [.int p0] S K C y := by
  obtain ⟨⟨z, t, hC, hV, ht, hB, hU⟩, hs, hO, w, hX⟩ := id hc
  have hSI := SI_of hs
  obtain ⟨hK, m, hm6, h9, hm, hsv⟩ := id hs
  have hM := MI_of_CP hC hV
  have hz := hV.2.1.2.1.1
  have hz4 := hV.2.1.2.1.2.1
  have hz6 := hV.2.1.2.1.2.2
  have cm : ∀ (S1 : jS) (x : jX), Ct l E yX5_pass cX5_pass 2 (some .int) 7 [.ref (ad E 10 0), .int p0] (setO S1 10 (S 10), x) (some (.int (mPas (S 10) z p0).1)) (setO S1 10 (mPas (S 10) z p0).2, x) := fun S1 x => c5_pass l E S1 x (S 10) hM hm6 hm p0
  rcases rng_split p0 (lo := 1) (hi := 99) (by omega) (by omega) with ⟨b, b1, b2, rfl, wb, n1, n2⟩ | ⟨h0, wb⟩
  · by_cases hq : t + b ≤ 9999
    · obtain ⟨a1, a2, a3⟩ := pass_all b t (S 0) (S 10 1) (nI 0) (by omega) hC hV
      have hq2 : (!decide (nI 9999 < S 0 0 0 + nI b)) = true := by rw [hV.2.1.1, nI_add, decide_eq_false (nI_nlt hq (by omega))]; rfl
      have e : mPas (S 10) z (nI b) = (passN b (S 0) 0 3 - S 0 0 3, putA (savT (thr (S 10) (nI 0))) 1 (mPass z b (S 10 1, nI 0)).1) := by
        unfold mPas
        rw [if_pos wb, CP_t hC, hV.2.1.1, nI_add, if_pos (nI_le hq (by omega)), toN_nI (n := b) (by omega), a3, nI0, Int32.zero_add]
      rw [e] at cm
      refine do_Res hc ⟨a1, a2, hq, B10_mono (by omega) (B10_passN b (S 0) C hV.1 hB), ?_⟩ (c4_pass l E S K y b1 b2 hV.1 hSI hq2) (fun y' => cm _ _)
      rw [show 64 * (t + b) = 64 * t + 64 * b by omega]
      exact B12_passN b (S 0) _ hU
    · have hq2 : (!decide (nI 9999 < S 0 0 0 + nI b)) = false := by rw [hV.2.1.1, nI_add, decide_eq_true (nI_lt (by omega) (by omega))]; rfl
      have e : mPas (S 10) z (nI b) = (nI 0, thr (thr (S 10) (nI 0)) (nI 2)) := by
        unfold mPas
        rw [if_pos wb, CP_t hC, hV.2.1.1, nI_add, if_neg (nI_ge (by omega) (by omega))]
      rw [e] at cm
      exact ref_Res 1 hc rfl (t4_pass_s l hst E S K y b1 b2 hq2) (fun y' => cm _ _)
  · have e : mPas (S 10) z p0 = (nI 0, thr (thr (S 10) (nI 0)) (nI 1)) := by
      unfold mPas
      rw [if_neg (nf wb)]
    rw [e] at cm
    exact ref_Res 0 hc rfl (t4_pass_b l hst E S K y h0) (fun y' => cm _ _)

theorem p_append (hst : l.stackTraces = false) (hc : COUP S K C) (p0 : Int32) : Res l E yX4_append cX4_append 2 7 yX5_append cX5_append 2 2 [xA, xS] [.int p0] S K C y := by
  obtain ⟨⟨z, t, hC, hV, ht, hB, hU⟩, hs, hO, w, hX⟩ := id hc
  have hSI := SI_of hs
  obtain ⟨hK, m, hm6, h9, hm, hsv⟩ := id hs
  have hM := MI_of_CP hC hV
  have hz := hV.2.1.2.1.1
  have hz4 := hV.2.1.2.1.2.1
  have hz6 := hV.2.1.2.1.2.2
  have cm : ∀ (S1 : jS) (x : jX), Ct l E yX5_append cX5_append 2 (some .int) 2 [.ref (ad E 10 0), .int p0] (setO S1 10 (S 10), x) (some (.int (mApp (S 10) p0).1)) (setO S1 10 (mApp (S 10) p0).2, x) := fun S1 x => c5_append l E S1 x (S 10) hX.2.2.1 hX.2.1 p0
  obtain ⟨x1, x2, x3, x4⟩ := id hX
  rcases rng_split p0 (lo := 33) (hi := 126) (by omega) (by omega) with ⟨c, c1, c2, rfl, wc, n1, n2⟩ | ⟨h0, wc⟩
  · by_cases hq : w = 60
    · subst hq
      have e : mApp (S 10) (nI c) = (nI 0, thr (thr (S 10) (nI 0)) (nI 2)) := by
        unfold mApp
        rw [if_pos wc, if_pos x2]
      rw [e] at cm
      exact ref_Res 1 hc rfl (t4_append_s l hst E S K y n1 n2 x1) (fun y' => cm _ _)
    · have e : mApp (S 10) (nI c) = (nI (w + 1), put (put (thr (S 10) (nI 0)) 4 w (nI c)) 0 1 (nI (w + 1))) := by
        unfold mApp
        rw [if_pos wc, x2, if_neg (fun q => hq ((nI_eq (by omega) (by omega)).mp q)), toN_nI (by omega), nI_add]
      rw [e] at cm
      dsimp only at cm
      have e8 : put (put (S 8) 1 w (nI c)) 0 0 ((put (S 8) 1 w (nI c)) 0 0 + nI 1) = put (put (S 8) 1 w (nI c)) 0 0 (nI (w + 1)) := by
        rw [put_ne (by decide : (0 : Nat) ≠ 1), x1, nI_add]
      have ct := c4_append l E S K y n1 n2 (by omega : w < 60) x1
      rw [e8] at ct
      have e10 : setO S 8 (put (put (S 8) 1 w (nI c)) 0 0 (nI (w + 1))) 10 = S 10 := setO_ne (by decide)
      refine ⟨0, _, _, _, Or.inl ⟨rfl, ct⟩, fun y' => ⟨_, _, ct_at e10 (cm _ _), ?_, fun _ => rfl, ?_⟩⟩
      · rw [pfa (by omega), put_ne (by decide), thr_2]
      · refine ⟨⟨z, t, ?_⟩, ?_, ?_, w + 1, ?_, ?_, by omega, fun i hi => ?_⟩
        · rw [setO_ne (by decide), setO_ne (by decide), setO_at, put_ne (by decide), put_ne (by decide), thr_1]
          exact ⟨hC, hV, ht, B10_mono (by omega) hB, hU⟩
        · rw [setO_at]
          refine SAV_mono (by omega) (SAV_of ?_ (fun o _ _ => ?_) ?_ ?_ hs)
          · rw [setO_ne (by decide), setO_ne (by decide)]
          · rw [setO_ne (by omega), setO_ne (by omega)]
          · rw [pfa (by omega), put_ne (by decide)]
            unfold thr
            rw [pfa (by omega)]
          · rw [put_ne (by decide), put_ne (by decide)]
            unfold thr
            rw [put_ne (by decide)]
        · rw [setO_ne (by decide), setO_at]
          obtain ⟨-, a, a1, a2⟩ := hO
          refine ⟨⟨w + 1, by omega, by rw [put_at, if_pos rfl]⟩, a, a1, ?_⟩
          rw [pfa (by omega), put_ne (by decide)]
          exact a2
        · rw [setO_ne (by decide), setO_at, put_at, if_pos rfl]
        · rw [setO_at, put_at, if_pos rfl]
        · rw [setO_at, setO_ne (by decide), setO_at, put_ne (by decide : (4 : Nat) ≠ 0), put_at, put_ne (by decide : (1 : Nat) ≠ 0), put_at]
          by_cases q : i = w
          · rw [if_pos q, if_pos q]
          · rw [if_neg q, if_neg q]
            unfold thr
            rw [put_ne (by decide)]
            exact x4 i (by omega)
  · have e : mApp (S 10) p0 = (nI 0, thr (thr (S 10) (nI 0)) (nI 1)) := by
      unfold mApp
      rw [if_neg (nf wc)]
    rw [e] at cm
    exact ref_Res 0 hc rfl (t4_append_c l hst E S K y h0) (fun y' => cm _ _)

theorem p_set (hst : l.stackTraces = false) (hc : COUP S K C) (p0 p1 : Int32) : Res l E yX4_set cX4_set 4 7 yX5_set cX5_set 4 3 [xO, xA, xS] [.int p0, .int p1] S K C y := by
  obtain ⟨⟨z, t, hC, hV, ht, hB, hU⟩, hs, hO, w, hX⟩ := id hc
  have hSI := SI_of hs
  obtain ⟨hK, m, hm6, h9, hm, hsv⟩ := id hs
  have hM := MI_of_CP hC hV
  have hz := hV.2.1.2.1.1
  have hz4 := hV.2.1.2.1.2.1
  have hz6 := hV.2.1.2.1.2.2
  have cm : ∀ (S1 : jS) (x : jX), Ct l E yX5_set cX5_set 4 (some .int) 3 [.ref (ad E 10 0), .int p0, .int p1] (setO S1 10 (S 10), x) (some (.int (mSet (S 10) z p0 p1).1)) (setO S1 10 (mSet (S 10) z p0 p1).2, x) := fun S1 x => c5_set l E S1 x (S 10) hM hm6 hm p0 p1
  rcases rng_split p0 (lo := 0) (hi := 3) (by omega) (by omega) with ⟨q, -, q3, rfl, wq, -, -⟩ | ⟨h0, wq⟩
  · have hfor : mFor (nI q) p1 = true ↔ (¬ p1 < lsS q ∧ p1 ≤ msS q) := by
      have key : ∀ lo hi : Int32, witQ p1 lo hi = true ↔ (¬ p1 < lo ∧ p1 ≤ hi) := fun lo hi => by
        unfold witQ
        rw [Bool.and_eq_true, decide_eq_true_eq, decide_eq_true_eq, Int32.not_lt]
      rcases (by omega : q = 0 ∨ q = 1 ∨ q = 2 ∨ q = 3) with x | x | x | x <;> subst x
      · exact key (nI 0) (nI 50)
      · exact key (nI 1) (nI 64)
      · exact key (nI 0) (nI 1)
      · exact key (nI 4) (nI 64)
    by_cases hv : ¬ p1 < lsS q ∧ p1 ≤ msS q
    · obtain ⟨v, v1, v2, rfl⟩ : ∃ v : Nat, (lsS q).toInt ≤ v ∧ v ≤ 64 ∧ p1 = nI v := by
        rcases (by omega : q = 0 ∨ q = 1 ∨ q = 2 ∨ q = 3) with x | x | x | x <;> subst x
        · obtain ⟨v, a, b⟩ := nI_of2 (n := 50) (M := nI 50) (by decide) hv.1 hv.2
          exact ⟨v, by rw [show (lsS 0).toInt = 0 by decide]; omega, by omega, b⟩
        · have h0 : ¬ p1 < 0 := fun x => hv.1 (Int32.lt_of_lt_of_le x (by decide))
          obtain ⟨v, a, b⟩ := nI_of2 (n := 64) (M := nI 64) (by decide) h0 hv.2
          have hv1 := hv.1
          rw [b, show lsS 1 = nI 1 from rfl, nI_ltI (by omega) (by omega)] at hv1
          exact ⟨v, by rw [show (lsS 1).toInt = 1 by decide]; omega, a, b⟩
        · obtain ⟨v, a, b⟩ := nI_of2 (n := 1) (M := nI 1) (by decide) hv.1 hv.2
          exact ⟨v, by rw [show (lsS 2).toInt = 0 by decide]; omega, by omega, b⟩
        · have h0 : ¬ p1 < 0 := fun x => hv.1 (Int32.lt_of_lt_of_le x (by decide))
          obtain ⟨v, a, b⟩ := nI_of2 (n := 64) (M := nI 64) (by decide) h0 hv.2
          have hv1 := hv.1
          rw [b, show lsS 3 = nI 4 from rfl, nI_ltI (by omega) (by omega)] at hv1
          exact ⟨v, by rw [show (lsS 3).toInt = 4 by decide]; omega, a, b⟩
      have hT := V_tail hV
      have hheld := held_eq v2 hz6 hC hT
      have h3 : (nI q = nI 3 ∧ mHeld (S 10 1) (z - toN (nI v)) (toN (nI v)) = true) ↔ (q = 3 ∧ (fnd (fun n => !frP (S 0) n) (64 - v) v).isNone = false) := by
        rw [nI_eq (by omega) (by omega), toN_nI (n := v) (by omega), hheld]
        constructor
        · rintro ⟨a, b⟩
          exact ⟨a, by rcases hx : fnd (fun n => !frP (S 0) n) (64 - v) v with _ | f <;> rw [hx] at b; exact Bool.noConfusion b; rfl⟩
        · rintro ⟨a, b⟩
          exact ⟨a, by rcases hx : fnd (fun n => !frP (S 0) n) (64 - v) v with _ | f <;> rw [hx] at b; exact Bool.noConfusion b; rfl⟩
      by_cases hf : q = 3 ∧ (fnd (fun n => !frP (S 0) n) (64 - v) v).isNone = false
      · obtain ⟨rfl, hf2⟩ := hf
        have e : mSet (S 10) z (nI 3) (nI v) = (nI 0, thr (thr (S 10) (nI 0)) (nI 3)) := by
          unfold mSet
          rw [if_pos wq, if_pos (hfor.mpr hv), if_pos (h3.mpr ⟨rfl, hf2⟩)]
        rw [e] at cm
        exact ref_Res 2 hc rfl (t4_set_s l hst E S K y hv.1 hv.2 v2 rfl hf2) (fun y' => cm _ _)
      · have hfit : q = 3 → ∃ m : Nat, m ≤ 64 ∧ nI v = nI m ∧ (fnd (fun n => !frP (S 0) n) (64 - m) m).isNone = true := fun x => ⟨v, v2, rfl, by
          rcases hx : (fnd (fun n => !frP (S 0) n) (64 - v) v).isNone with _ | _
          · exact absurd ⟨x, hx⟩ hf
          · rfl⟩
        have e : mSet (S 10) z (nI q) (nI v) = (S 0 1 q, putA (savT (thr (S 10) (nI 0))) 1 (upd (S 10 1) (1 + q) (nI v))) := by
          unfold mSet
          rw [if_pos wq, if_pos (hfor.mpr hv), if_neg (fun x => hf (h3.mp x)), toN_nI (n := q) (by omega), CP_s hC (by omega)]
        rw [e] at cm
        have hV2 : ∃ z', V (put (S 0) 1 q (nI v)) z' t 64 := set_V q3 v2 v1 (by
          intro x
          subst x
          have := hv.2
          exact (nI_leI (a := v) (b := 1) (by omega) (by omega)).mp this) (fun x => by
          subst x
          exact (nI_leI (a := v) (b := 50) (by omega) (by omega)).mp hv.2) hV (fun x => by
          obtain ⟨m, m1, m2, m3⟩ := hfit x
          rw [← (nI_eq (by omega) (by omega)).mp m2] at m3
          exact m3)
        obtain ⟨z', hV2⟩ := hV2
        exact do_Res hc ⟨CP_putS (by omega) hC, hV2, ht, B10_mono (by omega) (B10_of (put_ne (by decide)) hB), B12_of (put_ne (by decide)) hU⟩ (c4_set l E S K y (by omega) hv.1 hv.2 hSI hfit) (fun y' => cm _ _)
    · have e : mSet (S 10) z (nI q) p1 = (nI 0, thr (thr (S 10) (nI 0)) (nI 2)) := by
        unfold mSet
        rw [if_pos wq, if_neg (fun x => hv (hfor.mp x))]
      rw [e] at cm
      exact ref_Res 1 hc rfl (t4_set_v l hst E S K y (by omega) (by
        by_cases x : p1 < lsS q
        · exact Or.inl x
        · exact Or.inr (fun x2 => hv ⟨x, x2⟩))) (fun y' => cm _ _)
  · have e : mSet (S 10) z p0 p1 = (nI 0, thr (thr (S 10) (nI 0)) (nI 1)) := by
      unfold mSet
      rw [if_neg (nf wq)]
    rw [e] at cm
    exact ref_Res 0 hc rfl (t4_set_q l hst E S K y (q4 h0)) (fun y' => cm _ _)

theorem p_undo (hst : l.stackTraces = false) (hc : COUP S K C) : Res l E yX4_undo cX4_undo 1 7 yX5_undo cX5_undo 2 2 [xS] [] S K C y := by
  obtain ⟨⟨z, t, hC, hV, ht, hB, hU⟩, hs, hO, w, hX⟩ := id hc
  have hSI := SI_of hs
  obtain ⟨hK, m, hm6, h9, hm, hsv⟩ := id hs
  have hM := MI_of_CP hC hV
  have hz := hV.2.1.2.1.1
  have hz4 := hV.2.1.2.1.2.1
  have hz6 := hV.2.1.2.1.2.2
  have cm : ∀ (S1 : jS) (x : jX), Ct l E yX5_undo cX5_undo 2 (some .int) 2 [.ref (ad E 10 0)] (setO S1 10 (S 10), x) (some (.int (if m = 0 then nI 0 else nI (m - 1)))) (setO S1 10 (if m = 0 then thr (thr (S 10) (nI 0)) (nI 1) else undR (S 10) (m - 1)), x) := fun S1 x => c5_undo l E S1 x (S 10) hm6 hm
  by_cases h0 : m = 0
  · subst h0
    rw [if_pos rfl, if_pos rfl] at cm
    exact ref_Res 0 hc rfl (t4_undo l hst E S K y h9) (fun y' => cm _ _)
  · rw [if_neg h0, if_neg h0] at cm
    have ct := c4_undo l E S K y hK hm6 h9 (by omega)
    have e9 : S 9 0 0 - nI 1 = nI (m - 1) := by rw [h9, pk_sub (by omega)]
    rw [e9] at ct
    have e10 : setO (setO S 9 (put (S 9) 0 0 (nI (m - 1)))) 0 (S (K (m - 1))) 10 = S 10 := by rw [setO_ne (by decide), setO_ne (by decide)]
    refine ⟨0, _, _, _, Or.inl ⟨rfl, ct⟩, fun y' => ⟨_, _, ct_at e10 (cm _ _), ?_, fun _ => rfl, ?_⟩⟩
    · unfold undR
      rw [putA_ne (by decide), pfa (by omega), thr_2]
    · obtain ⟨z', t', f1, f2⟩ := hsv (m - 1) (by omega)
      refine ⟨⟨z', t', ?_⟩, ⟨hK, m - 1, by omega, ?_, ?_, fun i hi => ?_⟩, ?_, w, ?_⟩
      · rw [setO_ne (by decide), setO_at, setO_at]
        unfold undR
        rw [putA_at]
        exact SV_mono (by omega) ⟨CP_cpy f1, f2⟩
      · rw [setO_ne (by decide), setO_ne (by decide), setO_at, put_at, if_pos rfl]
      · rw [setO_at]
        unfold undR
        rw [putA_ne (by decide), put_at, if_pos rfl]
      · obtain ⟨k1, k2⟩ := hK.1 i (by omega)
        obtain ⟨z2, t2, g⟩ := hsv i (by omega)
        rw [setO_ne (by omega), setO_ne (by omega), setO_ne (by omega), setO_at]
        have e3 : undR (S 10) (m - 1) 3 = S 10 3 := by
          unfold undR
          rw [putA_ne (by decide), put_ne (by decide)]
          unfold thr
          rw [put_ne (by decide)]
        rw [e3]
        exact ⟨z2, t2, SV_mono (by omega) g⟩
      · rw [setO_ne (by decide), setO_ne (by decide), setO_ne (by decide)]
        exact hO
      · rw [setO_ne (by decide), setO_ne (by decide), setO_ne (by decide), setO_at]
        refine TX_of ?_ ?_ hX
        · unfold undR
          rw [putA_ne (by decide), pfa (by omega)]
          unfold thr
          rw [pfa (by omega)]
        · unfold undR
          rw [putA_ne (by decide), put_ne (by decide)]
          unfold thr
          rw [put_ne (by decide)]

theorem p_number (hst : l.stackTraces = false) (hc : COUP S K C) (p0 p1 : Int32) : Res l E yX4_number cX4_number 3 7 yX5_number cX5_number 3 5 [xO, xA] [.int p0, .int p1] S K C y := by
  obtain ⟨⟨z, t, hC, hV, ht, hB, hU⟩, hs, hO, w, hX⟩ := id hc
  have hSI := SI_of hs
  obtain ⟨hK, m, hm6, h9, hm, hsv⟩ := id hs
  have hM := MI_of_CP hC hV
  have hz := hV.2.1.2.1.1
  have hz4 := hV.2.1.2.1.2.1
  have hz6 := hV.2.1.2.1.2.2
  have cm : ∀ (S1 : jS) (x : jX), Ct l E yX5_number cX5_number 3 (some .int) 5 [.ref (ad E 10 0), .int p0, .int p1] (setO S1 10 (S 10), x) (some (.int (mNumber (S 10) z p0 p1).1)) (setO S1 10 (mNumber (S 10) z p0 p1).2, x) := fun S1 x => c5_number l E S1 x (S 10) hM p0 p1
  rcases num_split hV.2.1 p0 with ⟨n, hn, rfl, okn, wn⟩ | ⟨okn, wn⟩
  · rcases rng_split p1 (lo := 0) (hi := 8) (by omega) (by omega) with ⟨q, -, q8, rfl, wq, -, -⟩ | ⟨h0, wq⟩
    · have e : mNumber (S 10) z (nI n) (nI q) = (ofN (S 0) n q, thr (S 10) (nI 0)) := by
        unfold mNumber
        rw [if_pos wn, if_pos wq, toN_nI (n := n) (by omega), toN_nI (n := q) (by omega), num_eq (by omega) q8 hV.1 hC]
      rw [e] at cm
      exact look_Res hc (c4_number l E S K y (by omega) okn q8) (fun y' => cm _ _)
    · have e : mNumber (S 10) z (nI n) p1 = (nI 0, thr (thr (S 10) (nI 0)) (nI 2)) := by
        unfold mNumber
        rw [if_pos wn, if_neg (nf wq)]
      rw [e] at cm
      exact ref_Res 1 hc rfl (t4_number_q l hst E S K y okn h0) (fun y' => cm _ _)
  · have e : mNumber (S 10) z p0 p1 = (nI 0, thr (thr (S 10) (nI 0)) (nI 1)) := by
      unfold mNumber
      rw [if_neg (nf wn)]
    rw [e] at cm
    exact ref_Res 0 hc rfl (t4_number_n l hst E S K y okn) (fun y' => cm _ _)

theorem p_holder (hst : l.stackTraces = false) (hc : COUP S K C) (p0 p1 : Int32) : Res l E yX4_holder cX4_holder 3 7 yX5_holder cX5_holder 3 5 [xO, xA] [.int p0, .int p1] S K C y := by
  obtain ⟨⟨z, t, hC, hV, ht, hB, hU⟩, hs, hO, w, hX⟩ := id hc
  have hSI := SI_of hs
  obtain ⟨hK, m, hm6, h9, hm, hsv⟩ := id hs
  have hM := MI_of_CP hC hV
  have hz := hV.2.1.2.1.1
  have hz4 := hV.2.1.2.1.2.1
  have hz6 := hV.2.1.2.1.2.2
  have cm : ∀ (S1 : jS) (x : jX), Ct l E yX5_holder cX5_holder 3 (some .int) 5 [.ref (ad E 10 0), .int p0, .int p1] (setO S1 10 (S 10), x) (some (.int (mHolder (S 10) z p0 p1).1)) (setO S1 10 (mHolder (S 10) z p0 p1).2, x) := fun S1 x => c5_holder l E S1 x (S 10) hM p0 p1
  rcases hol_split p0 with ⟨h, hh, rfl, wh⟩ | ⟨h0, wh⟩
  · rcases rng_split p1 (lo := 0) (hi := 7) (by omega) (by omega) with ⟨q, -, q7, rfl, wq, -, -⟩ | ⟨h0, wq⟩
    · have e : mHolder (S 10) z (nI h) (nI q) = (ofH (S 0) h q, thr (S 10) (nI 0)) := by
        unfold mHolder
        rw [if_pos wh, if_pos wq, toN_nI (n := h) (by omega), toN_nI (n := q) (by omega), hol_eq hh (by omega : t ≤ 20000) q7 hC hV]
      rw [e] at cm
      exact look_Res hc (c4_holder l E S K y hh hV.1 q7) (fun y' => cm _ _)
    · have e : mHolder (S 10) z (nI h) p1 = (nI 0, thr (thr (S 10) (nI 0)) (nI 2)) := by
        unfold mHolder
        rw [if_pos wh, if_neg (nf wq)]
      rw [e] at cm
      exact ref_Res 1 hc rfl (t4_holder_q l hst E S K y hh h0) (fun y' => cm _ _)
  · have e : mHolder (S 10) z p0 p1 = (nI 0, thr (thr (S 10) (nI 0)) (nI 1)) := by
      unfold mHolder
      rw [if_neg (nf wh)]
    rw [e] at cm
    exact ref_Res 0 hc rfl (t4_holder_h l hst E S K y h0) (fun y' => cm _ _)

theorem p_span (hst : l.stackTraces = false) (hc : COUP S K C) (p0 p1 : Int32) : Res l E yX4_span cX4_span 3 7 yX5_span cX5_span 3 4 [xA] [.int p0, .int p1] S K C y := by
  obtain ⟨⟨z, t, hC, hV, ht, hB, hU⟩, hs, hO, w, hX⟩ := id hc
  have hSI := SI_of hs
  obtain ⟨hK, m, hm6, h9, hm, hsv⟩ := id hs
  have hM := MI_of_CP hC hV
  have hz := hV.2.1.2.1.1
  have hz4 := hV.2.1.2.1.2.1
  have hz6 := hV.2.1.2.1.2.2
  have cm : ∀ (S1 : jS) (x : jX), Ct l E yX5_span cX5_span 3 (some .int) 4 [.ref (ad E 10 0), .int p0, .int p1] (setO S1 10 (S 10), x) (some (.int (mSpanQ (S 10) z p0 p1).1)) (setO S1 10 (mSpanQ (S 10) z p0 p1).2, x) := fun S1 x => c5_span l E S1 x (S 10) hM p0 p1
  have h0 : p0 < 0 ∨ ¬ p0 < 0 := Decidable.em _
  rcases h0 with h0 | h0
  · have e : mSpanQ (S 10) z p0 p1 = (nI 0, thr (thr (S 10) (nI 0)) (nI 1)) := by
      unfold mSpanQ
      rw [if_neg (fun x => x.1 h0)]
    rw [e] at cm
    exact ref_Res 0 hc rfl (t4_span_s l hst E S K y (fun x => absurd (Int32.lt_of_le_of_lt x h0) (by decide))) (fun y' => cm _ _)
  · rcases rng_split p1 (lo := 0) (hi := 1) (by omega) (by omega) with ⟨q, -, q1, rfl, wq, n1, n2⟩ | ⟨h1, wq⟩
    · have e : mSpanQ (S 10) z p0 (nI q) = (ofSp (S 0) z p0 (nI q), thr (S 10) (nI 0)) := by
        unfold mSpanQ
        rw [if_pos ⟨h0, wq⟩, nI_add, ofSp_eq hz6 hC p0 q1]
      rw [e] at cm
      exact look_Res hc (c4_span l E S K y hz hz6 (Int32.not_lt.mp h0) n1 n2) (fun y' => cm _ _)
    · have e : mSpanQ (S 10) z p0 p1 = (nI 0, thr (thr (S 10) (nI 0)) (nI 1)) := by
        unfold mSpanQ
        rw [if_neg (fun x => nf wq x.2)]
      rw [e] at cm
      exact ref_Res 0 hc rfl (t4_span_w l hst E S K y (Int32.not_lt.mp h0) h1) (fun y' => cm _ _)

theorem p_count (hst : l.stackTraces = false) (hc : COUP S K C) (p0 : Int32) : Res l E yX4_count cX4_count 2 7 yX5_count cX5_count 2 6 [xA] [.int p0] S K C y := by
  obtain ⟨⟨z, t, hC, hV, ht, hB, hU⟩, hs, hO, w, hX⟩ := id hc
  have hSI := SI_of hs
  obtain ⟨hK, m, hm6, h9, hm, hsv⟩ := id hs
  have hM := MI_of_CP hC hV
  have hz := hV.2.1.2.1.1
  have hz4 := hV.2.1.2.1.2.1
  have hz6 := hV.2.1.2.1.2.2
  have cm : ∀ (S1 : jS) (x : jX), Ct l E yX5_count cX5_count 2 (some .int) 6 [.ref (ad E 10 0), .int p0] (setO S1 10 (S 10), x) (some (.int (mCount (S 10) z p0).1)) (setO S1 10 (mCount (S 10) z p0).2, x) := fun S1 x => c5_count l E S1 x (S 10) hM p0
  rcases rng_split p0 (lo := 0) (hi := 12) (by omega) (by omega) with ⟨q, -, q12, rfl, wq, -, -⟩ | ⟨h0, wq⟩
  · have ecnt : mCnt (thr (S 10) (nI 0)) z q = cntA S z q := by
      rw [mCnt_thr]
      unfold cntA
      by_cases x : q = 12
      · subst x
        rw [if_pos rfl, h9]
        exact hm
      · rw [if_neg x, cnt_eq (by omega) hC hV]
    have e : mCount (S 10) z (nI q) = (cntA S z q, thr (S 10) (nI 0)) := by
      unfold mCount
      rw [if_pos wq, toN_nI (n := q) (by omega), ecnt]
    rw [e] at cm
    exact look_Res hc (c4_count l E S K y hz hz6 q12) (fun y' => cm _ _)
  · have e : mCount (S 10) z p0 = (nI 0, thr (thr (S 10) (nI 0)) (nI 1)) := by
      unfold mCount
      rw [if_neg (nf wq)]
    rw [e] at cm
    exact ref_Res 0 hc rfl (t4_count_q l hst E S K y h0) (fun y' => cm _ _)

theorem p_setting (hst : l.stackTraces = false) (hc : COUP S K C) (p0 : Int32) : Res l E yX4_setting cX4_setting 2 7 yX5_setting cX5_setting 2 2 [xO] [.int p0] S K C y := by
  obtain ⟨⟨z, t, hC, hV, ht, hB, hU⟩, hs, hO, w, hX⟩ := id hc
  have hSI := SI_of hs
  obtain ⟨hK, m, hm6, h9, hm, hsv⟩ := id hs
  have hM := MI_of_CP hC hV
  have hz := hV.2.1.2.1.1
  have hz4 := hV.2.1.2.1.2.1
  have hz6 := hV.2.1.2.1.2.2
  have cm : ∀ (S1 : jS) (x : jX), Ct l E yX5_setting cX5_setting 2 (some .int) 2 [.ref (ad E 10 0), .int p0] (setO S1 10 (S 10), x) (some (.int (mSetting (S 10) p0).1)) (setO S1 10 (mSetting (S 10) p0).2, x) := fun S1 x => c5_setting l E S1 x (S 10) p0
  rcases rng_split p0 (lo := 0) (hi := 3) (by omega) (by omega) with ⟨q, -, q3, rfl, wq, -, -⟩ | ⟨h0, wq⟩
  · have e : mSetting (S 10) (nI q) = (S 0 1 q, thr (S 10) (nI 0)) := by
      unfold mSetting
      rw [if_pos wq, toN_nI (n := q) (by omega), CP_s hC (by omega)]
    rw [e] at cm
    exact look_Res hc (c4_setting l E S K y (by omega)) (fun y' => cm _ _)
  · have e : mSetting (S 10) p0 = (nI 0, thr (thr (S 10) (nI 0)) (nI 1)) := by
      unfold mSetting
      rw [if_neg (nf wq)]
    rw [e] at cm
    exact ref_Res 0 hc rfl (t4_setting_q l hst E S K y (q4 h0)) (fun y' => cm _ _)

theorem p_whoAfter (hst : l.stackTraces = false) (hc : COUP S K C) (p0 p1 : Int32) : Res l E yX4_whoAfter cX4_whoAfter 3 7 yX5_whoAfter cX5_whoAfter 3 7 [xO, xA] [.int p0, .int p1] S K C y := by
  obtain ⟨⟨z, t, hC, hV, ht, hB, hU⟩, hs, hO, w, hX⟩ := id hc
  have hSI := SI_of hs
  obtain ⟨hK, m, hm6, h9, hm, hsv⟩ := id hs
  have hM := MI_of_CP hC hV
  have hz := hV.2.1.2.1.1
  have hz4 := hV.2.1.2.1.2.1
  have hz6 := hV.2.1.2.1.2.2
  have cm : ∀ (S1 : jS) (x : jX), Ct l E yX5_whoAfter cX5_whoAfter 3 (some .int) 7 [.ref (ad E 10 0), .int p0, .int p1] (setO S1 10 (S 10), x) (some (.int (mWho (S 10) z p0 p1).1)) (setO S1 10 (mWho (S 10) z p0 p1).2, x) := fun S1 x => c5_whoAfter l E S1 x (S 10) hM p0 p1
  rcases num_split hV.2.1 p0 with ⟨n, hn, rfl, okn, wn⟩ | ⟨okn, wn⟩
  · rcases rng_split p1 (lo := 0) (hi := 500) (by omega) (by omega) with ⟨b, -, b5, rfl, wb, -, -⟩ | ⟨h0, wb⟩
    · have ew : mTks z b (thn (S 10)) (32 + 12 * n) = leapN (S 0 0 0 + nI b) b (S 0) 2 n := who_then (by omega) (by omega) hC hV
      have e : mWho (S 10) z (nI n) (nI b) = (leapN (S 0 0 0 + nI b) b (S 0) 2 n, putA (thr (S 10) (nI 0)) 2 (mTks z b (thn (S 10)))) := by
        unfold mWho
        rw [if_pos wn, if_pos wb, toN_nI (n := n) (by omega), toN_nI (n := b) (by omega), ew]
      rw [e] at cm
      exact ahead_Res hc (by rw [putA_ne (by decide)]; exact thr_2 _ _) (SameT_2 _ (SameT_thr _ (SameT_rf _))) (c4_whoAfter l E S K y hV.1 (by omega) okn b5) (fun y' => cm _ _)
    · have e : mWho (S 10) z (nI n) p1 = (nI 0, thr (thr (S 10) (nI 0)) (nI 2)) := by
        unfold mWho
        rw [if_pos wn, if_neg (nf wb)]
      rw [e] at cm
      exact ref_Res 1 hc rfl (t4_whoAfter_b l hst E S K y okn h0) (fun y' => cm _ _)
  · have e : mWho (S 10) z p0 p1 = (nI 0, thr (thr (S 10) (nI 0)) (nI 1)) := by
      unfold mWho
      rw [if_neg (nf wn)]
    rw [e] at cm
    exact ref_Res 0 hc rfl (t4_whoAfter_n l hst E S K y okn) (fun y' => cm _ _)

theorem p_freeIn (hst : l.stackTraces = false) (hc : COUP S K C) (p0 : Int32) : Res l E yX4_freeIn cX4_freeIn 2 7 yX5_freeIn cX5_freeIn 2 7 [xA] [.int p0] S K C y := by
  obtain ⟨⟨z, t, hC, hV, ht, hB, hU⟩, hs, hO, w, hX⟩ := id hc
  have hSI := SI_of hs
  obtain ⟨hK, m, hm6, h9, hm, hsv⟩ := id hs
  have hM := MI_of_CP hC hV
  have hz := hV.2.1.2.1.1
  have hz4 := hV.2.1.2.1.2.1
  have hz6 := hV.2.1.2.1.2.2
  have cm : ∀ (S1 : jS) (x : jX), Ct l E yX5_freeIn cX5_freeIn 2 (some .int) 7 [.ref (ad E 10 0), .int p0] (setO S1 10 (S 10), x) (some (.int (mFreeIn (S 10) z p0).1)) (setO S1 10 (mFreeIn (S 10) z p0).2, x) := fun S1 x => c5_freeIn l E S1 x (S 10) hM p0
  rcases rng_split p0 (lo := 1) (hi := 64) (by omega) (by omega) with ⟨q, q1, q64, rfl, wq, n1, n2⟩ | ⟨h0, wq⟩
  · have ew : mFrV z (nI q) (mFrL z (nI q) 500 0 (thn (S 10))) = (freeT S z (nI q)).1 := free_then (by omega) (nI q) hC hV
    have e : mFreeIn (S 10) z (nI q) = ((freeT S z (nI q)).1, putA (thr (S 10) (nI 0)) 2 (mFrL z (nI q) 500 0 (thn (S 10))).1) := by
      unfold mFreeIn
      rw [if_pos wq, ew]
    rw [e] at cm
    exact ahead_Res hc (by rw [putA_ne (by decide)]; exact thr_2 _ _) (SameT_2 _ (SameT_thr _ (SameT_rf _))) (c4_freeIn l E S K y hV.1 hz hz6 n1 n2) (fun y' => cm _ _)
  · have e : mFreeIn (S 10) z p0 = (nI 0, thr (thr (S 10) (nI 0)) (nI 1)) := by
      unfold mFreeIn
      rw [if_neg (nf wq)]
    rw [e] at cm
    exact ref_Res 0 hc rfl (t4_freeIn l hst E S K y h0) (fun y' => cm _ _)

theorem p_wishedIn (hst : l.stackTraces = false) (hc : COUP S K C) (p0 p1 : Int32) : Res l E yX4_wishedIn cX4_wishedIn 3 7 yX5_wishedIn cX5_wishedIn 3 7 [xO] [.int p0, .int p1] S K C y := by
  obtain ⟨⟨z, t, hC, hV, ht, hB, hU⟩, hs, hO, w, hX⟩ := id hc
  have hSI := SI_of hs
  obtain ⟨hK, m, hm6, h9, hm, hsv⟩ := id hs
  have hM := MI_of_CP hC hV
  have hz := hV.2.1.2.1.1
  have hz4 := hV.2.1.2.1.2.1
  have hz6 := hV.2.1.2.1.2.2
  have cm : ∀ (S1 : jS) (x : jX), Ct l E yX5_wishedIn cX5_wishedIn 3 (some .int) 7 [.ref (ad E 10 0), .int p0, .int p1] (setO S1 10 (S 10), x) (some (.int (mWisIn (S 10) z p0 p1).1)) (setO S1 10 (mWisIn (S 10) z p0 p1).2, x) := fun S1 x => c5_wishedIn l E S1 x (S 10) hM p0 p1
  rcases hol_split p0 with ⟨h, hh, rfl, wh⟩ | ⟨h0, wh⟩
  · rcases num_split hV.2.1 p1 with ⟨n, hn, rfl, okn, wn⟩ | ⟨okn, wn⟩
    · obtain ⟨w3, hwe⟩ := PI_w hV.1 (by omega : n < 64)
      have e : mWisIn (S 10) z (nI h) (nI n) = mWisV (thr (S 10) (nI 0)) z (nI h) n := by
        unfold mWisIn
        rw [if_pos ⟨wh, wn⟩, toN_nI (n := n) (by omega)]
      have ew : (mWisV (thr (S 10) (nI 0)) z (nI h) n).1 = (wishT S h n).1 := wish_then hn hh (by omega : t < 19000) hC hV hB
      rw [e, ew] at cm
      have e2 := mWisV_2 (thr (S 10) (nI 0)) (thr (S 10) (nI 0) 2) z (nI h) n
      rw [putA_self] at e2
      refine ahead_Res hc ?_ ?_ (c4_wishedIn l E S K y hV.1 hh (by omega) okn w3 hwe) (fun y' => cm _ _)
      · rw [e2, putA_ne (by decide), thr_2]
      · rw [e2]
        exact SameT_2 _ (SameT_thr _ (SameT_rf _))
    · have e : mWisIn (S 10) z (nI h) p1 = (nI 0, thr (thr (S 10) (nI 0)) (nI 1)) := by
        unfold mWisIn
        rw [if_neg (fun x => nf wn x.2)]
      rw [e] at cm
      exact ref_Res 0 hc rfl (t4_wishedIn_n l hst E S K y hh okn) (fun y' => cm _ _)
  · have e : mWisIn (S 10) z p0 p1 = (nI 0, thr (thr (S 10) (nI 0)) (nI 1)) := by
      unfold mWisIn
      rw [if_neg (fun x => nf wh x.1)]
    rw [e] at cm
    exact ref_Res 0 hc rfl (t4_wishedIn_h l hst E S K y h0) (fun y' => cm _ _)

theorem p_run (hst : l.stackTraces = false) (hc : COUP S K C) : Res l E yX4_run cX4_run 4 7 yX5_run cX5_run 2 8 [xA] [] S K C y := by
  obtain ⟨⟨z, t, hC, hV, ht, hB, hU⟩, hs, hO, w, hX⟩ := id hc
  have hSI := SI_of hs
  obtain ⟨hK, m, hm6, h9, hm, hsv⟩ := id hs
  have hM := MI_of_CP hC hV
  have hz := hV.2.1.2.1.1
  have hz4 := hV.2.1.2.1.2.1
  have hz6 := hV.2.1.2.1.2.2
  have cm : ∀ (S1 : jS) (x : jX), Ct l E yX5_run cX5_run 2 (some .int) 8 [.ref (ad E 10 0)] (setO S1 10 (S 10), x) (some (.int (mRunM (S 10) z).1)) (setO S1 10 (mRunM (S 10) z).2, x) := fun S1 x => c5_run l E S1 x (S 10) hM hm6 hm (rew_go hX).2.2.1
  have hX2 := (err_eq hX).2
  have hXI := (rew_go hX).2.2.1
  have hXI2 : XI (thr (S 10) (nI 0)) := (rew_go (TX_thr (v := nI 0) hX)).2.2.1
  obtain ⟨hR0, hRm⟩ := text_ok hXI2
  obtain ⟨F, hF⟩ : ∃ F, mText (thr (S 10) (nI 0)) = F := ⟨_, rfl⟩
  rw [hF] at hX2 hR0 hRm
  have hrun := run_ok hX
  rw [hF] at hrun
  obtain ⟨f1, f2, f3, f4, f5, f6, f7⟩ := hR0
  have eR : mRunM (S 10) z = if F.2 = true then (nI (mRunL (F.1 5) z (toN (F.1 0 6)) 0 (S 10 1)).2, putA (put (savT F.1) 0 1 (nI 0)) 1 (mRunL (F.1 5) z (toN (F.1 0 6)) 0 (S 10 1)).1) else (nI 0, thr F.1 (nI 1)) := by
    unfold mRunM
    rw [hF]
  have hRO := OI_rdAll hO
  by_cases hb : F.2 = true
  · rw [eR, if_pos hb] at cm
    obtain ⟨mm, g1, g2, g3, g4⟩ := hRm hb
    rw [g3, toN_nI (by omega)] at cm
    have h0 := hrun.mp hb
    -- the run itself
    obtain ⟨a1, -, -, d1⟩ := rew_go (TX_thr (v := nI 0) hX)
    have hTX : TX (rdAll (S 8)) (thr (S 10) (nI 0)) w := TX_of (by rw [f1]) (by rw [f2]) hX2
    obtain ⟨b1, b2, -, b4⟩ := rew_go hTX
    have hF2 : mLoop 21 (rewT (thr (S 10) (nI 0))) = F := hF
    obtain ⟨r1, r2, rO, t1, r3, r4, r5, r6, r7⟩ := runs_all (w := w) (z := z) 21 0 (rewT (thr (S 10) (nI 0))) (rewQ (rdAll (S 8))) 60 (S 0) (S 10 1) (F.1 5) t C mm rfl b4 (by omega) b1 b2 rfl ht hC hV hB hU (OI_rew hRO) (by rw [hF2]; exact hb) (by rw [hF2]; exact g3) g2 (by rw [hF2]) g4
    rw [Nat.sub_zero] at r2 r4 r6
    have ct := c4_run l E S K y hO hV.1 hSI hz hz6 h0 r1
    obtain ⟨R, hR⟩ : ∃ R, runR S z = R := ⟨_, rfl⟩
    have hR2 : runL z 60 (rewQ (rdAll (S 8))) (S 0) 0 = R := hR
    rw [hR2] at r2 rO r4 r5 r6 r7
    have eS : runS S K z = rs (kpS (setO S 8 (rdAll (S 8))) K) (put R.1 0 0 (nI 0)) R.2.1 := by
      unfold runS
      rw [hR]
    rw [hR, eS, r2] at ct
    have hSI1 : SI (setO S 8 (rdAll (S 8))) K := ⟨hSI.1, by rw [setO_ne (by decide)]; exact hSI.2⟩
    have hs1 : SAV (setO S 8 (rdAll (S 8))) F.1 K C := SAV_of (setO_ne (by decide)) (fun o _ _ => setO_ne (by omega)) (by rw [f6]; unfold thr; rw [pfa (by omega)]) (by rw [f5]; unfold thr; rw [put_ne (by decide)]) hs
    have hk := keep_SAV hs1 (z := z) (t := t) (by rw [setO_ne (by decide), f3, thr_1]; exact ⟨hC, hV, ht, hB, hU⟩)
    obtain ⟨s1, s2, s3, s4⟩ := sav_keep F.1
    have e10 : rs (kpS (setO S 8 (rdAll (S 8))) K) (put R.1 0 0 (nI 0)) R.2.1 10 = S 10 := by
      unfold rs
      rw [setO_ne (by decide), setO_ne (by decide), kpS_ne hSI1 (by omega), setO_ne (by decide)]
    dsimp only at cm
    refine ⟨0, _, _, _, Or.inl ⟨rfl, ct⟩, fun y' => ⟨_, _, ct_at e10 (cm _ _), ?_, fun _ => rfl, ?_⟩⟩
    · rw [putA_ne (by decide), pfa (by omega), s4, f7, thr_2]
    · refine ⟨⟨z, t1, ?_⟩, ?_, ?_, 0, ?_⟩
      · rw [setO_ne (by decide), setO_at, putA_at, rs_0]
        exact ⟨r4, r5, r3, B10_mono (by omega) r6, r7⟩
      · rw [setO_at]
        refine SAV_mono (by omega) (SAV_of ?_ (fun o _ _ => ?_) ?_ ?_ hk)
        · rw [setO_ne (by decide)]
          unfold rs
          rw [setO_ne (by decide), setO_ne (by decide)]
        · rw [setO_ne (by omega)]
          unfold rs
          rw [setO_ne (by omega), setO_ne (by omega)]
        · rw [putA_ne (by decide), pfa (by omega)]
        · rw [putA_ne (by decide), put_ne (by decide)]
      · rw [setO_ne (by decide), rs_8]
        obtain ⟨-, a, a1, a2⟩ := rO
        refine ⟨⟨0, by omega, by rw [put_at, if_pos rfl]⟩, a, a1, ?_⟩
        rw [pfa (by omega)]
        exact a2
      · rw [setO_ne (by decide), rs_8, setO_at]
        refine ⟨by rw [put_at, if_pos rfl], ?_, by omega, fun i hi => by omega⟩
        rw [putA_ne (by decide), put_at, if_pos rfl]
  · rw [eR, if_neg hb] at cm
    have e10 : setO S 8 (rdAll (S 8)) 10 = S 10 := setO_ne (by decide)
    dsimp only at cm
    refine ⟨1, 0, setO S 8 (rdAll (S 8)), K, Or.inr ⟨0, _, rfl, rfl, t4_run l hst E S K y hO (fun x => hb (hrun.mpr x))⟩, fun y' => ⟨_, _, ct_at e10 (cm _ _), thr_2 _ _, fun q => by omega, ?_⟩⟩
    refine ⟨⟨z, t, ?_⟩, ?_, ?_, w, ?_⟩
    · rw [setO_ne (by decide), setO_ne (by decide), setO_at, thr_1, f3, thr_1]
      exact ⟨hC, hV, ht, B10_mono (by omega) hB, hU⟩
    · rw [setO_at]
      refine SAV_mono (by omega) (SAV_of ?_ (fun o _ _ => ?_) ?_ ?_ hs)
      · rw [setO_ne (by decide), setO_ne (by decide)]
      · rw [setO_ne (by omega), setO_ne (by omega)]
      · unfold thr
        rw [pfa (by omega), f6]
        unfold thr
        rw [pfa (by omega)]
      · unfold thr
        rw [put_ne (by decide), f5]
        unfold thr
        rw [put_ne (by decide)]
    · rw [setO_ne (by decide), setO_at]
      exact hRO
    · rw [setO_ne (by decide), setO_at, setO_at]
      exact TX_thr hX2

end PCALLS
