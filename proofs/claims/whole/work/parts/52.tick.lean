/-! TIME PASSES ON BOTH SIDES -/
theorem VL_mono {P : jO} {z t d n : Nat} (hd : d ≤ 1) (h : VL P z t 1 n) : VL P z t d n := by
  obtain ⟨a, b, c⟩ := h
  refine ⟨a, b, fun q => ?_⟩
  obtain ⟨⟨e, l, c1, c2, c3, c4⟩, c5⟩ := c q
  exact ⟨⟨e, l, c1, c2, by omega, c4⟩, c5⟩
theorem V_tail {P : jO} {z t m : Nat} (h : V P z t m) : ∀ i, z ≤ i → i < 64 → P 2 i = -1 := by
  intro i hi h6
  rcases Decidable.em (P 2 i = -1) with q | q
  · exact q
  · exact absurd ((h.2.2 i h6).2.2 q).2 (by omega)
theorem V_all {P : jO} {z t m : Nat} (hm : z ≤ m) (h : V P z t m) : V P z t 64 := by
  have hT := V_tail h
  obtain ⟨a, b, c⟩ := h
  refine ⟨a, b, fun n hn => ?_⟩
  by_cases hz : n < m
  · have := c n hn
    rw [if_pos hz] at this
    rw [if_pos hn]
    exact this
  · obtain ⟨v1, v2, v3⟩ := c n hn
    exact ⟨v1, v2, fun q => absurd (hT n (by omega) hn) q⟩
theorem free_all {P : jO} {r : Nat → Int32} {z t m n : Nat} (hn : n < z) (ht : t ≤ 20000) (hC : CP P r) (hV : V P z t m) :
    CP (freeP P n) (mFreeR r n z) ∧ V (freeP P n) z t m ∧ OFF n P (freeP P n) ∧ VL (freeP P n) z t 1 n := by
  have hT := V_tail hV
  have hPF := PI_free (P := P) (n := n) (by have := hV.2.1.2.1.2.2; omega) hV.1
  obtain ⟨hP, hH, hL⟩ := hV
  have hz6 := hH.2.1.2.2
  have hn6 : n < 64 := by omega
  have o1 : OFF n P (put P 2 n (-1)) := OFF_put (by omega) (by omega) (by omega) (by omega)
  have o2 : OFF n (put P 2 n (-1)) (put (put P 2 n (-1)) 0 3 ((put P 2 n (-1)) 0 3 + nI 1)) := OFF_put (by omega) (by omega) (by omega) (by omega)
  have o := o1.tr o2
  have c1 := CP_put2 (v := -1) hn6 hC
  have c2 := CP_putH' (i := 3) (by omega) (by omega) c1 (congrArg (· + nI 1) (CP_h (i := 3) c1 (by omega) (by omega)))
  obtain ⟨w, w1, w2, w3⟩ := hP.2.2 n hn6
  have e7 : (put (put P 2 n (-1)) 0 3 ((put P 2 n (-1)) 0 3 + nI 1)) 7 = P 7 := by rw [put_ne (by decide), put_ne (by decide)]
  have e9 : (put (put P 2 n (-1)) 0 3 ((put P 2 n (-1)) 0 3 + nI 1)) 9 = P 9 := by rw [put_ne (by decide), put_ne (by decide)]
  have e2 : (put (put P 2 n (-1)) 0 3 ((put P 2 n (-1)) 0 3 + nI 1)) 2 n = -1 := by rw [put_ne (by decide), put_at, if_pos rfl]
  have hS : VS (put (put P 2 n (-1)) 0 3 ((put P 2 n (-1)) 0 3 + nI 1)) z t n := by
    refine ⟨PI_put (by decide) (PI_put2 (Or.inl rfl) hP), VH_off o hH, fun i a b => ?_, VT_of (by rw [e7]) e9 (hL n hn6).2.1, fun q => absurd e2 q⟩
    rw [(o.2.2.1 i (by omega)).1]
    exact hT i a b
  obtain ⟨s1, s2, s3, s4⟩ := serve_all hn ht 3 _ _ c2 hS (by rw [e7, w2, toN_nI (by omega)]; exact w1)
  have o3 := o.tr s3
  have hVL : VL (freeP P n) z t 1 n := ⟨s4, s2.2.2.2.1, fun q => ⟨s2.2.2.2.2 q, hn⟩⟩
  refine ⟨s1, ⟨hPF, s2.2.1, fun i hi => ?_⟩, o3, hVL⟩
  by_cases hin : i = n
  · subst hin
    exact VL_mono (by split <;> omega) hVL
  · exact VL_off o3 hin (hL i hi)
theorem dueN_add : ∀ (a b n : Nat) (P : jO), dueN (a + b) n P = dueN b (n + a) (dueN a n P)
  | 0, b, n, P => by rw [Nat.zero_add]; rfl
  | a + 1, b, n, P => by
    rw [show a + 1 + b = (a + b) + 1 by omega, dueN, dueN_add a b (n + 1), dueN, show n + 1 + a = n + (a + 1) by omega]
theorem dueN_tail : ∀ (k n : Nat) (P : jO), (∀ i, n ≤ i → i < n + k → P 2 i = -1) → dueN k n P = P
  | 0, _, _, _ => rfl
  | k + 1, n, P, h => by
    rw [dueN, if_neg (fun q => q.1 (h n (by omega) (by omega)))]
    exact dueN_tail k (n + 1) P (fun i a b => h i (by omega) (by omega))
theorem due_all {z t : Nat} (ht : t ≤ 20000) : ∀ (k n : Nat) (P : jO) (r : Nat → Int32), n + k = z → CP P r → V P z t n → CP (dueN k n P) (mDue z r k n) ∧ V (dueN k n P) z t z
  | 0, n, P, r, hk, hC, hV => by
    obtain rfl : n = z := by omega
    exact ⟨hC, hV⟩
  | k + 1, n, P, r, hk, hC, hV => by
    have hz6 := hV.2.1.2.1.2.2
    have hn6 : n < 64 := by omega
    rw [dueN, mDue, CP_who hC hn6, CP_last hC hn6, CP_t hC]
    have step : ∀ i, i < 64 → i ≠ n → (if i < n then 1 else 0) = (if i < n + 1 then 1 else 0) := by
      intro i _ h
      by_cases q : i < n
      · rw [if_pos q, if_pos (by omega)]
      · rw [if_neg q, if_neg (by omega)]
    by_cases hc : ¬ P 2 n = -1 ∧ P 5 n = P 0 0
    · rw [if_pos hc, if_pos hc]
      obtain ⟨a1, a2, -, a4⟩ := free_all (by omega : n < z) ht hC hV
      refine due_all ht k (n + 1) _ _ (by omega) a1 ⟨a2.1, a2.2.1, fun i hi => ?_⟩
      by_cases hin : i = n
      · subst hin
        rw [if_pos (by omega)]
        exact a4
      · have := a2.2.2 i hi
        rwa [step i hi hin] at this
    · rw [if_neg hc, if_neg hc]
      refine due_all ht k (n + 1) _ _ (by omega) hC ⟨hV.1, hV.2.1, fun i hi => ?_⟩
      by_cases hin : i = n
      · subst hin
        have := hV.2.2 i hi
        rw [if_neg (by omega)] at this
        rw [if_pos (by omega)]
        obtain ⟨v1, v2, v3⟩ := this
        refine ⟨v1, v2, fun q => ?_⟩
        obtain ⟨⟨e, l, b1, b2, b3, b4, b5⟩, b6⟩ := v3 q
        have hl : ¬ l = t := by
          intro h
          exact hc ⟨q, by rw [b2, hV.2.1.1, h]⟩
        exact ⟨⟨e, l, b1, b2, by omega, b4, b5⟩, b6⟩
      · have := hV.2.2 i hi
        rwa [step i hi hin] at this
theorem stg_eq {P : jO} {r : Nat → Int32} {n : Nat} (hC : CP P r) (hn : n < 64) : mStg r n = stg P n := by
  unfold mStg stg
  rw [CP_who hC hn, CP_end hC hn, CP_t hC]
theorem V_putK {P : jO} {z t m j i : Nat} {v : Int32} (hj : 10 ≤ j) (h : V P z t m) : V (put P j i v) z t m := by
  have o : OFF 99 P (put P j i v) := OFF_put (by omega) (by omega) (by omega) (by omega)
  exact ⟨PI_put (by omega) h.1, VH_off o h.2.1, fun n hn => VL_off o (by omega) (h.2.2 n hn)⟩
theorem unitsN_add : ∀ (a b n : Nat) (P : jO), unitsN (a + b) n P = unitsN b (n + a) (unitsN a n P)
  | 0, b, n, P => by rw [Nat.zero_add]; rfl
  | a + 1, b, n, P => by
    rw [show a + 1 + b = (a + b) + 1 by omega, unitsN, unitsN_add a b (n + 1), unitsN, show n + 1 + a = n + (a + 1) by omega]
theorem unitsN_tail : ∀ (k n : Nat) (P : jO), (∀ i, n ≤ i → i < n + k → P 2 i = -1) → unitsN k n P = P
  | 0, _, _, _ => rfl
  | k + 1, n, P, h => by
    have e : ¬ stg P n = 1 := by unfold stg; rw [if_pos (h n (by omega) (by omega))]; decide
    rw [unitsN, if_neg e]
    exact unitsN_tail k (n + 1) P (fun i a b => h i (by omega) (by omega))
theorem units_all {z t : Nat} : ∀ (k n : Nat) (P : jO) (r : Nat → Int32), n + k = z → CP P r → V P z t 64 → CP (unitsN k n P) (mUnits r k n) ∧ V (unitsN k n P) z t 64
  | 0, n, P, r, _, hC, hV => ⟨hC, hV⟩
  | k + 1, n, P, r, hk, hC, hV => by
    have hz6 := hV.2.1.2.1.2.2
    have hn6 : n < 64 := by omega
    rw [unitsN, mUnits, stg_eq hC hn6, CP_who hC hn6]
    by_cases hc : stg P n = 1
    · rw [if_pos hc, if_pos hc]
      have hg : ∃ g, g < 8 ∧ P 2 n = nI g := by
        rcases hV.1.2.1 n hn6 with q | q
        · unfold stg at hc
          rw [if_pos q] at hc
          exact absurd hc (by decide)
        · exact q
      obtain ⟨g, g1, g2⟩ := hg
      rw [g2, toN_nI (by omega)]
      exact units_all k (n + 1) _ _ (by omega) (CP_putK' (j := 12) (by omega) (by omega) g1 hC (congrArg (· + nI 1) (CP_k (j := 12) hC (by omega) (by omega) g1))) (V_putK (by omega) hV)
    · rw [if_neg hc, if_neg hc]
      exact units_all k (n + 1) _ _ (by omega) hC hV
/-- the time goes on, to where no number became free ahead of it -/
theorem V_time {P : jO} {z t t' : Nat} (htt : t ≤ t') (hl : ∀ n, n < 64 → ¬ P 2 n = -1 → ∃ l, P 5 n = nI l ∧ t' ≤ l ∧ l ≤ t' + 1049) (h : V P z t 64) (hb : t' ≤ 2 ^ 30) : V (put P 0 0 (nI t')) z t' 0 := by
  obtain ⟨a, ⟨b1, b2⟩, c⟩ := h
  have e : ∀ j, j ≠ 0 → put P 0 0 (nI t') j = P j := fun j hj => put_ne hj
  refine ⟨PI_put (by decide) a, ⟨by rw [put_at, if_pos rfl], by rw [e 1 (by decide)]; exact b2⟩, fun n hn => ?_⟩
  obtain ⟨v1, v2, v3⟩ := c n hn
  refine ⟨by rw [e 2 (by decide), e 7 (by decide)]; exact v1, by unfold VT; rw [e 7 (by decide), e 9 (by decide)]; exact v2, fun q => ?_⟩
  rw [e 2 (by decide)] at q
  obtain ⟨⟨en, l, d1, d2, d3, d4, d5⟩, d6⟩ := v3 q
  obtain ⟨l', f1, f2, f3⟩ := hl n hn q
  have hll : l = l' := by
    rw [d2] at f1
    exact (nI_eq (by omega) (by omega)).mp f1
  subst hll
  exact ⟨⟨en, l, by rw [e 4 (by decide)]; exact d1, by rw [e 5 (by decide)]; exact d2, by rw [if_neg (by omega)]; omega, d4, f3⟩, d6⟩
theorem V_next {P : jO} {z t : Nat} (ht : t ≤ 20000) (h : V P z t 64) : V (put P 0 0 (nI (t + 1))) z (t + 1) 0 := by
  refine V_time (by omega) (fun n hn q => ?_) h (by omega)
  obtain ⟨⟨en, l, d1, d2, d3, d4, d5⟩, d6⟩ := (h.2.2 n hn).2.2 q
  rw [if_pos hn] at d3
  exact ⟨l, d2, d3, by omega⟩
theorem due_64 {P : jO} {z t : Nat} (ht : t ≤ 20000) {r : Nat → Int32} (hC : CP P r) (hV : V P z t 0) : CP (dueN 64 0 P) (mDue z r z 0) ∧ V (dueN 64 0 P) z t 64 := by
  have hz6 := hV.2.1.2.1.2.2
  obtain ⟨a, b⟩ := due_all ht z 0 P r (by omega) hC hV
  have e := dueN_add z (64 - z) 0 P
  rw [show z + (64 - z) = 64 by omega, dueN_tail _ _ _ (fun i h1 h2 => V_tail b i (by omega) (by omega))] at e
  rw [e]
  exact ⟨a, V_all (Nat.le_refl _) b⟩
theorem units_64 {P : jO} {z t : Nat} {r : Nat → Int32} (hC : CP P r) (hV : V P z t 64) : CP (unitsN 64 0 P) (mUnits r z 0) ∧ V (unitsN 64 0 P) z t 64 := by
  have hz6 := hV.2.1.2.1.2.2
  obtain ⟨a, b⟩ := units_all z 0 P r (by omega) hC hV
  have e := unitsN_add z (64 - z) 0 P
  rw [show z + (64 - z) = 64 by omega, unitsN_tail _ _ _ (fun i h1 h2 => V_tail b i (by omega) (by omega))] at e
  rw [e]
  exact ⟨a, b⟩
theorem tick_all {P : jO} {r : Nat → Int32} {z t : Nat} (ht : t < 20000) (hC : CP P r) (hV : V P z t 64) : CP (tickP P) (mTick r z) ∧ V (tickP P) z (t + 1) 64 := by
  obtain ⟨a, b⟩ := units_64 hC hV
  have e : unitsN 64 0 P 0 0 + nI 1 = nI (t + 1) := by rw [b.2.1.1, nI_add]
  unfold tickP mTick
  simp only
  rw [CP_t a, e]
  exact due_64 (by omega) (CP_putT a) (V_next (by omega) b)
theorem i32_tel (v a b c : Int32) : v + (a - b) + (c - a) = v + (c - b) := by grind
theorem pass_all {z : Nat} : ∀ (k t : Nat) (P : jO) (r : Nat → Int32) (v : Int32), t + k ≤ 20000 → CP P r → V P z t 64 →
    CP (passN k P) (mPass z k (r, v)).1 ∧ V (passN k P) z (t + k) 64 ∧ (mPass z k (r, v)).2 = v + (passN k P 0 3 - P 0 3)
  | 0, t, P, r, v, _, hC, hV => ⟨hC, hV, by show v = v + (P 0 3 - P 0 3); grind⟩
  | k + 1, t, P, r, v, ht, hC, hV => by
    rw [passN, mPass]
    obtain ⟨a, b⟩ := tick_all (by omega) hC hV
    obtain ⟨c, d, e⟩ := pass_all k (t + 1) _ _ (v + (mTick r z 7 - r 7)) (by omega) a b
    refine ⟨c, by rwa [show t + 1 + k = t + (k + 1) by omega] at d, ?_⟩
    rw [e, show mTick r z 7 = tickP P 0 3 from CP_h (i := 3) a (by omega) (by omega), show r 7 = P 0 3 from CP_h (i := 3) hC (by omega) (by omega), i32_tel]
theorem span_all {z t h : Nat} (ht : t ≤ 20000) : ∀ (k n c : Nat) (P : jO) (r : Nat → Int32), n + k ≤ z → CP P r → V P z t 64 →
    CP (spanN (nI h) k n (P, c)).1 (mBack z (nI h) k n (r, c)).1 ∧ V (spanN (nI h) k n (P, c)).1 z t 64 ∧ (mBack z (nI h) k n (r, c)).2 = (spanN (nI h) k n (P, c)).2
  | 0, n, c, P, r, _, hC, hV => ⟨hC, hV, rfl⟩
  | k + 1, n, c, P, r, hk, hC, hV => by
    have hz6 := hV.2.1.2.1.2.2
    have ew := CP_who hC (by omega : n < 64)
    rw [spanN, mBack]
    dsimp only
    by_cases hc : P 2 n = nI h
    · rw [if_pos hc, if_pos (ew.trans hc)]
      obtain ⟨a1, a2, -, -⟩ := free_all (by omega : n < z) ht hC hV
      exact span_all ht k (n + 1) (c + 1) _ _ (by omega) a1 a2
    · rw [if_neg hc, if_neg (fun q => hc (ew.symm.trans q))]
      exact span_all ht k (n + 1) c _ _ (by omega) hC hV
