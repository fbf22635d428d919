/-! WISHES, AND THE LEAST FREE NUMBERS, ON BOTH SIDES -/
theorem fnd_congr {p q : Nat → Bool} : ∀ {k n : Nat}, (∀ i, n ≤ i → i < n + k → p i = q i) → fnd p k n = fnd q k n
  | 0, _, _ => rfl
  | k + 1, n, h => by rw [fnd, fnd, h n (by omega) (by omega), fnd_congr (fun i a b => h i (by omega) (by omega))]
theorem PI_w {P : jO} {n : Nat} (hP : PI P) (hn : n < 64) : toN (P 7 n) ≤ 3 ∧ P 7 n = nI (toN (P 7 n)) := by
  obtain ⟨w, w1, w2, -⟩ := hP.2.2 n hn
  rw [w2, toN_nI (by omega)]
  exact ⟨w1, rfl⟩
theorem wish_eq {P : jO} {r : Nat → Int32} {n : Nat} (hn : n < 64) (hC : CP P r) (hP : PI P) (h : Int32) : mWish r n h (toN (r (32 + 12 * n + 5))) = placeW P h n := by
  unfold mWish placeW
  rw [CP_wait hC hn]
  exact fnd_congr (fun i _ b => by rw [(CP_w hC hn (by omega) (PI_w hP hn).1).1])
theorem mayW_eq {P : jO} {r : Nat → Int32} {z t m h n : Nat} (hn : n < 64) (hh : h < 8) (hC : CP P r) (hV : V P z t m) : mMayW r z (nI h) n = mayW P (nI h) n := by
  unfold mMayW mayW mFree
  rw [wish_eq hn hC hV.1, CP_who hC hn, CP_wait hC hn, ← room_eq hh hC hV.2.1 (V_tail hV)]
  by_cases hc : P 2 n = -1
  · rw [if_pos hc, if_pos (decide_eq_true hc)]
  · rw [if_neg hc, if_neg (fun q => hc (of_decide_eq_true q))]
theorem mayW_w {P : jO} {h : Int32} {n : Nat} (hn : n < 64) (hP : PI P) (hm : mayW P h n = true) (hf : ¬ P 2 n = -1) : toN (P 7 n) < 3 := by
  obtain ⟨a, b⟩ := PI_w hP hn
  unfold mayW at hm
  rw [if_neg hf, Bool.and_eq_true, Bool.and_eq_true, b, Bool.not_eq_true', decide_eq_false_iff_not] at hm
  have := hm.1.1
  rw [nI_leI (by omega) (by omega)] at this
  omega
theorem CP_addw {P : jO} {r : Nat → Int32} {n h w : Nat} {u : Int32} (hn : n < 64) (hw3 : w < 3) (hw : P 7 n = nI w) (hC : CP P r) :
    CP (put (put (put P 8 (n * 3 + w) (nI h)) 9 (n * 3 + w) u) 7 n (P 7 n + nI 1)) (mWaits r n w h u) := by
  have e7 : ∀ i, (put (put (put P 8 (n * 3 + w) (nI h)) 9 (n * 3 + w) u) 7 n (P 7 n + nI 1)) 7 i = if i = n then nI (w + 1) else P 7 i := by
    intro i
    rw [put_at, hw, nI_add, put_ne (by decide), put_ne (by decide)]
  have em : ∀ q, mWaits r n w h u q = if q = 32 + 12 * n + 5 then r (32 + 12 * n + 5) + nI 1 else if q = 32 + 12 * n + 6 + 2 * w + 1 then u else if q = 32 + 12 * n + 6 + 2 * w then nI h else r q := by
    intro q
    simp only [mWaits, upd]
    by_cases h1 : q = 32 + 12 * n + 5
    · rw [if_pos h1, if_pos h1, if_neg (by omega), if_neg (by omega)]
    · rw [if_neg h1, if_neg h1]
  intro j i ⟨hd, hwt⟩
  rw [em]
  have a := pos_cl hd
  by_cases h7 : j = 7
  · subst h7
    rcases a with a | a | a | a | a | a <;> try omega
    rw [e7]
    by_cases hin : i = n
    · subst hin
      rw [if_pos rfl, if_pos (by omega), CP_wait hC hn, hw, nI_add]
    · rw [if_neg hin, if_neg (by omega), if_neg (by omega), if_neg (by omega)]
      exact CP_at hC hd (by omega)
  · rw [put_ne h7]
    by_cases h8 : 8 ≤ j ∧ j < 10
    · rcases a with a | a | a | a | a | a <;> try omega
      have hwt2 := hwt a.1 a.2.1
      rw [e7] at hwt2
      by_cases hin : i = n * 3 + w
      · subst hin
        rcases (by omega : j = 8 ∨ j = 9) with q | q
        · subst q
          rw [if_neg (by omega), if_neg (by omega), if_pos (by omega), put_ne (by decide), put_at, if_pos rfl]
        · subst q
          rw [if_neg (by omega), if_pos (by omega), put_at, if_pos rfl]
      · have hlt : i % 3 < toN (P 7 (i / 3)) := by
          by_cases hq : i / 3 = n
          · rw [if_pos hq, toN_nI (by omega)] at hwt2
            rw [hq, hw, toN_nI (by omega)]
            omega
          · rwa [if_neg hq] at hwt2
        rw [if_neg (by omega), if_neg (by omega), if_neg (by omega), put_app, if_neg (by omega), put_app, if_neg (by omega)]
        exact hC j i ⟨hd, fun _ _ => hlt⟩
    · rw [put_ne (by omega), put_ne (by omega)]
      rw [if_neg, if_neg, if_neg]
      · exact CP_at hC hd (by omega)
      all_goals rcases a with a | a | a | a | a | a <;> omega
theorem addW_all {P : jO} {r : Nat → Int32} {z t h n u C : Nat} (hn : n < z) (hh : h < 8) (ht : t ≤ 20000) (h1 : 1 ≤ u) (h9 : u ≤ 999) (hC : CP P r) (hV : V P z t 64) (hw : ¬ P 2 n = -1 → toN (P 7 n) < 3) (hB : B10 P C) :
    CP (addW P h n (nI u)) (mWishes r h n (nI u)).1 ∧ V (addW P h n (nI u)) z t 64 ∧ (mWishes r h n (nI u)).2 = (if P 2 n = -1 then nI 0 else addW P h n (nI u) 7 n) ∧ B10 (addW P h n (nI u)) (C + 1) ∧ addW P h n (nI u) 12 = P 12 := by
  have hz6 := hV.2.1.2.1.2.2
  have hn6 : n < 64 := by omega
  unfold addW mWishes mFree
  rw [CP_who hC hn6, CP_wait hC hn6]
  by_cases hc : P 2 n = -1
  · rw [if_pos hc, if_pos (decide_eq_true hc), if_pos hc]
    exact ⟨CP_lease hh hn6 hC, V_lease hn hh ht h1 h9 hV, rfl, B10_lease hB, r12_lease _ _ _ _⟩
  · have hw3 := hw hc
    obtain ⟨-, hwe⟩ := PI_w hV.1 hn6
    rw [if_neg hc, if_neg (fun q => hc (of_decide_eq_true q)), if_neg hc, if_pos hw3]
    generalize toN (P 7 n) = w at hw3 hwe
    have cA := CP_addw (h := h) (u := nI u) hn6 hw3 hwe hC
    have e7 : (put (put P 8 (n * 3 + w) (nI h)) 9 (n * 3 + w) (nI u)) 7 n = P 7 n := by rw [put_ne (by decide), put_ne (by decide)]
    simp only [e7]
    have hPA : PI (put (put (put P 8 (n * 3 + w) (nI h)) 9 (n * 3 + w) (nI u)) 7 n (P 7 n + nI 1)) := by
      have := PI_addW (t := nI u) hn6 hh hV.1
      unfold addW at this
      rw [if_neg hc, hwe, toN_nI (by omega), if_pos hw3] at this
      simp only [e7] at this
      exact this
    refine ⟨cA, ⟨hPA, ?_, fun i hi => ?_⟩, CP_wait cA hn6, B10_of (by rw [put_ne (by decide), put_ne (by decide), put_ne (by decide)]) (B10_mono (by omega) hB), by rw [put_ne (by decide), put_ne (by decide), put_ne (by decide)]⟩
    · have o1 : OFF n P (put P 8 (n * 3 + w) (nI h)) := OFF_put (by omega) (by omega) (by omega) (by omega)
      have o2 : OFF n (put P 8 (n * 3 + w) (nI h)) (put (put P 8 (n * 3 + w) (nI h)) 9 (n * 3 + w) (nI u)) := OFF_put (by omega) (by omega) (by omega) (by omega)
      have o3 : OFF n (put (put P 8 (n * 3 + w) (nI h)) 9 (n * 3 + w) (nI u)) (put (put (put P 8 (n * 3 + w) (nI h)) 9 (n * 3 + w) (nI u)) 7 n (P 7 n + nI 1)) := OFF_put (by omega) (by omega) (by omega) (by omega)
      exact VH_off ((o1.tr o2).tr o3) hV.2.1
    · by_cases hin : i = n
      · subst hin
        obtain ⟨v1, v2, v3⟩ := hV.2.2 i hi
        have f2 : (put (put (put P 8 (i * 3 + w) (nI h)) 9 (i * 3 + w) (nI u)) 7 i (P 7 i + nI 1)) 2 = P 2 := by rw [put_ne (by decide), put_ne (by decide), put_ne (by decide)]
        have f4 : (put (put (put P 8 (i * 3 + w) (nI h)) 9 (i * 3 + w) (nI u)) 7 i (P 7 i + nI 1)) 4 = P 4 := by rw [put_ne (by decide), put_ne (by decide), put_ne (by decide)]
        have f5 : (put (put (put P 8 (i * 3 + w) (nI h)) 9 (i * 3 + w) (nI u)) 7 i (P 7 i + nI 1)) 5 = P 5 := by rw [put_ne (by decide), put_ne (by decide), put_ne (by decide)]
        refine ⟨fun q => absurd (by rwa [f2] at q) hc, fun k hk h3 => ?_, fun q => ?_⟩
        · rw [put_at, if_pos rfl, hwe, nI_add, toN_nI (by omega)] at hk
          rw [put_ne (by decide), put_at]
          by_cases hkw : k = w
          · subst hkw
            rw [if_pos rfl]
            exact ⟨u, h1, h9, rfl⟩
          · rw [if_neg (by omega), put_ne (by decide)]
            exact v2 k (by rw [hwe, toN_nI (by omega)]; omega) h3
        · unfold VO
          rw [f4, f5]
          rw [f2] at q
          exact v3 q
      · have o1 : OFF n P (put P 8 (n * 3 + w) (nI h)) := OFF_put (by omega) (by omega) (by omega) (by omega)
        have o2 : OFF n (put P 8 (n * 3 + w) (nI h)) (put (put P 8 (n * 3 + w) (nI h)) 9 (n * 3 + w) (nI u)) := OFF_put (by omega) (by omega) (by omega) (by omega)
        have o3 : OFF n (put (put P 8 (n * 3 + w) (nI h)) 9 (n * 3 + w) (nI u)) (put (put (put P 8 (n * 3 + w) (nI h)) 9 (n * 3 + w) (nI u)) 7 n (P 7 n + nI 1)) := OFF_put (by omega) (by omega) (by omega) (by omega)
        exact VL_off ((o1.tr o2).tr o3) hin (hV.2.2 i hi)
/-- a wish that waits is taken back -/
theorem dropW_all {P : jO} {r : Nat → Int32} {z t n k : Nat} (hn : n < z) (hk : k < toN (P 7 n)) (hC : CP P r) (hV : V P z t 64) :
    CP (dropP P n k) (mDrop r n k) ∧ V (dropP P n k) z t 64 := by
  have hz6 := hV.2.1.2.1.2.2
  have hn6 : n < 64 := by omega
  obtain ⟨h3, he⟩ := PI_w hV.1 hn6
  have o := OFF_drop (P := P) (n := n) (k := k) h3
  refine ⟨CP_drop hn6 h3 he hk hC, PI_drop hn6 (by omega) hk hV.1, VH_off o hV.2.1, fun i hi => ?_⟩
  by_cases hin : i = n
  · subst hin
    obtain ⟨v1, v2, v3⟩ := hV.2.2 i hi
    refine ⟨fun q => ?_, VT_drop he h3 hk v2, fun q => ?_⟩
    · rw [drop_ne (by decide) (by decide) (by decide)] at q
      rw [v1 q, toN_nI (by omega)] at hk
      omega
    · rw [drop_ne (by decide) (by decide) (by decide)] at q
      unfold VO
      rw [drop_ne (by decide) (by decide) (by decide), drop_ne (by decide) (by decide) (by decide)]
      exact v3 q
  · exact VL_off o hin (hV.2.2 i hi)
/-! free numbers side by side -/
def pw (P : jO) (z m n : Nat) : Bool := decide (nI m ≤ nI (rowP P z n))
theorem row_64 (P : jO) (k i : Nat) (hk : k ≤ 64) : row (frP P) k i ≤ 64 := Nat.le_trans (row_le _ _ _) hk
theorem free_eq {P : jO} {r : Nat → Int32} {n : Nat} (hn : n < 64) (hC : CP P r) : mFree r n = frP P n := by
  unfold mFree frP
  rw [CP_who hC hn]
theorem pw_iff {P : jO} {z m i k : Nat} (hz : z ≤ 64) (hm : m ≤ 64) (hk : i + k = z) : pw P z m i = decide (m ≤ row (frP P) k i) := by
  unfold pw rowP
  rw [show z - i = k by omega]
  have := row_64 P k i (by omega)
  rw [decide_eq_decide, nI_leI (by omega) (by omega)]
theorem absorb {P : jO} {z m k i : Nat} (hz : z ≤ 64) (hm1 : 1 ≤ m) (hm : m ≤ 64) (hk : i + k = z) : (if m ≤ row (frP P) k i then nI i else oI (fnd (pw P z m) k i)) = oI (fnd (pw P z m) k i) := by
  cases k with
  | zero => rw [row, if_neg (by omega)]
  | succ k =>
    by_cases h : m ≤ row (frP P) (k + 1) i
    · rw [if_pos h, fnd, pw_iff hz hm hk, if_pos (decide_eq_true h)]
      rfl
    · rw [if_neg h]
theorem i32_sh (a b : Int32) : a - b + nI 1 = a + nI 1 - b := by grind
theorem first_all {P : jO} {r : Nat → Int32} {z m : Nat} (hz : z ≤ 64) (hm1 : 1 ≤ m) (hm : m ≤ 64) (hC : CP P r) : ∀ (k i c : Nat), i + k = z → c < m → c ≤ i →
    mFirst r (nI m) k i c = if m ≤ c + row (frP P) k i then nI (i - c) else oI (fnd (pw P z m) k i)
  | 0, i, c, _, hc, _ => by
    rw [mFirst, row, if_neg (by omega)]
    rfl
  | k + 1, i, c, hk, hc, hci => by
    rw [mFirst, free_eq (by omega) hC, row]
    by_cases hf : frP P i = true
    · rw [if_pos hf, if_pos hf]
      by_cases h : c + 1 = m
      · rw [h, if_pos rfl, if_pos (by omega), i32_sh, nI_add, pk_sub (by omega)]
        congr 1
        omega
      · rw [if_neg (fun q => h ((nI_eq (by omega) (by omega)).mp q)), first_all hz hm1 hm hC k (i + 1) (c + 1) (by omega) (by omega) (by omega)]
        by_cases h2 : m ≤ c + (row (frP P) k (i + 1) + 1)
        · rw [if_pos h2, if_pos (by omega)]
          congr 1
          omega
        · rw [if_neg h2, if_neg (by omega)]
          have e : ¬ pw P z m i = true := by
            rw [pw_iff hz hm hk, row, if_pos hf]
            exact fun q => absurd (of_decide_eq_true q) (by omega)
          rw [fnd, if_neg e]
    · rw [if_neg hf, if_neg hf, if_neg (fun q => absurd ((nI_eq (by omega) (by omega)).mp q) (by omega)), first_all hz hm1 hm hC k (i + 1) 0 (by omega) (by omega) (by omega), Nat.zero_add, Nat.sub_zero, absorb hz hm1 hm (by omega), if_neg (by omega)]
      have e : ¬ pw P z m i = true := by
        rw [pw_iff hz hm hk, row, if_neg hf]
        exact fun q => absurd (of_decide_eq_true q) (by omega)
      rw [fnd, if_neg e]
theorem first_eq {P : jO} {r : Nat → Int32} {z m : Nat} (hz : z ≤ 64) (hm1 : 1 ≤ m) (hm : m ≤ 64) (hC : CP P r) : mFirst r (nI m) z 0 0 = oI (lowR P z (nI m)) := by
  rw [first_all hz hm1 hm hC z 0 0 (by omega) (by omega) (by omega), Nat.zero_add, Nat.sub_zero]
  exact absorb hz hm1 hm (by omega)
theorem low_some {P : jO} {z m f : Nat} (hz : z ≤ 64) (hm : m ≤ 64) (h : lowR P z (nI m) = some f) : f + m ≤ z := by
  obtain ⟨-, b, c⟩ := fnd_lt h
  have c : pw P z m f = true := c
  rw [pw_iff hz hm (k := z - f) (by omega)] at c
  have := row_le (frP P) (z - f) f
  have := of_decide_eq_true c
  omega
theorem oI_some {P : jO} {z m f : Nat} (h : lowR P z (nI m) = some f) : oI (lowR P z (nI m)) = nI f := by rw [h]; rfl
theorem row_all {P : jO} {r : Nat → Int32} {z t h u m f C : Nat} (hh : h < 8) (ht : t ≤ 20000) (h1 : 1 ≤ u) (h9 : u ≤ 999) (hm : m ≤ 64) (hC : CP P r) (hV : V P z t 64) (hB : B10 P C) (hf : lowR P z (nI m) = some f) :
    CP (leaseRowP P z h m (nI u)) (mGivN h (nI u) m f r) ∧ V (leaseRowP P z h m (nI u)) z t 64 ∧ B10 (leaseRowP P z h m (nI u)) (C + m) ∧ leaseRowP P z h m (nI u) 12 = P 12 := by
  have e : leaseRowP P z h m (nI u) = leaseN h (nI u) m f P := by unfold leaseRowP; rw [hf]
  rw [e]
  have hl := low_some hV.2.1.2.1.2.2 hm hf
  obtain ⟨a, b⟩ := leaseN_all hh ht h1 h9 m f P r hl hC hV
  exact ⟨a, b, B10_leaseN _ _ _ _ hB, r12_leaseN _ _ _ _ _⟩
