/-! .. AND THE OTHER STEPS -/
theorem lease_ok {P : jO} {z t h n u C R : Nat} (hn : n < z) (hh : h < 8) (ht : t ≤ 20000) (hC : C < 2 ^ 30) (h1 : 1 ≤ u) (h9 : u ≤ 999) (hf : P 2 n = -1) (hX : XV P z t 64 C R) : XV (leaseP P h n (nI u)) z t 64 (C + 1) R ∧ OFF n P (leaseP P h n (nI u)) := by
  obtain ⟨hP, hV, hN, hB, hL, hR⟩ := hX
  have hz := hV.2.1.2.2
  have o := OFF_lease P h n (nI u)
  have hW : WL P n (nI h) := by
    have h7 : P 7 n = nI 0 := by
      rcases (hN n (by omega)).2 with a | a
      · exact a.2
      · obtain ⟨g, g1, g2⟩ := a.2.1
        rw [hf] at g2
        exact absurd g2.symm (nI_m1 (by omega))
    exact ⟨0, by omega, h7, fun k hk => absurd hk (Nat.not_lt_zero _), fun i k _ hk => absurd hk (Nat.not_lt_zero _)⟩
  refine ⟨⟨PI_lease hh hP, VH_off o hV, fun i hi => ?_, B6_lease hB, LG_lease hh (by omega) hf hL, RN_of o.2.1 o.2.2.1 hR⟩, o⟩
  rw [if_pos hi]
  by_cases q : i = n
  · subst q
    exact NL_lease hn hz hh ht hC h1 h9 hV hB hW
  · have := hN i hi
    rw [if_pos hi] at this
    exact NL_off o q this
theorem leaseN_ok {z t h u R : Nat} (hh : h < 8) (ht : t ≤ 20000) (h1 : 1 ≤ u) (h9 : u ≤ 999) : ∀ (k n C : Nat) (P : jO), n + k ≤ z → C + k < 2 ^ 30 → (∀ i, n ≤ i → i < n + k → P 2 i = -1) → XV P z t 64 C R → XV (leaseN h (nI u) k n P) z t 64 (C + k) R
  | 0, _, _, _, _, _, _, hX => hX
  | k + 1, n, C, P, hk, hC, hf, hX => by
    rw [leaseN, show C + (k + 1) = C + 1 + k by omega]
    obtain ⟨a, o⟩ := lease_ok (n := n) (by omega) hh ht (by omega) h1 h9 (hf n (by omega) (by omega)) hX
    exact leaseN_ok hh ht h1 h9 k (n + 1) (C + 1) _ (by omega) (by omega) (fun i x y => by rw [o.2.2.2.2.1 2 i (by omega) (by omega) (by omega)]; exact hf i (by omega) (by omega)) a
theorem row_all1 {p : Nat → Bool} : ∀ {k n m : Nat}, m ≤ row p k n → ∀ i, n ≤ i → i < n + m → p i = true
  | 0, n, m, h, i, a, b => by
    rw [row] at h
    omega
  | k + 1, n, m, h, i, a, b => by
    rw [row] at h
    split at h
    · by_cases q : i = n
      · rw [q]
        assumption
      · exact row_all1 (k := k) (n := n + 1) (m := m - 1) (by omega) i (by omega) (by omega)
    · omega
theorem low_some {P : jO} {z m f : Nat} (hz : z ≤ 64) (hm : m ≤ 64) (h : lowR P z (nI m) = some f) : f < z ∧ m ≤ rowP P z f ∧ (1 ≤ m → f + m ≤ z) := by
  obtain ⟨-, b, c⟩ := fnd_lt h
  have hr := row_le (frP P) (z - f) f
  have c : nI m ≤ nI (rowP P z f) := of_decide_eq_true c
  unfold rowP at *
  rw [nI_leI (by omega) (by omega)] at c
  exact ⟨by omega, c, fun _ => by omega⟩
theorem leaseRow_ok {P : jO} {z t h m u C R : Nat} (hh : h < 8) (ht : t ≤ 20000) (h1 : 1 ≤ u) (h9 : u ≤ 999) (hm1 : 1 ≤ m) (hm : m ≤ 64) (hC : C + 64 < 2 ^ 30) (hX : XV P z t 64 C R) : XV (leaseRowP P z h m (nI u)) z t 64 (C + 64) R := by
  unfold leaseRowP
  cases e : lowR P z (nI m) with
  | none => exact XV_mono (by omega) (Nat.le_refl _) hX
  | some f =>
    obtain ⟨a, b, c⟩ := low_some hX.2.1.2.1.2.2 hm e
    exact XV_mono (by omega : C + m ≤ C + 64) (Nat.le_refl _) (leaseN_ok hh ht h1 h9 m f C P (c hm1) (by omega) (fun i x y => of_decide_eq_true (row_all1 b i x y)) hX)
/-- renewing -/
theorem prol_B (B : jO) (n : Nat) (u : Int32) (j i : Nat) : put (put B 4 n (B 0 0 + u)) 5 n ((put B 4 n (B 0 0 + u)) 4 n + (put B 4 n (B 0 0 + u)) 1 0) j i = if j = 5 ∧ i = n then B 0 0 + u + B 1 0 else if j = 4 ∧ i = n then B 0 0 + u else B j i := by
  have e1 : put B 4 n (B 0 0 + u) 4 n = B 0 0 + u := by rw [put_at, if_pos rfl]
  have e2 : put B 4 n (B 0 0 + u) 1 0 = B 1 0 := by rw [put_ne (by decide)]
  rw [put_app, e1, e2, put_app]
theorem prol_app (P : jO) (n : Nat) (u : Int32) (j i : Nat) : prolP P n u j i = if j = 5 ∧ i = n then P 0 0 + u + P 1 0 else if j = 4 ∧ i = n then P 0 0 + u else if j = 0 ∧ i = 2 then (if stg P n = nI 2 then P 0 2 + nI 1 else P 0 2) else if j = 0 ∧ i = 1 then P 0 1 + nI 1 else P j i := by
  have a0 : put P 0 1 (P 0 1 + nI 1) 0 0 = P 0 0 := by rw [put_at, if_neg (by decide)]
  have a2 : put P 0 1 (P 0 1 + nI 1) 0 2 = P 0 2 := by rw [put_at, if_neg (by decide)]
  have a10 : put P 0 1 (P 0 1 + nI 1) 1 0 = P 1 0 := by rw [put_ne (by decide)]
  have es : stg (put P 0 1 (P 0 1 + nI 1)) n = stg P n := by
    unfold stg
    rw [a0, put_ne (by decide : (2 : Nat) ≠ 0), put_ne (by decide : (4 : Nat) ≠ 0)]
  unfold prolP
  simp only [es]
  by_cases hc : stg P n = nI 2
  · rw [if_pos hc, if_pos hc, prol_B, a2]
    have b0 : put (put P 0 1 (P 0 1 + nI 1)) 0 2 (P 0 2 + nI 1) 0 0 = P 0 0 := by rw [put_at, if_neg (by decide), a0]
    have b10 : put (put P 0 1 (P 0 1 + nI 1)) 0 2 (P 0 2 + nI 1) 1 0 = P 1 0 := by rw [put_ne (by decide), a10]
    rw [b0, b10, put_app (put P 0 1 (P 0 1 + nI 1)), put_app P]
  · rw [if_neg hc, if_neg hc, prol_B, a0, a10, put_app P]
    by_cases h2 : j = 0 ∧ i = 2
    · rw [if_neg (c := j = 0 ∧ i = 1) (by omega), if_pos h2, h2.1, h2.2]
    · rw [if_neg h2]
theorem prol_ok {P : jO} {z t n u C R : Nat} (hn : n < 64) (ht : t ≤ 20000) (h1 : 1 ≤ u) (h9 : u ≤ 999) (hf : ¬ P 2 n = -1) (hX : XV P z t 64 C R) : XV (prolP P n (nI u)) z t 64 C (R + 1) := by
  obtain ⟨hP, hV, hN, hB, hL, hR⟩ := hX
  obtain ⟨v1, v2, hg⟩ := id hV
  obtain ⟨g, g1, g2⟩ := hg 0 (by omega)
  have ene : ∀ j, j ≠ 0 → j ≠ 4 → j ≠ 5 → prolP P n (nI u) j = P j := fun j a b c => by
    funext i
    rw [prol_app, if_neg (fun q => c q.1), if_neg (fun q => b q.1), if_neg (fun q => a q.1), if_neg (fun q => a q.1)]
  have e00 : prolP P n (nI u) 0 0 = P 0 0 := by rw [prol_app]; simp
  have e03 : prolP P n (nI u) 0 3 = P 0 3 := by rw [prol_app]; simp
  have e01 : prolP P n (nI u) 0 1 = P 0 1 + nI 1 := by rw [prol_app]; simp
  have e02 : prolP P n (nI u) 0 2 = if stg P n = nI 2 then P 0 2 + nI 1 else P 0 2 := by rw [prol_app]; simp
  refine ⟨PI_of (by rw [ene 1 (by decide) (by decide) (by decide)]) (fun n _ => by rw [ene 2 (by decide) (by decide) (by decide)]) (fun n _ => by rw [ene 7 (by decide) (by decide) (by decide)]) (fun n _ => by rw [ene 8 (by decide) (by decide) (by decide)]) hP, ?_, fun i hi => ?_, B6_of (fun n _ => by rw [ene 6 (by decide) (by decide) (by decide)]) hB, LG_of (ene 10 (by decide) (by decide) (by decide)) e03 (fun n _ => by rw [ene 2 (by decide) (by decide) (by decide)]) hL, ?_⟩
  · unfold VH
    rw [e00, ene 1 (by decide) (by decide) (by decide)]
    exact hV
  · have h := hN i hi
    rw [if_pos hi] at h ⊢
    by_cases q : i = n
    · subst q
      refine ⟨?_, Or.inr ?_⟩
      · rw [ene 2 (by decide) (by decide) (by decide)]
        exact WL_of (by rw [ene 7 (by decide) (by decide) (by decide)]) (fun j i a b _ => by rw [ene j (by omega) (by omega) (by omega)]) h.1
      · rcases h.2 with a | ⟨x1, x2, ⟨b, en, l, y1, y2, y3, y4, y5, y6, y7, y8⟩, x4⟩
        · exact absurd a.1 hf
        · refine ⟨x1, by rw [ene 2 (by decide) (by decide) (by decide)]; exact x2, ⟨b, t + u, t + u + g, by rw [ene 3 (by decide) (by decide) (by decide)]; exact y1, ?_, ?_, y4, by omega, by omega, by omega, by omega⟩, by rw [ene 6 (by decide) (by decide) (by decide)]; exact x4⟩
          · rw [prol_app, if_neg (by omega), if_pos ⟨rfl, rfl⟩, v1, nI_add]
          · rw [prol_app, if_pos ⟨rfl, rfl⟩, v1, g2, nI_add, nI_add]
    · refine NL_of (P := P) (fun j a b => ?_) (fun j i a b _ => by rw [ene j (by omega) (by omega) (by omega)]) h
      rw [prol_app, if_neg (fun w => q w.2), if_neg (fun w => q w.2), if_neg (by omega), if_neg (by omega)]
  · obtain ⟨a, b, r1, r2, r3, r4⟩ := hR
    unfold RN
    rw [e01, e02, r3, r4, nI_add]
    by_cases hc : stg P n = nI 2
    · rw [if_pos hc, nI_add]
      exact ⟨a + 1, b + 1, by omega, by omega, rfl, rfl⟩
    · rw [if_neg hc]
      exact ⟨a + 1, b, by omega, by omega, rfl, rfl⟩
/-- a wish -/
theorem fnd_none {p : Nat → Bool} : ∀ {k n : Nat}, fnd p k n = none → ∀ i, n ≤ i → i < n + k → p i = false
  | 0, n, _, i, a, b => by omega
  | k + 1, n, h, i, a, b => by
    rw [fnd] at h
    split at h
    · cases h
    · by_cases q : i = n
      · rw [q]
        exact Bool.eq_false_iff.mpr ‹_›
      · exact fnd_none h i (by omega) (by omega)
theorem addW_app {P : jO} {n w h : Nat} {u : Int32} (hf : ¬ P 2 n = -1) (hw : P 7 n = nI w) (hw3 : w < 3) (j i : Nat) : addW P h n u j i = if j = 7 ∧ i = n then nI (w + 1) else if j = 9 ∧ i = n * 3 + w then u else if j = 8 ∧ i = n * 3 + w then nI h else P j i := by
  unfold addW
  rw [if_neg hf, hw, toN_nI (by omega), if_pos hw3]
  simp only [put_app]
  by_cases h7 : j = 7 <;> by_cases h8 : j = 8 <;> by_cases h9 : j = 9 <;> by_cases hi : i = n <;> by_cases hi2 : i = n * 3 + w <;> simp_all [nI_add]
theorem addW_ok {P : jO} {z t h n u C R : Nat} (hn : n < z) (hh : h < 8) (ht : t ≤ 20000) (hC : C < 2 ^ 30) (h1 : 1 ≤ u) (h9 : u ≤ 999) (hm : mayW P (nI h) n = true) (hX : XV P z t 64 C R) : XV (addW P h n (nI u)) z t 64 (C + 1) R := by
  obtain ⟨hP, hV, hN, hB, hL, hR⟩ := id hX
  have hz := hV.2.1.2.2
  have hn6 : n < 64 := by omega
  by_cases hf : P 2 n = -1
  · unfold addW
    rw [if_pos hf]
    exact (lease_ok hn hh ht hC h1 h9 hf hX).1
  · obtain ⟨w, w1, w2, w3, w4⟩ := (hN n hn6).1
    have hw : toN (P 7 n) = w := by rw [w2, toN_nI (by omega)]
    unfold mayW at hm
    rw [if_neg hf, Bool.and_eq_true, Bool.and_eq_true, w2, Bool.not_eq_true', decide_eq_false_iff_not, nI_leI (by omega) (by omega), Bool.not_eq_true', decide_eq_false_iff_not] at hm
    obtain ⟨⟨m1, m2⟩, m3⟩ := hm
    have m4 : ∀ k, k < w → P 8 (n * 3 + k) ≠ nI h := by
      intro k hk
      have e : placeW P (nI h) n = none := Option.isNone_iff_eq_none.mp m3
      unfold placeW at e
      rw [hw] at e
      exact of_decide_eq_false (fnd_none e k (Nat.zero_le _) (by omega))
    have app := addW_app (h := h) (u := nI u) hf w2 (by omega)
    have ene : ∀ j, j ≠ 7 → j ≠ 8 → j ≠ 9 → addW P h n (nI u) j = P j := fun j a b c => by
      funext i
      rw [app, if_neg (fun q => a q.1), if_neg (fun q => c q.1), if_neg (fun q => b q.1)]
    have o : OFF n P (addW P h n (nI u)) := by
      refine ⟨by rw [ene 0 (by decide) (by decide) (by decide)], by rw [ene 0 (by decide) (by decide) (by decide)], by rw [ene 0 (by decide) (by decide) (by decide)], ene 1 (by decide) (by decide) (by decide), fun j i a b hi => ?_, fun j i a b hi => ?_⟩
      · rw [app, if_neg (fun q => hi q.2), if_neg (by omega), if_neg (by omega)]
      · rw [app, if_neg (by omega), if_neg (by omega), if_neg (by omega)]
    refine ⟨PI_addW hn6 hh hP, VH_off o hV, fun i hi => ?_, B6_mono (Nat.le_succ _) (B6_of (fun n _ => by rw [ene 6 (by decide) (by decide) (by decide)]) hB), LG_of (ene 10 (by decide) (by decide) (by decide)) (by rw [ene 0 (by decide) (by decide) (by decide)]) (fun n _ => by rw [ene 2 (by decide) (by decide) (by decide)]) hL, RN_of o.2.1 o.2.2.1 hR⟩
    have hNi := hN i hi
    rw [if_pos hi] at hNi ⊢
    by_cases q : i = n
    · subst q
      refine ⟨?_, ?_⟩
      · rw [ene 2 (by decide) (by decide) (by decide)]
        have e8 : ∀ k, k < w + 1 → addW P h i (nI u) 8 (i * 3 + k) = if k = w then nI h else P 8 (i * 3 + k) := by
          intro k hk
          rw [app, if_neg (by omega), if_neg (by omega)]
          by_cases x : k = w
          · rw [if_pos ⟨rfl, by omega⟩, if_pos x]
          · rw [if_neg (by omega), if_neg x]
        have e9 : ∀ k, k < w + 1 → addW P h i (nI u) 9 (i * 3 + k) = if k = w then nI u else P 9 (i * 3 + k) := by
          intro k hk
          rw [app, if_neg (by omega)]
          by_cases x : k = w
          · rw [if_pos ⟨rfl, by omega⟩, if_pos x]
          · rw [if_neg (by omega), if_neg (by omega), if_neg x]
        refine ⟨w + 1, by omega, by rw [app, if_pos ⟨rfl, rfl⟩], fun k hk => ?_, fun a k hak hk => ?_⟩
        · rw [e8 k hk, e9 k hk]
          by_cases x : k = w
          · rw [if_pos x, if_pos x]
            exact ⟨⟨h, hh, rfl⟩, fun y => m2 y.symm, u, h1, h9, rfl⟩
          · rw [if_neg x, if_neg x]
            exact w3 k (by omega)
        · rw [e8 k hk, e8 a (by omega), if_neg (by omega)]
          by_cases x : k = w
          · rw [if_pos x]
            exact m4 a (by omega)
          · rw [if_neg x]
            exact w4 a k hak (by omega)
      · rcases hNi.2 with a | a
        · exact absurd a.1 hf
        · exact Or.inr (HL_of (fun j a b => by rw [ene j (by omega) (by omega) (by omega)]) a)
    · exact NL_off o q hNi
/-- a wish that waits is taken back -/
theorem dropW_ok {P : jO} {z t n k C R : Nat} (hn : n < 64) (hk : k < toN (P 7 n)) (hX : XV P z t 64 C R) : XV (dropP P n k) z t 64 C R := by
  obtain ⟨hP, hV, hN, hB, hL, hR⟩ := hX
  obtain ⟨h3, he⟩ := PI_w hP hn
  have o := OFF_drop (P := P) (n := n) (k := k) h3
  have ene : ∀ j, j ≠ 7 → j ≠ 8 → j ≠ 9 → dropP P n k j = P j := fun j a b c => drop_ne a b c
  refine ⟨PI_drop hn (by omega) hk hP, VH_off o hV, fun i hi => ?_, B6_of (fun n _ => by rw [ene 6 (by decide) (by decide) (by decide)]) hB, LG_of (ene 10 (by decide) (by decide) (by decide)) (by rw [ene 0 (by decide) (by decide) (by decide)]) (fun n _ => by rw [ene 2 (by decide) (by decide) (by decide)]) hL, RN_of o.2.1 o.2.2.1 hR⟩
  have hNi := hN i hi
  rw [if_pos hi] at hNi ⊢
  by_cases q : i = n
  · subst q
    refine ⟨?_, ?_⟩
    · rw [ene 2 (by decide) (by decide) (by decide)]
      exact (WL_drop hk hNi.1).1
    · rcases hNi.2 with a | a
      · exfalso
        rw [a.2, toN_nI (by decide)] at hk
        omega
      · exact Or.inr (HL_of (fun j a b => by rw [ene j (by omega) (by omega) (by omega)]) a)
  · exact NL_off o q hNi
/-- a setting changes -/
theorem set_ok {P : jO} {z z' t q C R : Nat} {v : Int32} (hq : q < 4) (h0 : q ≠ 3 → ∃ g, g ≤ 64 ∧ v = nI g) (h3 : q = 3 → v = nI z' ∧ 4 ≤ z' ∧ z' ≤ 64) (hz : q ≠ 3 → z' = z) (hfit : ∀ n, n < 64 → z' ≤ n → P 2 n = -1) (hX : XV P z t 64 C R) : XV (put P 1 q v) z' t 64 C R := by
  obtain ⟨⟨p1, p2, p3⟩, ⟨v1, v2, v3⟩, hN, hB, hL, hR⟩ := hX
  have ene : ∀ j, j ≠ 1 → put P 1 q v j = P j := fun j a => put_ne a
  have e3 : put P 1 q v 1 3 = nI z' ∧ 4 ≤ z' ∧ z' ≤ 64 := by
    rw [put_at]
    by_cases x : q = 3
    · rw [if_pos x.symm]
      exact h3 x
    · rw [if_neg (fun y => x y.symm), hz x]
      exact v2
  refine ⟨⟨⟨z', e3.2.1, e3.2.2, e3.1⟩, fun n hn => by rw [ene 2 (by decide)]; exact p2 n hn, fun n hn => PIq_of (by rw [ene 7 (by decide)]) (fun k _ => by rw [ene 8 (by decide)]) (p3 n hn)⟩, ⟨by rw [ene 0 (by decide)]; exact v1, e3, ?_⟩, fun n hn => ?_, B6_of (fun n _ => by rw [ene 6 (by decide)]) hB, LG_of (ene 10 (by decide)) (by rw [ene 0 (by decide)]) (fun n _ => by rw [ene 2 (by decide)]) hL, RN_of (by rw [ene 0 (by decide)]) (by rw [ene 0 (by decide)]) hR⟩
  · intro y hy
    rw [put_at]
    by_cases x : y = q
    · rw [if_pos x]
      exact h0 (by omega)
    · rw [if_neg x]
      exact v3 y hy
  · have h := hN n hn
    rw [if_pos hn] at h ⊢
    refine NL_of (P := P) (fun j a b => by rw [ene j (by omega)]) (fun j i a b _ => by rw [ene j (by omega)]) ⟨h.1, ?_⟩
    rcases h.2 with a | a
    · exact Or.inl a
    · refine Or.inr ⟨?_, a.2⟩
      rcases Nat.lt_or_ge n z' with x | x
      · exact x
      · exfalso
        obtain ⟨g, g1, g2⟩ := a.2.1
        rw [hfit n hn x] at g2
        exact absurd g2.symm (nI_m1 (by omega))
