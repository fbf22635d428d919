/-! THE STEPS KEEP IT -/
theorem PI_w {P : jO} {n : Nat} (hP : PI P) (hn : n < 64) : toN (P 7 n) ≤ 3 ∧ P 7 n = nI (toN (P 7 n)) := by
  obtain ⟨w, w1, w2, -⟩ := hP.2.2 n hn
  rw [w2, toN_nI (by omega)]
  exact ⟨w1, rfl⟩
theorem nI_0lt {w : Nat} (h : w < 2 ^ 31) : 0 < nI w ↔ 0 < w := by
  rw [← nI0]
  exact nI_ltI (by decide) h
/-- a wish is dropped -/
theorem WL_drop {P : jO} {n k : Nat} {q : Int32} (hk : k < toN (P 7 n)) (h : WL P n q) : WL (dropP P n k) n q ∧ dropP P n k 7 n = nI (toN (P 7 n) - 1) ∧ (k = 0 → ∀ i, i < toN (P 7 n) - 1 → dropP P n k 8 (n * 3 + i) ≠ P 8 (n * 3)) := by
  obtain ⟨w, h1, h2, h3, h4⟩ := h
  have hw : toN (P 7 n) = w := by rw [h2, toN_nI (by omega)]
  rw [hw] at hk ⊢
  have e7 : dropP P n k 7 n = nI (w - 1) := by rw [drop_7, if_pos rfl, h2, pk_sub (by omega)]
  have e8 : ∀ i, dropP P n k 8 (n * 3 + i) = if k ≤ i ∧ i < w - 1 then P 8 (n * 3 + (i + 1)) else P 8 (n * 3 + i) := by
    intro i
    rw [drop_8, hw]
    by_cases q : k ≤ i ∧ i < w - 1
    · rw [if_pos (by omega), if_pos q, Nat.add_assoc]
    · rw [if_neg (by omega), if_neg q]
  have e9 : ∀ i, dropP P n k 9 (n * 3 + i) = if k ≤ i ∧ i < w - 1 then P 9 (n * 3 + (i + 1)) else P 9 (n * 3 + i) := by
    intro i
    rw [drop_9, hw]
    by_cases q : k ≤ i ∧ i < w - 1
    · rw [if_pos (by omega), if_pos q, Nat.add_assoc]
    · rw [if_neg (by omega), if_neg q]
  refine ⟨⟨w - 1, by omega, e7, fun i hi => ?_, fun i j hij hj => ?_⟩, e7, fun hk0 i hi => ?_⟩
  · rw [e8, e9]
    by_cases q : k ≤ i ∧ i < w - 1
    · rw [if_pos q, if_pos q]
      exact h3 (i + 1) (by omega)
    · rw [if_neg q, if_neg q]
      exact h3 i (by omega)
  · rw [e8, e8]
    by_cases a : k ≤ i ∧ i < w - 1 <;> by_cases b : k ≤ j ∧ j < w - 1
    · rw [if_pos a, if_pos b]
      exact h4 _ _ (by omega) (by omega)
    · exfalso; omega
    · rw [if_neg a, if_pos b]
      exact h4 _ _ (by omega) (by omega)
    · rw [if_neg a, if_neg b]
      exact h4 _ _ (by omega) (by omega)
  · subst hk0
    rw [e8, if_pos ⟨Nat.zero_le _, hi⟩]
    exact (h4 0 (i + 1) (by omega) (by omega)).symm
/-- a lease makes a number in order, if nobody who waits for it gets it -/
theorem NL_lease {P : jO} {z t h n u C : Nat} (hn : n < z) (hz : z ≤ 64) (hh : h < 8) (ht : t ≤ 20000) (hC : C < 2 ^ 30) (h1 : 1 ≤ u) (h9 : u ≤ 999) (hV : VH P z t) (hB : B6 P C) (hW : WL P n (nI h)) : NL (leaseP P h n (nI u)) z t 1 n := by
  have o := OFF_lease P h n (nI u)
  obtain ⟨v1, -, hg⟩ := hV
  obtain ⟨g, g1, g2⟩ := hg 0 (by omega)
  have l2 : leaseP P h n (nI u) 2 n = nI h := by rw [leaseP_app, if_pos ⟨rfl, rfl⟩]
  have l3 : leaseP P h n (nI u) 3 n = nI t := by rw [leaseP_app, if_neg (by omega), if_pos ⟨rfl, rfl⟩, v1]
  have l4 : leaseP P h n (nI u) 4 n = nI (t + u) := by rw [leaseP_app, if_neg (by omega), if_neg (by omega), if_pos ⟨rfl, rfl⟩, v1, nI_add]
  have l5 : leaseP P h n (nI u) 5 n = nI (t + u + g) := by rw [leaseP_app, if_neg (by omega), if_neg (by omega), if_neg (by omega), if_pos ⟨rfl, rfl⟩, v1, g2, nI_add, nI_add]
  have l6 : leaseP P h n (nI u) 6 n = P 6 n + nI 1 := by rw [leaseP_app, if_neg (by omega), if_neg (by omega), if_neg (by omega), if_neg (by omega), if_pos ⟨rfl, rfl⟩]
  have l7 : leaseP P h n (nI u) 7 = P 7 := by funext i; rw [leaseP_app]; simp
  have l8 : leaseP P h n (nI u) 8 = P 8 := by funext i; rw [leaseP_app]; simp
  have l9 : leaseP P h n (nI u) 9 = P 9 := by funext i; rw [leaseP_app]; simp
  refine ⟨?_, Or.inr ⟨hn, ⟨h, hh, l2⟩, ⟨t, t + u, t + u + g, l3, l4, l5, by omega, by omega, by omega, by omega, by omega⟩, ?_⟩⟩
  · rw [l2]
    refine WL_of (by rw [l7]) (fun j i a b _ => ?_) hW
    rcases (by omega : j = 8 ∨ j = 9) with q | q
    · subst q; rw [l8]
    · subst q; rw [l9]
  · obtain ⟨x, x1, x2⟩ := hB n (by omega)
    rw [l6, x2, nI_add]
    exact fun q => absurd ((nI_eq (by omega) (by omega)).mp q) (by omega)
theorem B6_lease {P : jO} {h n C : Nat} {u : Int32} (hB : B6 P C) : B6 (leaseP P h n u) (C + 1) := by
  intro i hi
  obtain ⟨x, a, b⟩ := hB i hi
  by_cases q : i = n
  · subst q
    exact ⟨x + 1, by omega, by rw [leaseP_app, if_neg (by omega), if_neg (by omega), if_neg (by omega), if_neg (by omega), if_pos ⟨rfl, rfl⟩, b, nI_add]⟩
  · exact ⟨x, by omega, by rw [(OFF_lease P h n u).2.2.2.2.1 6 i (by omega) (by omega) q]; exact b⟩
theorem serve_held {P : jO} {n : Nat} (h : ¬ P 2 n = -1) : ∀ k, serve n k P = P
  | 0 => rfl
  | k + 1 => by rw [serve, if_neg (fun q => h q.1)]
/-- a number that became free, and its wishes -/
theorem serve_ok {z t n : Nat} (hn : n < z) (hz : z ≤ 64) (ht : t ≤ 20000) : ∀ (k C : Nat) (P : jO), C < 2 ^ 30 → VH P z t → WL P n (P 2 n) → P 2 n = -1 → B6 P C → LG P → toN (P 7 n) ≤ k →
    NL (serve n k P) z t 1 n ∧ B6 (serve n k P) (C + 1) ∧ LG (serve n k P) ∧ OFF n P (serve n k P)
  | 0, C, P, hC, hV, hW, hf, hB, hL, hk => by
    refine ⟨⟨hW, Or.inl ⟨hf, ?_⟩⟩, B6_mono (by omega) hB, hL, OFF.rf n P⟩
    obtain ⟨w, w1, w2, -⟩ := hW
    rw [w2, toN_nI (by omega)] at hk
    show P 7 n = nI 0
    rw [w2, show w = 0 by omega]
  | k + 1, C, P, hC, hV, hW, hf, hB, hL, hk => by
    rw [serve]
    by_cases hc : P 2 n = -1 ∧ 0 < P 7 n
    · rw [if_pos hc]
      obtain ⟨w, w1, w2, w3, w4⟩ := id hW
      have hw : toN (P 7 n) = w := by rw [w2, toN_nI (by omega)]
      have h0 : 0 < w := by
        have := hc.2
        rw [w2] at this
        exact (nI_0lt (by omega)).mp this
      obtain ⟨⟨g, g1, g2⟩, -, u, u1, u2, u3⟩ := w3 0 h0
      rw [Nat.add_zero] at g2 u3
      obtain ⟨d1, d2, d3⟩ := WL_drop (k := 0) (by omega) hW
      have od := OFF_drop (P := P) (n := n) (k := 0) (by omega)
      have dn2 : dropP P n 0 2 = P 2 := drop_ne (by decide) (by decide) (by decide)
      have dB : B6 (dropP P n 0) C := B6_of (fun i _ => by rw [drop_ne (by decide) (by decide) (by decide)]) hB
      have dL : LG (dropP P n 0) := LG_of (drop_ne (by decide) (by decide) (by decide)) (by rw [drop_ne (by decide) (by decide) (by decide)]) (fun i _ => by rw [dn2]) hL
      have dV := VH_off od hV
      have df : dropP P n 0 2 n = -1 := by rw [dn2]; exact hf
      by_cases hcc : nI (hasP (dropP P n 0) (nI g)) < dropP P n 0 1 1
      · have es : serveS P n = leaseP (dropP P n 0) g n (nI u) := by
          unfold serveS
          simp only
          rw [g2, u3, if_pos hcc, toN_nI (by omega)]
        rw [es]
        have hW2 : WL (dropP P n 0) n (nI g) := by
          obtain ⟨x, x1, x2, x3, x4⟩ := d1
          refine ⟨x, x1, x2, fun i hi => ⟨(x3 i hi).1, ?_, (x3 i hi).2.2⟩, x4⟩
          have := d3 rfl i (by
            rw [d2] at x2
            have := (nI_eq (by omega) (by omega)).mp x2
            omega)
          rwa [g2] at this
        have hN := NL_lease hn hz g1 ht hC u1 u2 dV dB hW2
        have hne : ¬ leaseP (dropP P n 0) g n (nI u) 2 n = -1 := by
          rw [leaseP_app, if_pos ⟨rfl, rfl⟩]
          exact nI_m1 (by omega)
        rw [serve_held hne]
        exact ⟨hN, B6_lease dB, LG_lease g1 (by omega) df dL, od.tr (OFF_lease _ _ _ _)⟩
      · have es : serveS P n = put (dropP P n 0) 11 g (dropP P n 0 11 g + nI 1) := by
          unfold serveS
          simp only
          rw [g2, if_neg hcc, toN_nI (by omega)]
        rw [es]
        have op : OFF n (dropP P n 0) (put (dropP P n 0) 11 g (dropP P n 0 11 g + nI 1)) := OFF_put (by omega) (by omega) (by omega) (by omega)
        have ene : ∀ j, j ≠ 11 → put (dropP P n 0) 11 g (dropP P n 0 11 g + nI 1) j = dropP P n 0 j := fun j hj => put_ne hj
        obtain ⟨b1, b2, b3, b4⟩ := serve_ok hn hz ht k C (put (dropP P n 0) 11 g (dropP P n 0 11 g + nI 1)) hC (VH_off op dV)
          (by rw [ene 2 (by decide), dn2]; exact WL_of (by rw [ene 7 (by decide)]) (fun j i a b _ => by rw [ene j (by omega)]) d1)
          (by rw [ene 2 (by decide)]; exact df) (B6_of (fun i _ => by rw [ene 6 (by decide)]) dB) (LG_of (ene 10 (by decide)) (by rw [ene 0 (by decide)]) (fun i _ => by rw [ene 2 (by decide)]) dL)
          (by rw [ene 7 (by decide), d2, toN_nI (by omega)]; omega)
        exact ⟨b1, b2, b3, od.tr (op.tr b4)⟩
    · rw [if_neg hc]
      refine ⟨⟨hW, Or.inl ⟨hf, ?_⟩⟩, B6_mono (by omega) hB, hL, OFF.rf n P⟩
      obtain ⟨w, w1, w2, -⟩ := hW
      rw [w2]
      rcases Nat.eq_zero_or_pos w with q | q
      · rw [q]
      · exact absurd ⟨hf, by rw [w2, nI_0lt (by omega)]; exact q⟩ hc
theorem NL_lt {P : jO} {z t d n : Nat} (h : NL P z t d n) (hf : ¬ P 2 n = -1) : n < z := by
  rcases h.2 with a | a
  · exact absurd a.1 hf
  · exact a.1
theorem free_ok {P : jO} {z t m C R n : Nat} (hn : n < 64) (ht : t ≤ 20000) (hC : C < 2 ^ 30) (hf : ¬ P 2 n = -1) (hX : XV P z t m C R) : XV (freeP P n) z t m (C + 1) R ∧ NL (freeP P n) z t 1 n ∧ OFF n P (freeP P n) := by
  obtain ⟨hP, hV, hN, hB, hL, hR⟩ := hX
  have hz := hV.2.1.2.2
  have hnz := NL_lt (hN n hn) hf
  have o1 : OFF n P (put P 2 n (-1)) := OFF_put (by omega) (by omega) (by omega) (by omega)
  have o2 : OFF n (put P 2 n (-1)) (put (put P 2 n (-1)) 0 3 ((put P 2 n (-1)) 0 3 + nI 1)) := OFF_put (by omega) (by omega) (by omega) (by omega)
  have o := o1.tr o2
  have e2 : (put (put P 2 n (-1)) 0 3 ((put P 2 n (-1)) 0 3 + nI 1)) 2 n = -1 := by rw [put_ne (by decide), put_at, if_pos rfl]
  have ene : ∀ j, j ≠ 0 → j ≠ 2 → (put (put P 2 n (-1)) 0 3 ((put P 2 n (-1)) 0 3 + nI 1)) j = P j := fun j a b => by rw [put_ne a, put_ne b]
  have hW : WL P n (-1) := by
    obtain ⟨w, a, b, c, d⟩ := (hN n hn).1
    refine ⟨w, a, b, fun k hk => ⟨(c k hk).1, ?_, (c k hk).2.2⟩, d⟩
    obtain ⟨h, h1, h2⟩ := (c k hk).1
    rw [h2]
    exact nI_m1 (by omega)
  obtain ⟨s1, s2, s3, s4⟩ := serve_ok hnz hz ht 3 C _ hC (VH_off o hV) (by rw [e2]; exact WL_of (by rw [ene 7 (by decide) (by decide)]) (fun j i a b _ => by rw [ene j (by omega) (by omega)]) hW) e2
    (B6_of (fun i _ => by rw [ene 6 (by decide) (by decide)]) hB) (LG_free hn hf hL) (by rw [ene 7 (by decide) (by decide)]; exact (PI_w hP hn).1)
  have oo := o.tr s4
  refine ⟨⟨PI_free hn hP, VH_off oo hV, fun i hi => ?_, s2, s3, RN_of oo.2.1 oo.2.2.1 hR⟩, s1, oo⟩
  by_cases q : i = n
  · subst q
    exact NL_mono (by split <;> omega) s1
  · exact NL_off oo q (hN i hi)
theorem XV_mono {P : jO} {z t m C C' R R' : Nat} (hC : C ≤ C') (hR : R ≤ R') (h : XV P z t m C R) : XV P z t m C' R' :=
  ⟨h.1, h.2.1, h.2.2.1, B6_mono hC h.2.2.2.1, h.2.2.2.2.1, RN_mono hR h.2.2.2.2.2⟩
theorem due_ok {z t R : Nat} (ht : t ≤ 20000) : ∀ (k n C : Nat) (P : jO), n + k = 64 → C + k < 2 ^ 30 → XV P z t n C R → XV (dueN k n P) z t 64 (C + k) R
  | 0, n, C, P, hk, _, hX => by
    obtain rfl : n = 64 := by omega
    exact hX
  | k + 1, n, C, P, hk, hC, hX => by
    have hn : n < 64 := by omega
    have step : ∀ i, i ≠ n → (if i < n then 1 else 0) = (if i < n + 1 then 1 else 0) := by
      intro i h
      by_cases q : i < n
      · rw [if_pos q, if_pos (by omega)]
      · rw [if_neg q, if_neg (by omega)]
    rw [dueN, show C + (k + 1) = C + 1 + k by omega]
    by_cases hc : ¬ P 2 n = -1 ∧ P 5 n = P 0 0
    · rw [if_pos hc]
      obtain ⟨a, b, -⟩ := free_ok hn ht (by omega) hc.1 hX
      refine due_ok ht k (n + 1) _ _ (by omega) (by omega) ⟨a.1, a.2.1, fun i hi => ?_, a.2.2.2⟩
      by_cases q : i = n
      · subst q
        rw [if_pos (by omega)]
        exact b
      · have := a.2.2.1 i hi
        rwa [step i q] at this
    · rw [if_neg hc]
      refine due_ok ht k (n + 1) _ _ (by omega) (by omega) (XV_mono (Nat.le_succ _) (Nat.le_refl _) ⟨hX.1, hX.2.1, fun i hi => ?_, hX.2.2.2⟩)
      by_cases q : i = n
      · subst q
        rw [if_pos (by omega)]
        have h := hX.2.2.1 i hi
        rw [if_neg (by omega)] at h
        obtain ⟨h1, h2⟩ := h
        refine ⟨h1, ?_⟩
        rcases h2 with h2 | ⟨x1, x2, ⟨b, e, l, y1, y2, y3, y4, y5, y6, y7, y8⟩, x4⟩
        · exact Or.inl h2
        · have hf : ¬ P 2 i = -1 := by
            obtain ⟨h, h3, h4⟩ := x2
            rw [h4]
            exact nI_m1 (by omega)
          have hl : ¬ l = t := fun w => hc ⟨hf, by rw [y3, hX.2.1.1, w]⟩
          exact Or.inr ⟨x1, x2, ⟨b, e, l, y1, y2, y3, y4, y5, y6, by omega, y8⟩, x4⟩
      · have := hX.2.2.1 i hi
        rwa [step i q] at this
/-- only units changed -/
theorem XV_12 {P P' : jO} {z t m C R : Nat} (h : ∀ j, j ≠ 12 → P' j = P j) (hX : XV P z t m C R) : XV P' z t m C R := by
  obtain ⟨hP, hV, hN, hB, hL, hR⟩ := hX
  have o : OFF 99 P P' := ⟨by rw [h 0 (by decide)], by rw [h 0 (by decide)], by rw [h 0 (by decide)], h 1 (by decide), fun j i a b _ => by rw [h j (by omega)], fun j i a b _ => by rw [h j (by omega)]⟩
  exact ⟨PI_of (by rw [h 1 (by decide)]) (fun n _ => by rw [h 2 (by decide)]) (fun n _ => by rw [h 7 (by decide)]) (fun n _ => by rw [h 8 (by decide)]) hP, VH_off o hV, fun n hn => NL_off o (by omega) (hN n hn), B6_of (fun n _ => by rw [h 6 (by decide)]) hB, LG_of (h 10 (by decide)) (by rw [h 0 (by decide)]) (fun n _ => by rw [h 2 (by decide)]) hL, RN_of (by rw [h 0 (by decide)]) (by rw [h 0 (by decide)]) hR⟩
theorem units_ne {j : Nat} (hj : j ≠ 12) : ∀ (k n : Nat) (P : jO), unitsN k n P j = P j
  | 0, _, _ => rfl
  | k + 1, n, P => by
    rw [unitsN, units_ne hj k]
    split
    · rw [put_ne hj]
    · rfl
/-- the time goes on, to where no number became free ahead of it -/
theorem XV_time {P : jO} {z t t' C R : Nat} (htt : t ≤ t') (hb : t' ≤ 20000) (hl : ∀ n, n < 64 → ¬ P 2 n = -1 → ∃ l, P 5 n = nI l ∧ t' ≤ l ∧ l < 2 ^ 30) (hX : XV P z t 64 C R) : XV (put P 0 0 (nI t')) z t' 0 C R := by
  obtain ⟨hP, ⟨v1, v2⟩, hN, hB, hL, hR⟩ := hX
  have e : ∀ j, j ≠ 0 → put P 0 0 (nI t') j = P j := fun j hj => put_ne hj
  have e0 : ∀ i, i ≠ 0 → put P 0 0 (nI t') 0 i = P 0 i := fun i hi => by rw [put_at, if_neg hi]
  refine ⟨PI_put (by decide) hP, ⟨by rw [put_at, if_pos rfl], by rw [e 1 (by decide)]; exact v2⟩, fun n hn => ?_, B6_of (fun n _ => by rw [e 6 (by decide)]) hB, LG_of (e 10 (by decide)) (e0 3 (by decide)) (fun n _ => by rw [e 2 (by decide)]) hL, RN_of (e0 1 (by decide)) (e0 2 (by decide)) hR⟩
  have h := hN n hn
  rw [if_pos hn] at h
  rw [if_neg (by omega)]
  refine NL_of (P := P) (fun j a b => by rw [e j (by omega)]) (fun j i a b _ => by rw [e j (by omega)]) ⟨h.1, ?_⟩
  rcases h.2 with a | ⟨x1, x2, ⟨b, en, l, y1, y2, y3, y4, y5, y6, y7, y8⟩, x4⟩
  · exact Or.inl a
  · have hf : ¬ P 2 n = -1 := by
      obtain ⟨h, h3, h4⟩ := x2
      rw [h4]
      exact nI_m1 (by omega)
    obtain ⟨l', f1, f2, f3⟩ := hl n hn hf
    have hll : l = l' := by
      rw [y3] at f1
      exact (nI_eq (by omega) (by omega)).mp f1
    subst hll
    exact Or.inr ⟨x1, x2, ⟨b, en, l, y1, y2, y3, by omega, y5, y6, by omega, by omega⟩, x4⟩
/-- no number that is not free becomes free ahead of w -/
def Lat (P : jO) (w : Nat) : Prop := ∀ n, n < 64 → ¬ P 2 n = -1 → ∃ l, P 5 n = nI l ∧ w ≤ l ∧ l < 2 ^ 30
theorem XV_lat {P : jO} {z t C R : Nat} (ht : t ≤ 20000) (hX : XV P z t 64 C R) : Lat P (t + 1) := by
  intro n hn hf
  have h := hX.2.2.1 n hn
  rw [if_pos hn] at h
  rcases h.2 with a | ⟨x1, x2, ⟨b, en, l, y1, y2, y3, y4, y5, y6, y7, y8⟩, x4⟩
  · exact absurd a.1 hf
  · exact ⟨l, y3, y7, by omega⟩
theorem tick_ok {P : jO} {z t C R : Nat} (ht : t < 20000) (hC : C + 64 < 2 ^ 30) (hX : XV P z t 64 C R) : XV (tickP P) z (t + 1) 64 (C + 64) R := by
  have hU := XV_12 (P' := unitsN 64 0 P) (fun j hj => units_ne hj 64 0 P) hX
  have e : unitsN 64 0 P 0 0 + nI 1 = nI (t + 1) := by rw [hU.2.1.1, nI_add]
  unfold tickP
  simp only
  rw [e]
  exact due_ok (by omega) 64 0 C _ rfl hC (XV_time (by omega) (by omega) (XV_lat (by omega) hU) hU)
theorem pass_ok {z R : Nat} : ∀ (k t C : Nat) (P : jO), t + k ≤ 20000 → C + 64 * k < 2 ^ 30 → XV P z t 64 C R → XV (passN k P) z (t + k) 64 (C + 64 * k) R
  | 0, t, C, P, _, _, hX => hX
  | k + 1, t, C, P, ht, hC, hX => by
    rw [passN, show t + (k + 1) = t + 1 + k by omega, show C + 64 * (k + 1) = C + 64 + 64 * k by omega]
    exact pass_ok k (t + 1) (C + 64) _ (by omega) (by omega) (tick_ok (by omega) (by omega) hX)
theorem span_ok {z t R : Nat} {h : Nat} (hh : h < 8) (ht : t ≤ 20000) : ∀ (k n C c : Nat) (P : jO), n + k ≤ 64 → C + k < 2 ^ 30 → XV P z t 64 C R → XV (spanN (nI h) k n (P, c)).1 z t 64 (C + k) R
  | 0, n, C, c, P, _, _, hX => hX
  | k + 1, n, C, c, P, hk, hC, hX => by
    rw [spanN, show C + (k + 1) = C + 1 + k by omega]
    dsimp only
    by_cases hc : P 2 n = nI h
    · rw [if_pos hc]
      exact span_ok hh ht k (n + 1) (C + 1) (c + 1) _ (by omega) (by omega) (free_ok (by omega) ht (by omega) (by rw [hc]; exact nI_m1 (by omega)) hX).1
    · rw [if_neg hc]
      exact span_ok hh ht k (n + 1) (C + 1) c _ (by omega) (by omega) (XV_mono (Nat.le_succ _) (Nat.le_refl _) hX)
