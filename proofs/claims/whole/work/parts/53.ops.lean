/-! HOW LEASES AND UNITS GROW -/
def B10 (P : jO) (C : Nat) : Prop := ∀ h, h < 8 → ∃ x, x ≤ C ∧ P 10 h = nI x
def B12 (P : jO) (U : Nat) : Prop := ∀ h, h < 8 → ∃ x, x ≤ U ∧ P 12 h = nI x
theorem B10_mono {P : jO} {C C' : Nat} (h : C ≤ C') (hB : B10 P C) : B10 P C' := fun i hi => by
  obtain ⟨x, a, b⟩ := hB i hi
  exact ⟨x, by omega, b⟩
theorem B12_mono {P : jO} {C C' : Nat} (h : C ≤ C') (hB : B12 P C) : B12 P C' := fun i hi => by
  obtain ⟨x, a, b⟩ := hB i hi
  exact ⟨x, by omega, b⟩
theorem B10_of {P P' : jO} {C : Nat} (h : P' 10 = P 10) (hB : B10 P C) : B10 P' C := by unfold B10; rw [h]; exact hB
theorem B12_of {P P' : jO} {C : Nat} (h : P' 12 = P 12) (hB : B12 P C) : B12 P' C := by unfold B12; rw [h]; exact hB
theorem B10_lease {P : jO} {h n C : Nat} {u : Int32} (hB : B10 P C) : B10 (leaseP P h n u) (C + 1) := by
  intro i hi
  obtain ⟨x, a, b⟩ := hB i hi
  rw [leaseP_app, if_neg (by omega), if_neg (by omega), if_neg (by omega), if_neg (by omega), if_neg (by omega)]
  split
  · rename_i q
    rw [← q.2, b, nI_add]
    exact ⟨x + 1, by omega, rfl⟩
  · exact ⟨x, by omega, b⟩
theorem serve_held {P : jO} {n : Nat} (h : ¬ P 2 n = -1) : ∀ k, serve n k P = P
  | 0 => rfl
  | k + 1 => by rw [serve, if_neg (fun q => h q.1)]
theorem B10_serve {n : Nat} (hn : n < 64) : ∀ (k : Nat) (P : jO) (C : Nat), PI P → B10 P C → B10 (serve n k P) (C + 1)
  | 0, P, C, _, hB => B10_mono (by omega) hB
  | k + 1, P, C, hP, hB => by
    rw [serve]
    split
    · rename_i hc
      have hPS := PI_serveS hn hP hc.2
      obtain ⟨p1, p2, p3, p4, p5⟩ := PI_pos hP hn hc.2
      have hd : B10 (dropP P n 0) C := B10_of (drop_ne (by decide) (by decide) (by decide)) hB
      by_cases hq : nI (hasP (dropP P n 0) (P 8 (n * 3))) < dropP P n 0 1 1
      · have es : serveS P n = leaseP (dropP P n 0) (toN (P 8 (n * 3))) n (P 9 (n * 3)) := by
          unfold serveS
          simp only
          rw [if_pos hq]
        have hne : ¬ serveS P n 2 n = -1 := by
          rw [es, leaseP_app, if_pos ⟨rfl, rfl⟩]
          exact nI_m1 (by omega)
        rw [serve_held hne, es]
        exact B10_lease hd
      · have es : serveS P n = put (dropP P n 0) 11 (toN (P 8 (n * 3))) (dropP P n 0 11 (toN (P 8 (n * 3))) + nI 1) := by
          unfold serveS
          simp only
          rw [if_neg hq]
        exact B10_serve hn k _ C hPS (by rw [es]; exact B10_of (put_ne (by decide)) hd)
    · exact B10_mono (by omega) hB
theorem B10_free {P : jO} {n C : Nat} (hn : n < 64) (hP : PI P) (hB : B10 P C) : B10 (freeP P n) (C + 1) :=
  B10_serve hn 3 _ C (PI_put (by decide) (PI_put2 (Or.inl rfl) hP)) (B10_of (by rw [put_ne (by decide), put_ne (by decide)]) hB)
theorem B10_dueN : ∀ (k n : Nat) (P : jO) (C : Nat), n + k ≤ 64 → PI P → B10 P C → B10 (dueN k n P) (C + k)
  | 0, _, _, _, _, _, hB => hB
  | k + 1, n, P, C, hk, hP, hB => by
    rw [dueN, show C + (k + 1) = C + 1 + k by omega]
    split
    · exact B10_dueN k (n + 1) _ _ (by omega) (PI_free (by omega) hP) (B10_free (by omega) hP hB)
    · exact B10_dueN k (n + 1) _ _ (by omega) hP (B10_mono (by omega) hB)
theorem r10_units : ∀ (k n : Nat) (P : jO), unitsN k n P 10 = P 10
  | 0, _, _ => rfl
  | k + 1, n, P => by
    rw [unitsN, r10_units k]
    split
    · rw [put_ne (by decide)]
    · rfl
theorem B10_tick {P : jO} {C : Nat} (hP : PI P) (hB : B10 P C) : B10 (tickP P) (C + 64) :=
  B10_dueN 64 0 _ C (by omega) (PI_put (by decide) (PI_unitsN 64 0 _ hP)) (B10_of (by rw [put_ne (by decide), r10_units]) hB)
theorem B10_passN : ∀ (k : Nat) (P : jO) (C : Nat), PI P → B10 P C → B10 (passN k P) (C + 64 * k)
  | 0, _, _, _, hB => hB
  | k + 1, P, C, hP, hB => by
    rw [passN, show C + 64 * (k + 1) = C + 64 + 64 * k by omega]
    exact B10_passN k _ _ (PI_tick hP) (B10_tick hP hB)
theorem B10_spanN {h : Int32} : ∀ (k n : Nat) (s : jO × Nat) (C : Nat), n + k ≤ 64 → PI s.1 → B10 s.1 C → B10 (spanN h k n s).1 (C + k)
  | 0, _, _, _, _, _, hB => hB
  | k + 1, n, s, C, hk, hP, hB => by
    rw [spanN, show C + (k + 1) = C + 1 + k by omega]
    split
    · exact B10_spanN k (n + 1) _ _ (by omega) (PI_free (by omega) hP) (B10_free (by omega) hP hB)
    · exact B10_spanN k (n + 1) _ _ (by omega) hP (B10_mono (by omega) hB)
theorem B10_leaseN {h : Nat} {u : Int32} : ∀ (k n : Nat) (P : jO) (C : Nat), B10 P C → B10 (leaseN h u k n P) (C + k)
  | 0, _, _, _, hB => hB
  | k + 1, n, P, C, hB => by
    rw [leaseN, show C + (k + 1) = C + 1 + k by omega]
    exact B10_leaseN k (n + 1) _ _ (B10_lease hB)
theorem r12_serve (n : Nat) : ∀ (k : Nat) (P : jO), serve n k P 12 = P 12
  | 0, _ => rfl
  | k + 1, P => by
    rw [serve]
    split
    · rw [r12_serve n k]
      have hd : dropP P n 0 12 = P 12 := drop_ne (by decide) (by decide) (by decide)
      unfold serveS
      show (if nI (hasP (dropP P n 0) (P 8 (n * 3))) < dropP P n 0 1 1 then leaseP (dropP P n 0) (toN (P 8 (n * 3))) n (P 9 (n * 3)) else put (dropP P n 0) 11 (toN (P 8 (n * 3))) ((dropP P n 0) 11 (toN (P 8 (n * 3))) + nI 1)) 12 = P 12
      split
      · rw [← hd]
        funext i
        rw [leaseP_app]
        simp
      · rw [put_ne (by decide), hd]
    · rfl
theorem r12_free (P : jO) (n : Nat) : freeP P n 12 = P 12 := by
  unfold freeP
  rw [r12_serve, put_ne (by decide), put_ne (by decide)]
theorem r12_dueN : ∀ (k n : Nat) (P : jO), dueN k n P 12 = P 12
  | 0, _, _ => rfl
  | k + 1, n, P => by
    rw [dueN, r12_dueN k]
    split
    · exact r12_free _ _
    · rfl
theorem r12_spanN {h : Int32} : ∀ (k n : Nat) (s : jO × Nat), (spanN h k n s).1 12 = s.1 12
  | 0, _, _ => rfl
  | k + 1, n, s => by
    rw [spanN, r12_spanN k]
    split
    · exact r12_free _ _
    · rfl
theorem r12_lease (P : jO) (h n : Nat) (u : Int32) : leaseP P h n u 12 = P 12 := by
  funext i
  rw [leaseP_app]
  simp
theorem r12_leaseN (h : Nat) (u : Int32) : ∀ (k n : Nat) (P : jO), leaseN h u k n P 12 = P 12
  | 0, _, _ => rfl
  | k + 1, n, P => by rw [leaseN, r12_leaseN h u k, r12_lease]
theorem B12_units : ∀ (k n : Nat) (P : jO) (U : Nat), B12 P U → B12 (unitsN k n P) (U + k)
  | 0, _, _, _, hB => hB
  | k + 1, n, P, U, hB => by
    rw [unitsN, show U + (k + 1) = U + 1 + k by omega]
    split
    · refine B12_units k (n + 1) _ _ (fun i hi => ?_)
      obtain ⟨x, a, b⟩ := hB i hi
      rw [put_at]
      split
      · rename_i q
        rw [← q, b, nI_add]
        exact ⟨x + 1, by omega, rfl⟩
      · exact ⟨x, by omega, b⟩
    · exact B12_units k (n + 1) _ _ (B12_mono (by omega) hB)
theorem B12_tick {P : jO} {U : Nat} (hB : B12 P U) : B12 (tickP P) (U + 64) := by
  unfold tickP
  refine B12_of (r12_dueN _ _ _) ?_
  exact B12_of (put_ne (by decide)) (B12_units 64 0 _ _ hB)
theorem B12_passN : ∀ (k : Nat) (P : jO) (U : Nat), B12 P U → B12 (passN k P) (U + 64 * k)
  | 0, _, _, hB => hB
  | k + 1, P, U, hB => by
    rw [passN, show U + 64 * (k + 1) = U + 64 + 64 * k by omega]
    exact B12_passN k _ _ (B12_tick hB)
/-! THE OTHER STEPS -/
/-- a lease of a free number -/
theorem V_lease {P : jO} {z t h n u : Nat} (hn : n < z) (hh : h < 8) (ht : t ≤ 20000) (h1 : 1 ≤ u) (h9 : u ≤ 999) (hV : V P z t 64) : V (leaseP P h n (nI u)) z t 64 := by
  obtain ⟨a, b, c⟩ := hV
  have hz6 := b.2.1.2.2
  have o := OFF_lease P h n (nI u)
  refine ⟨PI_lease hh a, VH_off o b, fun i hi => ?_⟩
  by_cases hin : i = n
  · subst hin
    have l7 : leaseP P h i (nI u) 7 = P 7 := by funext q; rw [leaseP_app]; simp
    have l9 : leaseP P h i (nI u) 9 = P 9 := by funext q; rw [leaseP_app]; simp
    refine ⟨fun q => ?_, VT_of (by rw [l7]) l9 (c i hi).2.1, fun _ => ?_⟩
    · rw [leaseP_app, if_pos ⟨rfl, rfl⟩] at q
      exact absurd q (nI_m1 (by omega))
    · rw [if_pos hi]
      exact ⟨VO_lease b ht h1 h9, hn⟩
  · exact VL_off o hin (c i hi)
theorem leaseN_all {z t h u : Nat} (hh : h < 8) (ht : t ≤ 20000) (h1 : 1 ≤ u) (h9 : u ≤ 999) : ∀ (k n : Nat) (P : jO) (r : Nat → Int32), n + k ≤ z → CP P r → V P z t 64 →
    CP (leaseN h (nI u) k n P) (mGivN h (nI u) k n r) ∧ V (leaseN h (nI u) k n P) z t 64
  | 0, _, _, _, _, hC, hV => ⟨hC, hV⟩
  | k + 1, n, P, r, hk, hC, hV => by
    have hz6 := hV.2.1.2.1.2.2
    rw [leaseN, mGivN]
    exact leaseN_all hh ht h1 h9 k (n + 1) _ _ (by omega) (CP_lease hh (by omega) hC) (V_lease (by omega) hh ht h1 h9 hV)
theorem V_putH {P : jO} {z t i : Nat} {v : Int32} (hi : i ≠ 0) (h : V P z t 64) : V (put P 0 i v) z t 64 := by
  have o : OFF 99 P (put P 0 i v) := OFF_put (by omega) (by omega) (by omega) (by omega)
  exact ⟨PI_put (by omega) h.1, VH_off o h.2.1, fun n hn => VL_off o (by omega) (h.2.2 n hn)⟩
theorem prol_all {P : jO} {r : Nat → Int32} {z t n u : Nat} (hn : n < z) (ht : t ≤ 20000) (h1 : 1 ≤ u) (h9 : u ≤ 999) (hC : CP P r) (hV : V P z t 64) :
    CP (prolP P n (nI u)) (mRenR r n (nI u)) ∧ V (prolP P n (nI u)) z t 64 ∧ prolP P n (nI u) 10 = P 10 ∧ prolP P n (nI u) 12 = P 12 := by
  have hz6 := hV.2.1.2.1.2.2
  have hn6 : n < 64 := by omega
  have c1 := CP_putH' (i := 1) (by omega) (by omega) hC (congrArg (· + nI 1) (CP_h (i := 1) hC (by omega) (by omega)))
  have v1 := V_putH (i := 1) (v := P 0 1 + nI 1) (by omega) hV
  have step2 : ∀ (A : jO) (a : Nat → Int32), CP A a → V A z t 64 → A 10 = P 10 → A 12 = P 12 →
      ∃ B : jO, (if stg A n = nI 2 then put A 0 2 (A 0 2 + nI 1) else A) = B ∧ CP B (upd a 6 (a 6 + (if mStg a n = nI 2 then nI 1 else nI 0))) ∧ V B z t 64 ∧ B 10 = P 10 ∧ B 12 = P 12 := by
    intro A a cA vA hA1 hA2
    refine ⟨_, rfl, ?_⟩
    rw [stg_eq cA hn6]
    have e6 : a 6 = A 0 2 := CP_h (i := 2) cA (by omega) (by omega)
    by_cases hc : stg A n = nI 2
    · rw [if_pos hc, if_pos hc]
      exact ⟨CP_putH' (i := 2) (by omega) (by omega) cA (congrArg (· + nI 1) e6), V_putH (by omega) vA, by rw [put_ne (by decide)]; exact hA1, by rw [put_ne (by decide)]; exact hA2⟩
    · rw [if_neg hc, if_neg hc]
      have ez : upd a 6 (a 6 + nI 0) = a := by
        funext q
        by_cases hq : q = 6
        · subst hq
          rw [upd_at, nI0, Int32.add_zero]
        · rw [upd_ne hq]
      rw [ez]
      exact ⟨cA, vA, hA1, hA2⟩
  obtain ⟨B, eB, cB, vB, hB1, hB2⟩ := step2 _ _ c1 v1 (by rw [put_ne (by decide)]) (by rw [put_ne (by decide)])
  have e10 : prolP P n (nI u) = put (put B 4 n (B 0 0 + nI u)) 5 n ((put B 4 n (B 0 0 + nI u)) 4 n + (put B 4 n (B 0 0 + nI u)) 1 0) := by
    unfold prolP
    simp only
    rw [eB]
  have eR : mRenR r n (nI u) = upd (upd (upd (upd r 5 (r 5 + nI 1)) 6 ((upd r 5 (r 5 + nI 1)) 6 + (if mStg (upd r 5 (r 5 + nI 1)) n = nI 2 then nI 1 else nI 0))) (32 + 12 * n + 2) ((upd (upd r 5 (r 5 + nI 1)) 6 ((upd r 5 (r 5 + nI 1)) 6 + (if mStg (upd r 5 (r 5 + nI 1)) n = nI 2 then nI 1 else nI 0))) 0 + nI u)) (32 + 12 * n + 3)
    ((upd (upd (upd r 5 (r 5 + nI 1)) 6 ((upd r 5 (r 5 + nI 1)) 6 + (if mStg (upd r 5 (r 5 + nI 1)) n = nI 2 then nI 1 else nI 0))) (32 + 12 * n + 2) ((upd (upd r 5 (r 5 + nI 1)) 6 ((upd r 5 (r 5 + nI 1)) 6 + (if mStg (upd r 5 (r 5 + nI 1)) n = nI 2 then nI 1 else nI 0))) 0 + nI u)) 0 + nI u + (upd (upd (upd r 5 (r 5 + nI 1)) 6 ((upd r 5 (r 5 + nI 1)) 6 + (if mStg (upd r 5 (r 5 + nI 1)) n = nI 2 then nI 1 else nI 0))) (32 + 12 * n + 2) ((upd (upd r 5 (r 5 + nI 1)) 6 ((upd r 5 (r 5 + nI 1)) 6 + (if mStg (upd r 5 (r 5 + nI 1)) n = nI 2 then nI 1 else nI 0))) 0 + nI u)) 1) := rfl
  rw [eR, e10]
  have cB : CP B (upd (upd r 5 (r 5 + nI 1)) 6 ((upd r 5 (r 5 + nI 1)) 6 + (if mStg (upd r 5 (r 5 + nI 1)) n = nI 2 then nI 1 else nI 0))) := cB
  generalize upd (upd r 5 (r 5 + nI 1)) 6 ((upd r 5 (r 5 + nI 1)) 6 + (if mStg (upd r 5 (r 5 + nI 1)) n = nI 2 then nI 1 else nI 0)) = a at cB ⊢
  have c3 := CP_putN' (j := 4) (by omega) (by omega) hn6 cB (congrArg (· + nI u) (CP_t cB))
  have c3 : CP (put B 4 n (B 0 0 + nI u)) (upd a (32 + 12 * n + 2) (a 0 + nI u)) := c3
  have e4 : (upd a (32 + 12 * n + 2) (a 0 + nI u)) 0 + nI u + (upd a (32 + 12 * n + 2) (a 0 + nI u)) 1 = (put B 4 n (B 0 0 + nI u)) 4 n + (put B 4 n (B 0 0 + nI u)) 1 0 := by
    rw [CP_t c3, show (upd a (32 + 12 * n + 2) (a 0 + nI u)) 1 = (put B 4 n (B 0 0 + nI u)) 1 0 from CP_s (i := 0) c3 (by omega), put_ne (by decide : (0 : Nat) ≠ 4), put_at, if_pos rfl]
  have c4 := CP_putN' (j := 5) (by omega) (by omega) hn6 c3 e4
  refine ⟨c4, ?_, by rw [put_ne (by decide), put_ne (by decide)]; exact hB1, by rw [put_ne (by decide), put_ne (by decide)]; exact hB2⟩
  obtain ⟨b1, b2, b3⟩ := vB
  obtain ⟨w1, -, ⟨g, g1, g2⟩, -, -⟩ := id b2
  have o1 : OFF n B (put B 4 n (B 0 0 + nI u)) := OFF_put (by omega) (by omega) (by omega) (by omega)
  have o2 : OFF n (put B 4 n (B 0 0 + nI u)) (put (put B 4 n (B 0 0 + nI u)) 5 n ((put B 4 n (B 0 0 + nI u)) 4 n + (put B 4 n (B 0 0 + nI u)) 1 0)) := OFF_put (by omega) (by omega) (by omega) (by omega)
  have o := o1.tr o2
  refine ⟨PI_put (by omega) (PI_put (by omega) b1), VH_off o b2, fun i hi => ?_⟩
  by_cases hin : i = n
  · subst hin
    obtain ⟨x1, x2, x3⟩ := b3 i hi
    refine ⟨?_, VT_of (by rw [put_ne (by decide), put_ne (by decide)]) (by rw [put_ne (by decide), put_ne (by decide)]) x2, fun _ => ⟨⟨t + u, t + u + g, ?_, ?_, by rw [if_pos hi]; omega, by omega, by omega⟩, hn⟩⟩
    · rw [put_ne (by decide : (2 : Nat) ≠ 5), put_ne (by decide : (2 : Nat) ≠ 4), put_ne (by decide : (7 : Nat) ≠ 5), put_ne (by decide : (7 : Nat) ≠ 4)]
      exact x1
    · rw [put_ne (by decide : (4 : Nat) ≠ 5), put_at, if_pos rfl, w1, nI_add]
    · rw [put_at, if_pos rfl, put_at, if_pos rfl, put_ne (by decide : (1 : Nat) ≠ 4), w1, g2, nI_add, nI_add]
  · exact VL_off o hin (b3 i hi)
