/-! EACH THING THAT THE LAW DOES: what it answers, and that all holds behind it -/
theorem r03_lease (P : jO) (h n : Nat) (u : Int32) : leaseP P h n u 0 3 = P 0 3 := by
  rw [leaseP_app]
  simp
theorem r03_serve (n : Nat) : ∀ (k : Nat) (P : jO), serve n k P 0 3 = P 0 3
  | 0, _ => rfl
  | k + 1, P => by
    rw [serve]
    split
    · rw [r03_serve n k]
      have hd : dropP P n 0 0 = P 0 := drop_ne (by decide) (by decide) (by decide)
      unfold serveS
      show (if nI (hasP (dropP P n 0) (P 8 (n * 3))) < dropP P n 0 1 1 then leaseP (dropP P n 0) (toN (P 8 (n * 3))) n (P 9 (n * 3)) else put (dropP P n 0) 11 (toN (P 8 (n * 3))) ((dropP P n 0) 11 (toN (P 8 (n * 3))) + nI 1)) 0 3 = P 0 3
      split
      · rw [r03_lease, hd]
      · rw [put_ne (by decide), hd]
    · rfl
theorem r03_free (P : jO) (n : Nat) : freeP P n 0 3 = P 0 3 + nI 1 := by
  unfold freeP
  rw [r03_serve, put_at, if_pos rfl, put_ne (by decide)]
theorem r03_due : ∀ (k n : Nat) (P : jO), ∃ x, x ≤ k ∧ dueN k n P 0 3 = P 0 3 + nI x
  | 0, _, P => ⟨0, Nat.le_refl _, by rw [dueN, nI0, Int32.add_zero]⟩
  | k + 1, n, P => by
    rw [dueN]
    split
    · obtain ⟨x, a, b⟩ := r03_due k (n + 1) (freeP P n)
      exact ⟨x + 1, by omega, by rw [b, r03_free, Int32.add_assoc, nI_add, Nat.add_comm]⟩
    · obtain ⟨x, a, b⟩ := r03_due k (n + 1) P
      exact ⟨x, by omega, b⟩
theorem r03_pass : ∀ (k : Nat) (P : jO), ∃ x, x ≤ 64 * k ∧ passN k P 0 3 = P 0 3 + nI x
  | 0, P => ⟨0, Nat.le_refl _, by rw [passN, nI0, Int32.add_zero]⟩
  | k + 1, P => by
    rw [passN]
    obtain ⟨x, a, b⟩ := r03_pass k (tickP P)
    obtain ⟨x', a', b'⟩ := r03_due 64 0 (put (unitsN 64 0 P) 0 0 (unitsN 64 0 P 0 0 + nI 1))
    have e : tickP P 0 3 = P 0 3 + nI x' := by
      unfold tickP
      rw [b', put_at, if_neg (by decide), units_ne (by decide)]
    exact ⟨x' + x, by omega, by rw [b, e, Int32.add_assoc, nI_add]⟩
theorem spanN_le (h : Int32) : ∀ (k n : Nat) (s : jO × Nat), (spanN h k n s).2 ≤ s.2 + k
  | 0, _, s => Nat.le_refl _
  | k + 1, n, s => by
    rw [spanN]
    have := spanN_le h k (n + 1) (if s.1 2 n = h then (freeP s.1 n, s.2 + 1) else s)
    split at this
    · rw [if_pos ‹_›]
      have this : _ ≤ s.2 + 1 + k := this
      omega
    · rw [if_neg ‹_›]
      omega
theorem okN_of {S : jS} {z n : Nat} (hz : S 0 1 3 = nI z) (hz6 : z ≤ 64) (hn : n < z) : okN S (nI n) = true := by
  unfold okN
  rw [hz, decide_eq_false (nI_pos (by omega)), decide_eq_false (nI_ge hn (by omega))]
  rfl
theorem term_ok {u : Nat} (h1 : 1 ≤ u) (h9 : u ≤ 999) : ¬ nI u < nI 1 ∧ nI u ≤ nI 999 := ⟨nI_nlt h1 (by omega), nI_le h9 (by decide)⟩
theorem nneg {n : Nat} (h : n < 2 ^ 31) : ¬ nI n < 0 := nI_pos h
/-- what is so behind it -/
def Done (S : jS) (K : Nat → Nat) (n i : Nat) (v : Int32) (S' : jS) (K' : Nat → Nat) (n' : Nat) : Prop := n ≤ n' ∧ n' ≤ n + 1 ∧ INV S' K' (i + 1) ∧ (¬ v < 0 ∨ S' 9 0 0 = S 9 0 0)
theorem Done.no {S : jS} {K : Nat → Nat} {n i : Nat} {v : Int32} (h : INV S K i) : Done S K n i v S K (n + 1) := ⟨by omega, by omega, INV_mono (by omega) h, Or.inr rfl⟩
section OPS
variable {l : Launch} {E : jE} {S : jS} {K : Nat → Nat} {o : Int64} {n i : Nat}
theorem o_take (hst : l.stackTraces = false) (hi : i < 60) (hI : INV S K i) {h u : Nat} (hh : h < 8) (h1 : 1 ≤ u) (h9 : u ≤ 999) {z : Nat} (hz : S 0 1 3 = nI z) (hz6 : z ≤ 64) :
    ∃ v S' K' n', Done S K n i v S' K' n' ∧ ((v = -3 ∧ S' = S ∧ K' = K) ∨ ∃ f, lowR (S 0) z (nI 1) = some f ∧ v = nI f ∧ S' = setO (kpS S K) 0 (leaseRowP (S 0) z h 1 (nI u)) ∧ K' = kpK S K ∧ n' = n) ∧ CtH l E yL_take cL_take 4 (some .int) [(0, 6, 7, 15)] 9 [.ref (ad E 11 0), .int (nI h), .int (nI u)] (S, (K, (o, n))) (some (.int v)) (S', (K', (o, n'))) := by
  obtain ⟨t1, t2⟩ := term_ok h1 h9
  by_cases hml : (hasR (S 0) (nI h) (nI 1) && (lowR (S 0) z (nI 1)).isSome) = true
  · have ct := w_take (c4_take l E S K (o, n) hh t1 t2 hz hz6 (INV_SI hI) hml)
    cases hl : lowR (S 0) z (nI 1) with
    | none =>
      rw [hl] at hml
      simp at hml
    | some f =>
      rw [hl] at ct
      have hf := low_some hz6 (by omega) hl
      exact ⟨nI f, _, _, n, ⟨Nat.le_refl _, Nat.le_succ _, do_row hi hh h1 h9 (Nat.le_refl _) (by omega) hz hz6 hI, Or.inl (nneg (by omega))⟩, Or.inr ⟨f, rfl, rfl, rfl, rfl, rfl⟩, ct⟩
  · exact ⟨-3, S, K, n + 1, Done.no hI, Or.inl ⟨rfl, rfl, rfl⟩, w_take_0 (t4_take_s l hst E S K (o, n) hh t1 t2 hz hz6 (Bool.eq_false_iff.mpr hml))⟩
theorem o_span (hst : l.stackTraces = false) (hi : i < 60) (hI : INV S K i) {h m u : Nat} (hh : h < 8) (hm1 : 1 ≤ m) (hm : m ≤ 64) (h1 : 1 ≤ u) (h9 : u ≤ 999) {z : Nat} (hz : S 0 1 3 = nI z) (hz6 : z ≤ 64) :
    ∃ v S' K' n', Done S K n i v S' K' n' ∧ CtH l E yL_span cL_span 5 (some .int) [(0, 7, 8, 15)] 9 [.ref (ad E 11 0), .int (nI h), .int (nI m), .int (nI u)] (S, (K, (o, n))) (some (.int v)) (S', (K', (o, n'))) := by
  obtain ⟨t1, t2⟩ := term_ok h1 h9
  by_cases hml : (hasR (S 0) (nI h) (nI m) && (lowR (S 0) z (nI m)).isSome) = true
  · have ct := w_span (c4_takeSpan l E S K (o, n) hh hm1 hm t1 t2 hz hz6 (INV_SI hI) hml)
    cases hl : lowR (S 0) z (nI m) with
    | none =>
      rw [hl] at hml
      simp at hml
    | some f =>
      rw [hl] at ct
      have hf := low_some hz6 hm hl
      exact ⟨nI f, _, _, n, ⟨Nat.le_refl _, Nat.le_succ _, do_row hi hh h1 h9 hm1 hm hz hz6 hI, Or.inl (nneg (by omega))⟩, ct⟩
  · exact ⟨-3, S, K, n + 1, Done.no hI, w_span_0 (t4_takeSpan_s l hst E S K (o, n) hh hm1 hm t1 t2 hz hz6 (Bool.eq_false_iff.mpr hml))⟩
theorem INV_PI (hI : INV S K i) : PI (S 0) := by
  obtain ⟨z, t, -, hX⟩ := hI.1
  exact hX.1
theorem o_wish (hst : l.stackTraces = false) (hi : i < 60) (hI : INV S K i) {h a u : Nat} (hh : h < 8) (h1 : 1 ≤ u) (h9 : u ≤ 999) {z : Nat} (hz : S 0 1 3 = nI z) (hz6 : z ≤ 64) (ha : a < z) :
    ∃ v S' K' n', Done S K n i v S' K' n' ∧ CtH l E yL_wish cL_wish 5 (some .int) [(0, 7, 8, 24), (0, 7, 13, 15)] 9 [.ref (ad E 11 0), .int (nI h), .int (nI a), .int (nI u)] (S, (K, (o, n))) (some (.int v)) (S', (K', (o, n'))) := by
  obtain ⟨t1, t2⟩ := term_ok h1 h9
  have hP := INV_PI hI
  obtain ⟨w3, w⟩ := PI_w hP (by omega : a < 64)
  have hok := okN_of hz hz6 ha
  by_cases hml : mayW (S 0) (nI h) a = true
  · have ct := w_wish (c4_wish l E S K (o, n) hh (by omega) hok t1 t2 w3 w (INV_SI hI) hml)
    refine ⟨_, _, _, n, ⟨Nat.le_refl _, Nat.le_succ _, do_wish hi hh ha hz hz6 h1 h9 hml hI, Or.inl ?_⟩, ct⟩
    split
    · exact nneg (by decide)
    · obtain ⟨x3, x⟩ := PI_w (PI_addW (t := nI u) (by omega : a < 64) hh hP) (by omega : a < 64)
      rw [x]
      exact nneg (by omega)
  · exact ⟨-3, S, K, n + 1, Done.no hI, w_wish_1 (t4_wish_s l hst E S K (o, n) hh (by omega) hok t1 t2 w3 w (Bool.eq_false_iff.mpr hml))⟩
theorem o_unwish (hst : l.stackTraces = false) (hI : INV S K i) {h a : Nat} (hh : h < 8) {z : Nat} (hz : S 0 1 3 = nI z) (hz6 : z ≤ 64) (ha : a < z) :
    ∃ v S' K' n', Done S K n i v S' K' n' ∧ CtH l E yL_unwish cL_unwish 4 (some .int) [(0, 6, 7, 15)] 9 [.ref (ad E 11 0), .int (nI h), .int (nI a)] (S, (K, (o, n))) (some (.int v)) (S', (K', (o, n'))) := by
  have hP := INV_PI hI
  obtain ⟨w3, w⟩ := PI_w hP (by omega : a < 64)
  have hok := okN_of hz hz6 ha
  cases hp : placeW (S 0) (nI h) a with
  | none => exact ⟨-3, S, K, n + 1, Done.no hI, w_unwish_0 (t4_unwish_s l hst E S K (o, n) hh (by omega) hok w3 w hp)⟩
  | some q =>
    have hq : q < toN (S 0 7 a) := by
      obtain ⟨-, x, -⟩ := fnd_lt hp
      omega
    have ct := w_unwish (c4_unwish l E S K (o, n) hh (by omega) hok w3 w (INV_SI hI) hq hp)
    refine ⟨_, _, _, n, ⟨Nat.le_refl _, Nat.le_succ _, do_drop (by omega) hq hI, Or.inl ?_⟩, ct⟩
    obtain ⟨x3, x⟩ := PI_w (PI_drop (by omega : a < 64) (by omega) hq hP) (by omega : a < 64)
    rw [x]
    exact nneg (by omega)
theorem o_renew (hst : l.stackTraces = false) (hi : i < 60) (hI : INV S K i) {h a u : Nat} (hh : h < 8) (h1 : 1 ≤ u) (h9 : u ≤ 999) {z : Nat} (hz : S 0 1 3 = nI z) (hz6 : z ≤ 64) (ha : a < z) :
    ∃ v S' K' n', Done S K n i v S' K' n' ∧ CtH l E yL_renew cL_renew 5 (some .int) [(0, 7, 8, 15)] 9 [.ref (ad E 11 0), .int (nI h), .int (nI a), .int (nI u)] (S, (K, (o, n))) (some (.int v)) (S', (K', (o, n'))) := by
  obtain ⟨t1, t2⟩ := term_ok h1 h9
  have hok := okN_of hz hz6 ha
  by_cases hml : (decide (S 0 2 a = nI h) && (decide (S 0 1 2 = 0) || decide (S 0 7 a = 0))) = true
  · have ct := w_renew (c4_renew l E S K (o, n) hh (by omega) hok t1 t2 (INV_SI hI) hml)
    have hf : S 0 2 a = nI h := by
      rw [Bool.and_eq_true] at hml
      exact of_decide_eq_true hml.1
    refine ⟨_, _, _, n, ⟨Nat.le_refl _, Nat.le_succ _, do_renew hi (by omega) hh h1 h9 hf hI, Or.inl ?_⟩, ct⟩
    obtain ⟨z', t, ht, hX⟩ := hI.1
    have hN := hX.2.2.1 a (by omega)
    rw [if_pos (by omega)] at hN
    rcases hN.2 with q | ⟨-, -, ⟨b', e, l, y1, y2, y3, y4, y5, y6, y7, y8⟩, -⟩
    · rw [q.1] at hf
      exact absurd hf.symm (nI_m1 (by omega))
    · rw [y2]
      exact nneg (by omega)
  · exact ⟨-3, S, K, n + 1, Done.no hI, w_renew_0 (t4_renew_s l hst E S K (o, n) hh (by omega) hok t1 t2 (Bool.eq_false_iff.mpr hml))⟩
theorem o_back (hi : i < 60) (hI : INV S K i) {h a b : Nat} (hh : h < 8) {z : Nat} (hz : S 0 1 3 = nI z) (hz6 : z ≤ 64) (hab : a ≤ b) (hb : b < z) :
    ∃ v S' K', Done S K n i v S' K' n ∧ Ct l E yX4_giveBack cX4_giveBack 4 (some .int) 7 [.ref (ad E 11 0), .int (nI h), .int (nI a), .int (nI b)] (S, (K, (o, n))) (some (.int v)) (S', (K', (o, n))) := by
  have ct := c4_giveBack l E S K (o, n) hh (by omega : b < 64) (okN_of hz hz6 (by omega : a < z)) (okN_of hz hz6 hb) (by omega) (INV_PI hI) (INV_SI hI) hab
  refine ⟨_, _, _, ⟨Nat.le_refl _, Nat.le_succ _, do_back hi hh (by omega) hI, Or.inl ?_⟩, ct⟩
  have := spanN_le (nI h) (b + 1 - a) a (S 0, 0)
  have this : _ ≤ 0 + (b + 1 - a) := this
  exact nneg (by omega)
theorem o_pass (hi : i < 60) (hI : INV S K i) {b : Nat} (h1 : 1 ≤ b) (h9 : b ≤ 12) :
    ∃ v S' K', Done S K n i v S' K' n ∧ Ct l E yX4_pass cX4_pass 2 (some .int) 7 [.ref (ad E 11 0), .int (nI b)] (S, (K, (o, n))) (some (.int v)) (S', (K', (o, n))) := by
  obtain ⟨z', t, ht, hX⟩ := id hI.1
  have ct := c4_pass l E S K (o, n) h1 (by omega) hX.1 (INV_SI hI) (by
    rw [hX.2.1.1, nI_add, decide_eq_false (nI_nlt (by omega) (by omega))]
    rfl)
  refine ⟨_, _, _, ⟨Nat.le_refl _, Nat.le_succ _, do_pass hi h9 hI, Or.inl ?_⟩, ct⟩
  obtain ⟨x, x1, x2⟩ := r03_pass b (S 0)
  rw [x2, show S 0 0 3 + nI x - S 0 0 3 = nI x by grind]
  exact nneg (by omega)
theorem o_set (hst : l.stackTraces = false) (hI : INV S K i) {q r : Nat} (hq : q < 3) (hr : r ≤ 64) :
    ∃ v S' K' n', Done S K n i v S' K' n' ∧ CtH l E yL_set cL_set 4 (some .int) [(0, 6, 7, 35), (0, 6, 11, 15)] 9 [.ref (ad E 11 0), .int (nI q), .int (nI r)] (S, (K, (o, n))) (some (.int v)) (S', (K', (o, n'))) := by
  by_cases h : nI r < lsS q ∨ ¬ nI r ≤ msS q
  · exact ⟨-2, S, K, n + 1, Done.no hI, w_set_0 (t4_set_v l hst E S K (o, n) (by omega) h)⟩
  · have ct := w_set (c4_set l E S K (o, n) (q := q) (by omega) (v := nI r) (fun x => h (Or.inl x)) (Decidable.not_not.mp (fun x => h (Or.inr x))) (INV_SI hI) (fun x => by omega))
    refine ⟨_, _, _, n, ⟨Nat.le_refl _, Nat.le_succ _, do_set hq ⟨r, hr, rfl⟩ hI, Or.inl ?_⟩, ct⟩
    obtain ⟨z', t, ht, hX⟩ := hI.1
    obtain ⟨g, g1, g2⟩ := hX.2.1.2.2 q hq
    rw [g2]
    exact nneg (by omega)
theorem o_undo (hst : l.stackTraces = false) (hI : INV S K i) :
    ∃ v S' K' n', Done S K n i v S' K' n' ∧ CtH l E yL_undo cL_undo 2 (some .int) [(0, 4, 5, 15)] 9 [.ref (ad E 11 0)] (S, (K, (o, n))) (some (.int v)) (S', (K', (o, n'))) := by
  obtain ⟨-, hK, m, hm, h9, -⟩ := id hI
  rcases Nat.eq_zero_or_pos m with q | q
  · subst q
    exact ⟨-3, S, K, n + 1, Done.no hI, w_undo_0 (t4_undo l hst E S K (o, n) h9)⟩
  · exact ⟨_, _, _, n, ⟨Nat.le_refl _, Nat.le_succ _, INV_mono (by omega) (INV_undo hI hm h9 q), Or.inl (nneg (by omega))⟩, w_undo (c4_undo l E S K (o, n) hK hm h9 q)⟩
/-- the first two settings, over a pool of free numbers -/
theorem o_size (hI : INV S K i) {r : Nat} (h4 : 4 ≤ r) (h6 : r ≤ 64) (hf : ∀ n, n < 64 → S 0 2 n = -1) :
    INV (setO (kpS S K) 0 (put (S 0) 1 3 (nI r))) (kpK S K) (i + 1) ∧ CtH l E yL_set cL_set 4 (some .int) [(0, 6, 7, 35), (0, 6, 11, 15)] 9 [.ref (ad E 11 0), .int (nI 3), .int (nI r)] (S, (K, (o, n))) (some (.int (S 0 1 3))) (setO (kpS S K) 0 (put (S 0) 1 3 (nI r)), (kpK S K, (o, n))) := by
  refine ⟨do_size h4 h6 hf hI, w_set (c4_set l E S K (o, n) (q := 3) (by decide) (v := nI r) (nI_nlt h4 (by omega)) (nI_le h6 (by decide)) (INV_SI hI) (fun _ => ⟨r, h6, rfl, ?_⟩))⟩
  cases hq : fnd (fun n => !frP (S 0) n) (64 - r) r with
  | none => rfl
  | some f =>
    obtain ⟨a, b, c⟩ := fnd_lt hq
    rw [frP_t (hf f (by omega))] at c
    cases c
end OPS
