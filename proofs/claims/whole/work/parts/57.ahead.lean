/-! WHAT WOULD BE: leaps of the class are ticks of the model -/
def wU (P : jO) (f : Nat → Int32) : jO := putA P 12 f
theorem wU_ne {P : jO} {f : Nat → Int32} {j : Nat} (h : j ≠ 12) : wU P f j = P j := putA_ne h
theorem put_U {P : jO} {f : Nat → Int32} {j i : Nat} {v : Int32} (h : j ≠ 12) : put (wU P f) j i v = wU (put P j i v) f := by
  funext a b
  unfold wU
  rw [put_app]
  by_cases ha : a = 12
  · rw [if_neg (by omega), ha, putA_at, putA_at]
  · rw [putA_ne ha, putA_ne ha, put_app]
theorem lease_U (P : jO) (f : Nat → Int32) (h n : Nat) (t : Int32) : leaseP (wU P f) h n t = wU (leaseP P h n t) f := by
  unfold leaseP
  simp only [put_U (show (2 : Nat) ≠ 12 by decide), put_U (show (3 : Nat) ≠ 12 by decide), put_U (show (4 : Nat) ≠ 12 by decide), put_U (show (5 : Nat) ≠ 12 by decide), put_U (show (6 : Nat) ≠ 12 by decide), put_U (show (10 : Nat) ≠ 12 by decide),
    wU_ne (show (0 : Nat) ≠ 12 by decide), wU_ne (show (1 : Nat) ≠ 12 by decide), wU_ne (show (4 : Nat) ≠ 12 by decide), wU_ne (show (6 : Nat) ≠ 12 by decide), wU_ne (show (10 : Nat) ≠ 12 by decide)]
theorem shift_U (n : Nat) (f : Nat → Int32) : ∀ (c i : Nat) (P : jO), shiftP n c i (wU P f) = wU (shiftP n c i P) f
  | 0, _, _ => rfl
  | c + 1, i, P => by
    rw [shiftP, shiftP, ← shift_U n f c (i + 1)]
    simp only [put_U (show (8 : Nat) ≠ 12 by decide), put_U (show (9 : Nat) ≠ 12 by decide), wU_ne (show (8 : Nat) ≠ 12 by decide), wU_ne (show (9 : Nat) ≠ 12 by decide)]
theorem drop_U (P : jO) (f : Nat → Int32) (n k : Nat) : dropP (wU P f) n k = wU (dropP P n k) f := by
  unfold dropP
  simp only [wU_ne (show (7 : Nat) ≠ 12 by decide), shift_U, put_U (show (7 : Nat) ≠ 12 by decide)]
theorem has_U (P : jO) (f : Nat → Int32) (h : Int32) : hasP (wU P f) h = hasP P h := by
  unfold hasP
  rw [wU_ne (by decide)]
theorem serveS_U (P : jO) (f : Nat → Int32) (n : Nat) : serveS (wU P f) n = wU (serveS P n) f := by
  unfold serveS
  simp only [wU_ne (show (8 : Nat) ≠ 12 by decide), wU_ne (show (9 : Nat) ≠ 12 by decide), drop_U, has_U, wU_ne (show (1 : Nat) ≠ 12 by decide)]
  split
  · exact lease_U _ _ _ _ _
  · rw [wU_ne (by decide), put_U (by decide)]
theorem serve_U (n : Nat) (f : Nat → Int32) : ∀ (k : Nat) (P : jO), serve n k (wU P f) = wU (serve n k P) f
  | 0, _ => rfl
  | k + 1, P => by
    rw [serve, serve, wU_ne (by decide), wU_ne (by decide)]
    split
    · rw [serveS_U, serve_U n f k]
    · rfl
theorem free_U (P : jO) (f : Nat → Int32) (n : Nat) : freeP (wU P f) n = wU (freeP P n) f := by
  unfold freeP
  simp only [put_U (show (2 : Nat) ≠ 12 by decide), wU_ne (show (0 : Nat) ≠ 12 by decide), put_U (show (0 : Nat) ≠ 12 by decide), serve_U]
theorem due_U (f : Nat → Int32) : ∀ (k n : Nat) (P : jO), dueN k n (wU P f) = wU (dueN k n P) f
  | 0, _, _ => rfl
  | k + 1, n, P => by
    rw [dueN, dueN, wU_ne (show (2 : Nat) ≠ 12 by decide), wU_ne (show (5 : Nat) ≠ 12 by decide), wU_ne (show (0 : Nat) ≠ 12 by decide)]
    split
    · rw [free_U, due_U f k]
    · rw [due_U f k]
theorem units_U : ∀ (k n : Nat) (P : jO), ∃ f, unitsN k n P = wU P f
  | 0, _, P => ⟨P 12, (putA_self P 12).symm⟩
  | k + 1, n, P => by
    rw [unitsN]
    split
    · obtain ⟨f, e⟩ := units_U k (n + 1) (put P 12 (toN (P 2 n)) (P 12 (toN (P 2 n)) + nI 1))
      refine ⟨f, ?_⟩
      rw [e]
      unfold wU put
      rw [putA_two]
    · exact units_U k (n + 1) P
/-- a unit of time, units not counted -/
def tock (P : jO) : jO := dueN 64 0 (put P 0 0 (P 0 0 + nI 1))
def tockN : Nat → jO → jO
  | 0, P => P
  | k + 1, P => tockN k (tock P)
theorem tick_U (P : jO) : ∃ f, tickP P = wU (tock P) f := by
  obtain ⟨f, e⟩ := units_U 64 0 P
  refine ⟨f, ?_⟩
  unfold tickP tock
  simp only
  rw [e, wU_ne (by decide), put_U (by decide), due_U]
theorem tock_U (P : jO) (f : Nat → Int32) : tock (wU P f) = wU (tock P) f := by
  unfold tock
  rw [wU_ne (by decide), put_U (by decide), due_U]
theorem tockN_add : ∀ (a b : Nat) (P : jO), tockN (a + b) P = tockN b (tockN a P)
  | 0, b, P => by rw [Nat.zero_add]; rfl
  | a + 1, b, P => by rw [show a + 1 + b = (a + b) + 1 by omega, tockN, tockN_add a b, tockN]
/-- a row of the model for any pool -/
def rowOf (P : jO) (q : Nat) : Int32 :=
  if q = 0 then P 0 0 else if q < 5 then P 1 (q - 1) else if q < 8 then P 0 (q - 4) else if q < 16 then P 10 (q - 8) else if q < 24 then P 11 (q - 16) else if q < 32 then P 12 (q - 24)
  else if (q - 32) % 12 < 6 then P ((q - 32) % 12 + 2) ((q - 32) / 12) else P (8 + (q - 32) % 2) ((q - 32) / 12 * 3 + ((q - 32) % 12 - 6) / 2)
theorem CP_rowOf (P : jO) : CP P (rowOf P) := by
  intro j i ⟨hd, _⟩
  have a := pos_cl hd
  unfold rowOf
  rcases a with a | a | a | a | a | a
  · rw [a.2.2, a.1, a.2.1, if_pos rfl]
  · rw [a.2.2.2, if_neg (by omega), if_neg (by omega), if_pos (by omega), a.1, show 4 + i - 4 = i by omega]
  · rw [a.2.2, if_neg (by omega), if_pos (by omega), a.1, show 1 + i - 1 = i by omega]
  · rw [a.2.2.2, if_neg (by omega), if_neg (by omega), if_neg (by omega), if_neg (by omega), if_neg (by omega), if_neg (by omega), if_pos (by omega), show (32 + 12 * i + (j - 2) - 32) % 12 + 2 = j by omega, show (32 + 12 * i + (j - 2) - 32) / 12 = i by omega]
  · rw [a.2.2.2, if_neg (by omega), if_neg (by omega), if_neg (by omega), if_neg (by omega), if_neg (by omega), if_neg (by omega), if_neg (by omega), show 8 + (32 + 12 * (i / 3) + 6 + 2 * (i % 3) + (j - 8) - 32) % 2 = j by omega,
      show (32 + 12 * (i / 3) + 6 + 2 * (i % 3) + (j - 8) - 32) / 12 * 3 + ((32 + 12 * (i / 3) + 6 + 2 * (i % 3) + (j - 8) - 32) % 12 - 6) / 2 = i by omega]
  · rw [a.2.2.2]
    rcases (by omega : j = 10 ∨ j = 11 ∨ j = 12) with h | h | h <;> subst h
    · rw [if_neg (by omega), if_neg (by omega), if_neg (by omega), if_pos (by omega), show 8 * (10 - 9) + i - 8 = i by omega]
    · rw [if_neg (by omega), if_neg (by omega), if_neg (by omega), if_neg (by omega), if_pos (by omega), show 8 * (11 - 9) + i - 16 = i by omega]
    · rw [if_neg (by omega), if_neg (by omega), if_neg (by omega), if_neg (by omega), if_neg (by omega), if_pos (by omega), show 8 * (12 - 9) + i - 24 = i by omega]
theorem tock_V {P : jO} {z t : Nat} (ht : t < 20000) (hV : V P z t 64) : V (tock P) z (t + 1) 64 := by
  have e : P 0 0 + nI 1 = nI (t + 1) := by rw [hV.2.1.1, nI_add]
  unfold tock
  rw [e]
  exact (due_64 (by omega) (CP_rowOf _) (V_next (by omega) hV)).2
theorem due_still : ∀ (k n : Nat) (P : jO), (∀ i, n ≤ i → i < n + k → ¬ P 2 i = -1 → ¬ P 5 i = P 0 0) → dueN k n P = P
  | 0, _, _, _ => rfl
  | k + 1, n, P, h => by
    rw [dueN, if_neg (fun q => h n (by omega) (by omega) q.1 q.2)]
    exact due_still k (n + 1) P (fun i a b => h i (by omega) (by omega))
/-- no number that is not free becomes free ahead of w -/
def Lat (P : jO) (w : Nat) : Prop := ∀ n, n < 64 → ¬ P 2 n = -1 → ∃ l, P 5 n = nI l ∧ w ≤ l ∧ l < 2 ^ 30
theorem put00 (P : jO) (v w : Int32) : put (put P 0 0 v) 0 0 w = put P 0 0 w := by
  funext a b
  rw [put_app, put_app, put_app]
  split <;> rfl
theorem put00s {P : jO} {v : Int32} (h : P 0 0 = v) : put P 0 0 v = P := by
  rw [← h]
  exact put_self P 0
theorem tock_still {P : jO} {t : Nat} (ht : t < 20000) (h0 : P 0 0 = nI t) (hl : Lat P (t + 2)) : tock P = put P 0 0 (nI (t + 1)) := by
  unfold tock
  rw [h0, nI_add]
  refine due_still 64 0 _ (fun i _ b hf => ?_)
  rw [put_ne (by decide)] at hf
  rw [put_ne (by decide), put_at, if_pos rfl]
  obtain ⟨l, a1, a2, a3⟩ := hl i (by omega) hf
  rw [a1]
  exact fun q => absurd ((nI_eq (by omega) (by omega)).mp q) (by omega)
theorem Lat_put {P : jO} {w : Nat} {v : Int32} (h : Lat P w) : Lat (put P 0 0 v) w := by
  intro n hn hf
  rw [put_ne (by decide)] at hf
  rw [put_ne (by decide)]
  exact h n hn hf
theorem tockN_still : ∀ (k t : Nat) (P : jO), t + k < 20000 → P 0 0 = nI t → Lat P (t + k + 1) → tockN k P = put P 0 0 (nI (t + k))
  | 0, t, P, _, h0, _ => by rw [tockN, Nat.add_zero, put00s h0]
  | k + 1, t, P, ht, h0, hl => by
    have hl2 : Lat P (t + 2) := fun n hn hf => by
      obtain ⟨l, a1, a2, a3⟩ := hl n hn hf
      exact ⟨l, a1, by omega, a3⟩
    rw [tockN, tock_still (by omega) h0 hl2, tockN_still k (t + 1) _ (by omega) (by rw [put_at, if_pos rfl]) (Lat_put (by rwa [show t + 1 + k + 1 = t + (k + 1) + 1 by omega])), put00, show t + 1 + k = t + (k + 1) by omega]
theorem next_all {P : jO} {t : Nat} (hl : Lat P t) : ∀ (k n v : Nat), n + k ≤ 64 → v < 2 ^ 30 →
    ∃ w, nextN P k n (nI v) = nI w ∧ w ≤ v ∧ (∀ i, n ≤ i → i < n + k → ¬ P 2 i = -1 → ∃ l, P 5 i = nI l ∧ w ≤ l ∧ l < 2 ^ 30) ∧ (w = v ∨ ∃ i, n ≤ i ∧ i < n + k ∧ ¬ P 2 i = -1 ∧ P 5 i = nI w)
  | 0, n, v, _, _ => ⟨v, rfl, Nat.le_refl _, fun i a b => by omega, Or.inl rfl⟩
  | k + 1, n, v, hk, hv => by
    rw [nextN]
    by_cases hf : P 2 n = -1
    · rw [if_neg (fun q => q.1 hf)]
      obtain ⟨w, e, a, b, c⟩ := next_all hl k (n + 1) v (by omega) hv
      refine ⟨w, e, a, fun i h1 h2 h3 => ?_, ?_⟩
      · by_cases hin : i = n
        · rw [hin] at h3
          exact absurd hf h3
        · exact b i (by omega) (by omega) h3
      · rcases c with c | ⟨i, c1, c2, c3⟩
        · exact Or.inl c
        · exact Or.inr ⟨i, by omega, by omega, c3⟩
    · obtain ⟨l, l1, l2, l3⟩ := hl n (by omega) hf
      by_cases hc : l < v
      · rw [if_pos ⟨hf, by rw [l1]; exact nI_lt hc (by omega)⟩, l1]
        obtain ⟨w, e, a, b, c⟩ := next_all hl k (n + 1) l (by omega) (by omega)
        refine ⟨w, e, by omega, fun i h1 h2 h3 => ?_, ?_⟩
        · by_cases hin : i = n
          · rw [hin]
            exact ⟨l, l1, a, l3⟩
          · exact b i (by omega) (by omega) h3
        · rcases c with c | ⟨i, c1, c2, c3⟩
          · exact Or.inr ⟨n, by omega, by omega, hf, by rw [l1, c]⟩
          · exact Or.inr ⟨i, by omega, by omega, c3⟩
      · rw [if_neg (fun q => by rw [l1] at q; exact hc ((nI_ltI (by omega) (by omega)).mp q.2))]
        obtain ⟨w, e, a, b, c⟩ := next_all hl k (n + 1) v (by omega) hv
        refine ⟨w, e, a, fun i h1 h2 h3 => ?_, ?_⟩
        · by_cases hin : i = n
          · rw [hin]
            exact ⟨l, l1, by omega, l3⟩
          · exact b i (by omega) (by omega) h3
        · rcases c with c | ⟨i, c1, c2, c3⟩
          · exact Or.inl c
          · exact Or.inr ⟨i, by omega, by omega, c3⟩
theorem V_lat {P : jO} {z t : Nat} (ht : t ≤ 20000) (hV : V P z t 64) : Lat P (t + 1) := by
  intro n hn hf
  obtain ⟨⟨e, l, d1, d2, d3, d4, d5⟩, -⟩ := (hV.2.2 n hn).2.2 hf
  rw [if_pos hn] at d3
  exact ⟨l, d2, d3, by omega⟩
/-- the leap: none up to U, or to w -/
theorem leap_all {P : jO} {z t U : Nat} (hV : V P z t 64) (htU : t ≤ U) (hU : U < 20000) :
    (nI U < leapV P (nI U) ∧ Lat P (U + 1)) ∨ (¬ nI U < leapV P (nI U) ∧ ∃ w, t < w ∧ w ≤ U ∧ Lat P w ∧ leapP P (nI U) = tockN (w - t) P ∧ leapP P (nI U) 0 0 = nI w ∧ V (leapP P (nI U)) z w 64) := by
  have hl := V_lat (by omega) hV
  obtain ⟨w, e, a, b, c⟩ := next_all hl 64 0 (U + 1) (by omega) (by omega)
  have ev : leapV P (nI U) = nI w := by unfold leapV; rw [nI_add]; exact e
  have hL : Lat P w := fun n hn hf => b n (by omega) (by omega) hf
  by_cases hw : U < w
  · left
    rw [ev]
    refine ⟨nI_lt hw (by omega), ?_⟩
    rwa [show U + 1 = w by omega]
  · right
    have hn : ¬ nI U < leapV P (nI U) := by rw [ev]; exact nI_nlt (by omega) (by omega)
    refine ⟨hn, w, ?_, by omega, hL, ?_⟩
    · rcases c with c | ⟨i, c1, c2, c3, c4⟩
      · omega
      · obtain ⟨l, l1, l2, l3⟩ := hl i (by omega) c3
        rw [c4] at l1
        have := (nI_eq (by omega) (by omega)).mp l1
        omega
    · have htw : t < w := by
        rcases c with c | ⟨i, c1, c2, c3, c4⟩
        · omega
        · obtain ⟨l, l1, l2, l3⟩ := hl i (by omega) c3
          rw [c4] at l1
          have := (nI_eq (by omega) (by omega)).mp l1
          omega
      have e1 : leapP P (nI U) = dueN 64 0 (put P 0 0 (nI w)) := by unfold leapP; rw [if_neg hn, ev]
      have e2 : leapP P (nI U) = tockN (w - t) P := by
        obtain ⟨k, rfl⟩ : ∃ k, w = t + k + 1 := ⟨w - t - 1, by omega⟩
        rw [e1, show t + k + 1 - t = k + 1 by omega, tockN_add k 1 P, tockN_still k t P (by omega) hV.2.1.1 hL, tockN, tockN]
        unfold tock
        rw [put00, put_at, if_pos rfl, nI_add]
      have hVt : ∀ (k t : Nat) (P : jO), t + k ≤ 20000 → V P z t 64 → V (tockN k P) z (t + k) 64 := by
        intro k
        induction k with
        | zero => intro t P _ h; exact h
        | succ k ih =>
          intro t P h1 h2
          have := ih (t + 1) (tock P) (by omega) (tock_V (by omega) h2)
          rwa [show t + 1 + k = t + (k + 1) by omega] at this
      have hV2 : V (leapP P (nI U)) z w 64 := by
        rw [e2]
        have := hVt (w - t) t P (by omega) hV
        rwa [show t + (w - t) = w by omega] at this
      exact ⟨e2, hV2.2.1.1, hV2⟩
theorem leapN_all {z U : Nat} (hU : U < 20000) : ∀ (k t : Nat) (P : jO), V P z t 64 → t ≤ U → U - t ≤ k → ∃ t' , leapN (nI U) k P 2 = tockN (U - t) P 2 ∧ V (leapN (nI U) k P) z t' 64
  | 0, t, P, hV, h1, h2 => by
    refine ⟨t, ?_, hV⟩
    rw [show U - t = 0 by omega]
    rfl
  | k + 1, t, P, hV, h1, h2 => by
    rw [leapN]
    rcases leap_all hV h1 hU with ⟨a, b⟩ | ⟨a, w, b1, b2, b3, b4, b5, b6⟩
    · rw [if_pos a]
      refine ⟨t, ?_, hV⟩
      rw [tockN_still (U - t) t P (by omega) hV.2.1.1 (by rwa [show t + (U - t) + 1 = U + 1 by omega]), put_ne (by decide)]
    · rw [if_neg a]
      obtain ⟨t', c1, c2⟩ := leapN_all hU k w _ b6 b2 (by omega)
      refine ⟨t', ?_, c2⟩
      rw [c1, b4, ← tockN_add, show w - t + (U - w) = U - t by omega]
/-! leaps up to where a thing c holds: ticks, one by one -/
def gL (c : jO → Bool) (u t0 : Int32) : Nat → jO → Int32
  | 0, _ => -1
  | k + 1, P => if u < leapV P u then -1 else if c (leapP P u) = true then leapP P u 0 0 - t0 else gL c u t0 k (leapP P u)
def gT (c : jO → Bool) : Nat → Nat → jO → Int32
  | 0, i, P => if c P = true then nI i else -1
  | k + 1, i, P => if c P = true then nI i else gT c k (i + 1) (tock P)
theorem gT_far {c : jO → Bool} (hc : ∀ P v, c (put P 0 0 v) = c P) : ∀ (a b i t : Nat) (P : jO), t + a < 20000 → P 0 0 = nI t → Lat P (t + a) → c P = false → 0 < a → gT c (a + b) i P = gT c b (i + a) (tockN a P)
  | 0, b, i, t, P, _, _, _, _, h0 => by omega
  | a + 1, b, i, t, P, h1, h2, h3, h4, _ => by
    rw [show a + 1 + b = (a + b) + 1 by omega, gT, h4, if_neg (by decide), tockN]
    rcases Nat.eq_zero_or_pos a with q | q
    · subst q
      rw [Nat.zero_add]
      rfl
    · have hl2 : Lat P (t + 2) := fun n hn hf => by
        obtain ⟨l, a1, a2, a3⟩ := h3 n hn hf
        exact ⟨l, a1, by omega, a3⟩
      rw [tock_still (by omega) h2 hl2, gT_far hc a b (i + 1) (t + 1) _ (by omega) (by rw [put_at, if_pos rfl]) (Lat_put (by rwa [show t + 1 + a = t + (a + 1) by omega])) (by rw [hc]; exact h4) q, show i + 1 + a = i + (a + 1) by omega]
theorem gT_never {c : jO → Bool} (hc : ∀ P v, c (put P 0 0 v) = c P) : ∀ (k i t : Nat) (P : jO), t + k < 20000 → P 0 0 = nI t → Lat P (t + k + 1) → c P = false → gT c k i P = -1
  | 0, i, t, P, _, _, _, h => by rw [gT, h, if_neg (by decide)]
  | k + 1, i, t, P, h1, h2, h3, h4 => by
    have hl2 : Lat P (t + 2) := fun n hn hf => by
      obtain ⟨l, a1, a2, a3⟩ := h3 n hn hf
      exact ⟨l, a1, by omega, a3⟩
    rw [gT, h4, if_neg (by decide), tock_still (by omega) h2 hl2]
    exact gT_never hc k (i + 1) (t + 1) _ (by omega) (by rw [put_at, if_pos rfl]) (Lat_put (by rwa [show t + 1 + k + 1 = t + (k + 1) + 1 by omega])) (by rw [hc]; exact h4)
theorem gL_all {z U t0 : Nat} {c : jO → Bool} (hc : ∀ P v, c (put P 0 0 v) = c P) (hU : U < 20000) : ∀ (k t : Nat) (P : jO), V P z t 64 → t ≤ U → t0 ≤ t → U - t ≤ k → c P = false →
    gL c (nI U) (nI t0) k P = gT c (U - t) (t - t0) P
  | 0, t, P, hV, h1, _, h2, h3 => by
    rw [show U - t = 0 by omega, gT, h3]
    rfl
  | k + 1, t, P, hV, h1, h0, h2, h3 => by
    rw [gL]
    rcases leap_all hV h1 hU with ⟨a, b⟩ | ⟨a, w, b1, b2, b3, b4, b5, b6⟩
    · rw [if_pos a]
      exact (gT_never hc (U - t) (t - t0) t P (by omega) hV.2.1.1 (by rwa [show t + (U - t) + 1 = U + 1 by omega]) h3).symm
    · have e := gT_far hc (w - t) (U - w) (t - t0) t P (by omega) hV.2.1.1 (by rwa [show t + (w - t) = w by omega]) h3 (by omega)
      rw [show w - t + (U - w) = U - t by omega, ← b4, show t - t0 + (w - t) = w - t0 by omega] at e
      rw [if_neg a, e]
      by_cases hq : c (leapP P (nI U)) = true
      · rw [if_pos hq, b5, pk_sub (by omega)]
        cases U - w with
        | zero => rw [gT, if_pos hq]
        | succ q => rw [gT, if_pos hq]
      · rw [if_neg hq]
        exact gL_all hc hU k w _ b6 b2 (by omega) (by omega) (Bool.eq_false_iff.mpr hq)
