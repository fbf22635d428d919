/-! counting -/
theorem cnt_congr {p q : Nat → Bool} : ∀ {z : Nat}, (∀ n, n < z → p n = q n) → cnt p z = cnt q z
  | 0, _ => rfl
  | z + 1, h => by rw [cnt, cnt, cnt_congr (fun n hn => h n (by omega)), h z (by omega)]
theorem cnt_tail {p : Nat → Bool} {z : Nat} : ∀ (k : Nat), (∀ n, z ≤ n → n < z + k → p n = false) → cnt p (z + k) = cnt p z
  | 0, _ => rfl
  | k + 1, h => by
    rw [show z + (k + 1) = (z + k) + 1 from rfl, cnt, cnt_tail k (fun n h1 h2 => h n h1 (by omega)), h (z + k) (by omega) (by omega)]
    rfl
theorem cnt_64 {p : Nat → Bool} {z : Nat} (hz : z ≤ 64) (h : ∀ n, z ≤ n → n < 64 → p n = false) : cnt p 64 = cnt p z := by
  have e := cnt_tail (p := p) (64 - z) (fun n h1 h2 => h n h1 (by omega))
  rwa [show z + (64 - z) = 64 by omega] at e
/-! what holds of the class's pool: z its size, t its time -/
def VH (P : jO) (z t : Nat) : Prop := P 0 0 = nI t ∧ (P 1 3 = nI z ∧ 4 ≤ z ∧ z ≤ 64) ∧ (∃ g, g ≤ 50 ∧ P 1 0 = nI g) ∧ (∃ m, 1 ≤ m ∧ m ≤ 64 ∧ P 1 1 = nI m) ∧ ∃ b, b ≤ 1 ∧ P 1 2 = nI b
def VO (P : jO) (t d n : Nat) : Prop := ∃ e l, P 4 n = nI e ∧ P 5 n = nI l ∧ t + d ≤ l ∧ e ≤ l ∧ l ≤ t + 1049
def VT (P : jO) (n : Nat) : Prop := ∀ k, k < toN (P 7 n) → k < 3 → ∃ u, 1 ≤ u ∧ u ≤ 999 ∧ P 9 (n * 3 + k) = nI u
def VL (P : jO) (z t d n : Nat) : Prop := (P 2 n = -1 → P 7 n = nI 0) ∧ VT P n ∧ (¬ P 2 n = -1 → VO P t d n ∧ n < z)
/-- numbers below m have been looked at -/
def V (P : jO) (z t m : Nat) : Prop := PI P ∧ VH P z t ∧ ∀ n, n < 64 → VL P z t (if n < m then 1 else 0) n
def OFF (n : Nat) (P P' : jO) : Prop := P' 0 0 = P 0 0 ∧ P' 1 = P 1 ∧ (∀ i, i ≠ n → P' 2 i = P 2 i ∧ P' 4 i = P 4 i ∧ P' 5 i = P 5 i ∧ P' 7 i = P 7 i) ∧ ∀ i, i / 3 ≠ n → P' 9 i = P 9 i
theorem OFF.rf (n : Nat) (P : jO) : OFF n P P := ⟨rfl, rfl, fun _ _ => ⟨rfl, rfl, rfl, rfl⟩, fun _ _ => rfl⟩
theorem OFF.tr {n : Nat} {P P' P'' : jO} (h : OFF n P P') (h' : OFF n P' P'') : OFF n P P'' := by
  obtain ⟨a, b, c, d⟩ := h
  obtain ⟨a', b', c', d'⟩ := h'
  refine ⟨a'.trans a, b'.trans b, fun i hi => ?_, fun i hi => (d' i hi).trans (d i hi)⟩
  obtain ⟨c1, c2, c3, c4⟩ := c i hi
  obtain ⟨e1, e2, e3, e4⟩ := c' i hi
  exact ⟨e1.trans c1, e2.trans c2, e3.trans c3, e4.trans c4⟩
theorem OFF_put {n j i : Nat} {P : jO} {v : Int32} (h0 : j = 0 → i ≠ 0) (h1 : j ≠ 1) (h2 : j = 2 ∨ j = 4 ∨ j = 5 ∨ j = 7 → i = n) (h9 : j = 9 → i / 3 = n) : OFF n P (put P j i v) := by
  refine ⟨?_, by rw [put_ne (Ne.symm h1)], fun q hq => ⟨?_, ?_, ?_, ?_⟩, fun q hq => ?_⟩
  all_goals rw [put_app, if_neg]
  all_goals rintro ⟨a, b⟩
  · exact h0 a.symm b.symm
  · exact hq (b.trans (h2 (by omega)))
  · exact hq (b.trans (h2 (by omega)))
  · exact hq (b.trans (h2 (by omega)))
  · exact hq (b.trans (h2 (by omega)))
  · exact hq (by rw [b]; exact h9 a.symm)
theorem OFF_lease (P : jO) (h n : Nat) (u : Int32) : OFF n P (leaseP P h n u) := by
  unfold leaseP
  refine OFF.tr ?_ (OFF_put (by omega) (by omega) (by omega) (by omega))
  refine OFF.tr ?_ (OFF_put (by omega) (by omega) (by omega) (by omega))
  refine OFF.tr ?_ (OFF_put (by omega) (by omega) (by omega) (by omega))
  refine OFF.tr ?_ (OFF_put (by omega) (by omega) (by omega) (by omega))
  refine OFF.tr ?_ (OFF_put (by omega) (by omega) (by omega) (by omega))
  exact OFF_put (by omega) (by omega) (by omega) (by omega)
theorem drop_7 (P : jO) (n k i : Nat) : dropP P n k 7 i = if i = n then P 7 n - nI 1 else P 7 i := by
  unfold dropP
  rw [put_at, shiftP_ne _ _ _ _ _ (by decide) (by decide)]
theorem drop_ne {P : jO} {n k j : Nat} (a : j ≠ 7) (b : j ≠ 8) (c : j ≠ 9) : dropP P n k j = P j := by
  unfold dropP
  rw [put_ne a, shiftP_ne _ _ _ _ _ b c]
theorem drop_9 (P : jO) (n k q : Nat) : dropP P n k 9 q = if n * 3 + k ≤ q ∧ q < n * 3 + k + (toN (P 7 n) - 1 - k) then P 9 (q + 1) else P 9 q := by
  unfold dropP
  rw [put_ne (by decide), shiftP_9]
theorem drop_8 (P : jO) (n k q : Nat) : dropP P n k 8 q = if n * 3 + k ≤ q ∧ q < n * 3 + k + (toN (P 7 n) - 1 - k) then P 8 (q + 1) else P 8 q := by
  unfold dropP
  rw [put_ne (by decide), shiftP_8]
theorem OFF_drop {P : jO} {n k : Nat} (h3 : toN (P 7 n) ≤ 3) : OFF n P (dropP P n k) := by
  refine ⟨by rw [drop_ne (by decide) (by decide) (by decide)], drop_ne (by decide) (by decide) (by decide), fun i hi => ⟨by rw [drop_ne (by decide) (by decide) (by decide)], by rw [drop_ne (by decide) (by decide) (by decide)], by rw [drop_ne (by decide) (by decide) (by decide)], by rw [drop_7, if_neg hi]⟩, fun i hi => ?_⟩
  rw [drop_9, if_neg (by omega)]
theorem VH_off {n z t : Nat} {P P' : jO} (h : OFF n P P') (hV : VH P z t) : VH P' z t := by
  obtain ⟨a, b, -, -⟩ := h
  unfold VH
  rw [a, b]
  exact hV
theorem VL_off {n z t d i : Nat} {P P' : jO} (h : OFF n P P') (hi : i ≠ n) (hV : VL P z t d i) : VL P' z t d i := by
  obtain ⟨-, -, c, d⟩ := h
  obtain ⟨c1, c2, c3, c4⟩ := c i hi
  obtain ⟨v1, v2, v3⟩ := hV
  refine ⟨by rw [c1, c4]; exact v1, fun k hk h3 => ?_, fun hf => ?_⟩
  · rw [c4] at hk
    rw [d (i * 3 + k) (by omega)]
    exact v2 k hk h3
  · rw [c1] at hf
    unfold VO
    rw [c2, c3]
    exact v3 hf
theorem VT_drop {P : jO} {n k : Nat} (he : P 7 n = nI (toN (P 7 n))) (h3 : toN (P 7 n) ≤ 3) (hk : k < toN (P 7 n)) (h : VT P n) : VT (dropP P n k) n := by
  intro q hq hq3
  rw [drop_7, if_pos rfl, he, pk_sub (by omega), toN_nI (by omega)] at hq
  rw [drop_9]
  split
  · rename_i a
    have := h (q + 1) (by omega) (by omega)
    rwa [Nat.add_assoc]
  · exact h q (by omega) hq3
theorem VT_of {P P' : jO} {n : Nat} (h7 : P' 7 n = P 7 n) (h9 : P' 9 = P 9) (h : VT P n) : VT P' n := by
  unfold VT
  rw [h7, h9]
  exact h
theorem VO_lease {P : jO} {z t h n u : Nat} (hV : VH P z t) (ht : t ≤ 20000) (h1 : 1 ≤ u) (h9 : u ≤ 999) : VO (leaseP P h n (nI u)) t 1 n := by
  obtain ⟨v1, -, ⟨g, g1, g2⟩, -, -⟩ := hV
  refine ⟨t + u, t + u + g, ?_, ?_, by omega, by omega, by omega⟩
  · rw [leaseP_app, if_neg (by omega), if_neg (by omega), if_pos ⟨rfl, rfl⟩, v1, nI_add]
  · rw [leaseP_app, if_neg (by omega), if_neg (by omega), if_neg (by omega), if_pos ⟨rfl, rfl⟩, v1, g2, nI_add, nI_add]
theorem has_eq {P : jO} {r : Nat → Int32} {z h : Nat} (hh : h < 8) (hz : z ≤ 64) (hC : CP P r) (hT : ∀ i, z ≤ i → i < 64 → P 2 i = -1) : hasP P (nI h) = mHas r (nI h) z := by
  unfold hasP mHas
  rw [cnt_64 hz (fun n h1 h2 => by rw [hT n h1 h2]; exact decide_eq_false (fun q => nI_m1 (n := h) (by omega) q.symm))]
  exact cnt_congr (fun n hn => by rw [CP_who hC (by omega)])
theorem room_eq {P : jO} {r : Nat → Int32} {z t h m : Nat} (hh : h < 8) (hC : CP P r) (hV : VH P z t) (hT : ∀ i, z ≤ i → i < 64 → P 2 i = -1) : hasR P (nI h) (nI m) = mRoom r z (nI h) (nI m) := by
  unfold hasR mRoom
  rw [has_eq hh hV.2.1.2.2 hC hT, ← CP_s (i := 1) hC (by omega)]
theorem lt_room {P : jO} {z t c : Nat} (hV : VH P z t) (hc : c ≤ 64) : (nI c < P 1 1) ↔ ¬ (P 1 1 < nI c + nI 1) := by
  obtain ⟨-, -, -, ⟨m, m1, m2, m3⟩, -⟩ := hV
  rw [m3, nI_add, nI_ltI (by omega) (by omega), nI_ltI (by omega) (by omega)]
  omega
/-- what serving needs, and keeps -/
def VS (P : jO) (z t n : Nat) : Prop := PI P ∧ VH P z t ∧ (∀ i, z ≤ i → i < 64 → P 2 i = -1) ∧ VT P n ∧ (¬ P 2 n = -1 → VO P t 1 n)
theorem nI0lt {w : Nat} (h : w < 2 ^ 31) : 0 < nI w ↔ 0 < w := nI_0lt h
theorem serveS_all {P : jO} {r : Nat → Int32} {z t n : Nat} (hn : n < z) (ht : t ≤ 20000) (hC : CP P r) (hS : VS P z t n) (h0 : 0 < P 7 n) :
    CP (serveS P n) (mServeS r n z) ∧ VS (serveS P n) z t n ∧ OFF n P (serveS P n) ∧ toN (serveS P n 7 n) = toN (P 7 n) - 1 := by
  obtain ⟨hP, hH, hT, hW, hO⟩ := hS
  have hz6 := hH.2.1.2.2
  obtain ⟨p1, p2, p3, p4, p5⟩ := PI_pos hP (by omega : n < 64) h0
  obtain ⟨w1, w2⟩ := CP_w (k := 0) hC (by omega : n < 64) p1 p2
  have w1 : r (32 + 12 * n + 6) = P 8 (n * 3) := w1
  have w2 : r (32 + 12 * n + 6 + 1) = P 9 (n * 3) := w2
  have hPS := PI_serveS (by omega : n < 64) hP h0
  have cd := CP_drop (by omega : n < 64) p2 p3 p1 hC
  have od := OFF_drop (P := P) (n := n) (k := 0) p2
  have hHd := VH_off od hH
  have hTd : ∀ i, z ≤ i → i < 64 → dropP P n 0 2 i = -1 := fun i a b => by rw [drop_ne (by decide) (by decide) (by decide)]; exact hT i a b
  have hWd := VT_drop p3 p2 p1 hW
  obtain ⟨u, u1, u2, u3⟩ := hW 0 p1 (by omega)
  have u3 : P 9 (n * 3) = nI u := u3
  have hd7 : toN (dropP P n 0 7 n) = toN (P 7 n) - 1 := by rw [drop_7, if_pos rfl, p3, pk_sub (by omega), toN_nI (by omega), toN_nI (by omega)]
  generalize hg : toN (P 8 (n * 3)) = g at p4 p5
  have hcnt : hasP (dropP P n 0) (nI g) ≤ 64 := cnt_le _ _
  have hcond : (nI (hasP (dropP P n 0) (nI g)) < dropP P n 0 1 1) ↔ mRoom (mDrop r n 0) z (nI g) (nI 1) = true := by
    rw [lt_room hHd hcnt, ← room_eq p4 cd hHd hTd]
    unfold hasR
    simp
  have hX : ∀ Q : jO, serveS P n = Q → PI Q := fun Q q => q ▸ hPS
  by_cases hc : nI (hasP (dropP P n 0) (nI g)) < dropP P n 0 1 1
  · have es : serveS P n = leaseP (dropP P n 0) g n (nI u) := by
      unfold serveS
      simp only
      rw [p5, u3, if_pos hc, toN_nI (by omega)]
    have em : mServeS r n z = mGives (mDrop r n 0) n g (nI u) := by
      unfold mServeS
      simp only
      rw [w1, w2, p5, u3, if_pos (hcond.mp hc), toN_nI (by omega)]
    rw [es, em]
    have ol := OFF_lease (dropP P n 0) g n (nI u)
    have l7 : leaseP (dropP P n 0) g n (nI u) 7 = dropP P n 0 7 := by funext i; rw [leaseP_app]; simp
    have l9 : leaseP (dropP P n 0) g n (nI u) 9 = dropP P n 0 9 := by funext i; rw [leaseP_app]; simp
    refine ⟨CP_lease p4 (by omega) cd, ⟨hX _ es, VH_off ol hHd, fun i a b => ?_, VT_of (by rw [l7]) l9 hWd, fun _ => VO_lease hHd ht u1 u2⟩, od.tr ol, by rw [l7, hd7]⟩
    rw [(ol.2.2.1 i (by omega)).1]
    exact hTd i a b
  · have es : serveS P n = put (dropP P n 0) 11 g (dropP P n 0 11 g + nI 1) := by
      unfold serveS
      simp only
      rw [p5, if_neg hc, toN_nI (by omega)]
    have em : mServeS r n z = upd (mDrop r n 0) (16 + g) (mDrop r n 0 (16 + g) + nI 1) := by
      unfold mServeS
      simp only
      rw [w1, p5, if_neg (fun q => hc (hcond.mpr q)), toN_nI (by omega)]
    rw [es, em]
    have ol : OFF n (dropP P n 0) (put (dropP P n 0) 11 g (dropP P n 0 11 g + nI 1)) := OFF_put (by omega) (by omega) (by omega) (by omega)
    refine ⟨CP_putK' (j := 11) (by omega) (by omega) p4 cd (congrArg (· + nI 1) (CP_k (j := 11) cd (by omega) (by omega) p4)), ⟨hX _ es, VH_off ol hHd, fun i a b => by rw [put_ne (by decide)]; exact hTd i a b, VT_of (by rw [put_ne (by decide)]) (by rw [put_ne (by decide)]) hWd, fun hf => ?_⟩, od.tr ol, by rw [put_ne (by decide)]; exact hd7⟩
    rw [put_ne (by decide), drop_ne (by decide) (by decide) (by decide)] at hf
    obtain ⟨e, l, a1, a2, a3⟩ := hO hf
    exact ⟨e, l, by rw [put_ne (by decide), drop_ne (by decide) (by decide) (by decide)]; exact a1, by rw [put_ne (by decide), drop_ne (by decide) (by decide) (by decide)]; exact a2, a3⟩
theorem serve_all {z t n : Nat} (hn : n < z) (ht : t ≤ 20000) : ∀ (k : Nat) (P : jO) (r : Nat → Int32), CP P r → VS P z t n → toN (P 7 n) ≤ k →
    CP (serve n k P) (mServe n z k r) ∧ VS (serve n k P) z t n ∧ OFF n P (serve n k P) ∧ (serve n k P 2 n = -1 → serve n k P 7 n = nI 0)
  | 0, P, r, hC, hS, hk => by
    refine ⟨hC, hS, OFF.rf n P, fun _ => ?_⟩
    obtain ⟨w, w1, w2, -⟩ := hS.1.2.2 n (by have := hS.2.1.2.1.2.2; omega)
    show P 7 n = nI 0
    rw [w2, toN_nI (by omega)] at hk
    rw [w2, show w = 0 by omega]
  | k + 1, P, r, hC, hS, hk => by
    have hn6 : n < 64 := by have := hS.2.1.2.1.2.2; omega
    rw [serve, mServe, CP_who hC hn6, CP_wait hC hn6]
    by_cases hc : P 2 n = -1 ∧ 0 < P 7 n
    · rw [if_pos hc, if_pos hc]
      obtain ⟨a1, a2, a3, a4⟩ := serveS_all hn ht hC hS hc.2
      obtain ⟨b1, b2, b3, b4⟩ := serve_all hn ht k _ _ a1 a2 (by omega)
      exact ⟨b1, b2, a3.tr b3, b4⟩
    · rw [if_neg hc, if_neg hc]
      refine ⟨hC, hS, OFF.rf n P, fun hf => ?_⟩
      obtain ⟨w, w1, w2, -⟩ := hS.1.2.2 n hn6
      rw [w2]
      rcases Nat.eq_zero_or_pos w with q | q
      · rw [q]
      · exact absurd ⟨hf, by rw [w2, nI_0lt (by omega)]; exact q⟩ hc
