/-! THE COUPLING of a pool P of the class and a row r of the model: r at pos j i is P j i -/
def pos (j i : Nat) : Nat :=
  if j = 0 then (if i = 0 then 0 else 4 + i)
  else if j = 1 then 1 + i
  else if j < 8 then 32 + 12 * i + (j - 2)
  else if j < 10 then 32 + 12 * (i / 3) + 6 + 2 * (i % 3) + (j - 8)
  else 8 * (j - 9) + i
/-- the cells that there are -/
def dom (j i : Nat) : Prop := (j < 2 ∧ i < 4) ∨ (2 ≤ j ∧ j < 8 ∧ i < 64) ∨ (8 ≤ j ∧ j < 10 ∧ i < 192) ∨ (10 ≤ j ∧ j < 13 ∧ i < 8)
/-- of wishes: those that wait -/
def okc (P : jO) (j i : Nat) : Prop := dom j i ∧ (8 ≤ j → j < 10 → i % 3 < toN (P 7 (i / 3)))
def CP (P : jO) (r : Nat → Int32) : Prop := ∀ j i, okc P j i → r (pos j i) = P j i
theorem pos_lo {j i : Nat} (h : j < 2) : pos j i = if j = 0 then (if i = 0 then 0 else 4 + i) else 1 + i := by
  unfold pos
  by_cases h0 : j = 0
  · simp [h0]
  · have h1 : j = 1 := by omega
    simp [h1]
theorem pos_mid {j i : Nat} (h2 : 2 ≤ j) (h : j < 8) : pos j i = 32 + 12 * i + (j - 2) := by
  unfold pos
  rw [if_neg (by omega), if_neg (by omega), if_pos h]
theorem pos_wis {j i : Nat} (h2 : 8 ≤ j) (h : j < 10) : pos j i = 32 + 12 * (i / 3) + 6 + 2 * (i % 3) + (j - 8) := by
  unfold pos
  rw [if_neg (by omega), if_neg (by omega), if_neg (by omega), if_pos h]
theorem pos_hi {j i : Nat} (h2 : 10 ≤ j) : pos j i = 8 * (j - 9) + i := by
  unfold pos
  rw [if_neg (by omega), if_neg (by omega), if_neg (by omega), if_neg (by omega)]
theorem pos_cl {j i : Nat} (h : dom j i) :
    (j = 0 ∧ i = 0 ∧ pos j i = 0) ∨ (j = 0 ∧ 0 < i ∧ i < 4 ∧ pos j i = 4 + i) ∨ (j = 1 ∧ i < 4 ∧ pos j i = 1 + i) ∨ (2 ≤ j ∧ j < 8 ∧ i < 64 ∧ pos j i = 32 + 12 * i + (j - 2)) ∨
    (8 ≤ j ∧ j < 10 ∧ i < 192 ∧ pos j i = 32 + 12 * (i / 3) + 6 + 2 * (i % 3) + (j - 8)) ∨ (10 ≤ j ∧ j < 13 ∧ i < 8 ∧ pos j i = 8 * (j - 9) + i) := by
  rcases h with ⟨h1, h2⟩ | ⟨h1, h2, h3⟩ | ⟨h1, h2, h3⟩ | ⟨h1, h2, h3⟩
  · rw [pos_lo h1]
    by_cases h0 : j = 0
    · rw [if_pos h0]
      by_cases hi : i = 0
      · rw [if_pos hi]; exact Or.inl ⟨h0, hi, rfl⟩
      · rw [if_neg hi]; exact Or.inr (Or.inl ⟨h0, by omega, h2, rfl⟩)
    · rw [if_neg h0]; exact Or.inr (Or.inr (Or.inl ⟨by omega, h2, rfl⟩))
  · rw [pos_mid h1 h2]; exact Or.inr (Or.inr (Or.inr (Or.inl ⟨h1, h2, h3, rfl⟩)))
  · rw [pos_wis h1 h2]; exact Or.inr (Or.inr (Or.inr (Or.inr (Or.inl ⟨h1, h2, h3, rfl⟩))))
  · rw [pos_hi h1]; exact Or.inr (Or.inr (Or.inr (Or.inr (Or.inr ⟨h1, h2, h3, rfl⟩))))
theorem pos_inj {j i j' i' : Nat} (h : dom j i) (h' : dom j' i') (e : pos j i = pos j' i') : j = j' ∧ i = i' := by
  have a := pos_cl h
  have b := pos_cl h'
  generalize pos j i = p at a e
  generalize pos j' i' = q at b e
  clear h h'
  rcases a with a | a | a | a | a | a <;> rcases b with b | b | b | b | b | b <;> omega
theorem pos_lt {j i : Nat} (h : dom j i) : pos j i < 800 := by
  have a := pos_cl h
  generalize pos j i = p at a
  rcases a with a | a | a | a | a | a <;> omega
theorem CP_put {P : jO} {r : Nat → Int32} {j i : Nat} {v : Int32} (hj : j ≠ 7) (hd : dom j i) (h : CP P r) : CP (put P j i v) (upd r (pos j i) v) := by
  intro j' i' ⟨hd', hw⟩
  by_cases he : j' = j ∧ i' = i
  · rw [he.1, he.2, upd_at, put_at, if_pos rfl]
  · have hne : pos j' i' ≠ pos j i := fun q => he (pos_inj hd' hd q)
    rw [upd_ne hne, put_app, if_neg he]
    refine h j' i' ⟨hd', fun a b => ?_⟩
    have := hw a b
    rwa [put_ne (by omega)] at this
theorem CP_at {P : jO} {r : Nat → Int32} {j i : Nat} (h : CP P r) (hd : dom j i) (hj : j < 8 ∨ 10 ≤ j) : r (pos j i) = P j i := h j i ⟨hd, fun a b => by omega⟩
theorem CP_t {P : jO} {r : Nat → Int32} (h : CP P r) : r 0 = P 0 0 := CP_at (j := 0) (i := 0) h (Or.inl ⟨by omega, by omega⟩) (Or.inl (by omega))
theorem CP_h {P : jO} {r : Nat → Int32} (h : CP P r) {i : Nat} (h0 : 0 < i) (hi : i < 4) : r (4 + i) = P 0 i := by
  have := CP_at (j := 0) (i := i) h (Or.inl ⟨by omega, by omega⟩) (Or.inl (by omega))
  rwa [pos_lo (by omega), if_pos rfl, if_neg (by omega)] at this
theorem CP_s {P : jO} {r : Nat → Int32} (h : CP P r) {i : Nat} (hi : i < 4) : r (1 + i) = P 1 i := by
  have := CP_at (j := 1) (i := i) h (Or.inl ⟨by omega, by omega⟩) (Or.inl (by omega))
  rwa [pos_lo (by omega), if_neg (by omega)] at this
theorem CP_n {P : jO} {r : Nat → Int32} (h : CP P r) {j n : Nat} (h2 : 2 ≤ j) (h8 : j < 8) (hn : n < 64) : r (32 + 12 * n + (j - 2)) = P j n := by
  have := CP_at (j := j) (i := n) h (Or.inr (Or.inl ⟨by omega, by omega, hn⟩)) (Or.inl (by omega))
  rwa [pos_mid h2 h8] at this
theorem CP_who {P : jO} {r : Nat → Int32} (h : CP P r) {n : Nat} (hn : n < 64) : r (32 + 12 * n) = P 2 n := CP_n (j := 2) h (by omega) (by omega) hn
theorem CP_end {P : jO} {r : Nat → Int32} (h : CP P r) {n : Nat} (hn : n < 64) : r (32 + 12 * n + 2) = P 4 n := CP_n (j := 4) h (by omega) (by omega) hn
theorem CP_last {P : jO} {r : Nat → Int32} (h : CP P r) {n : Nat} (hn : n < 64) : r (32 + 12 * n + 3) = P 5 n := CP_n (j := 5) h (by omega) (by omega) hn
theorem CP_wait {P : jO} {r : Nat → Int32} (h : CP P r) {n : Nat} (hn : n < 64) : r (32 + 12 * n + 5) = P 7 n := CP_n (j := 7) h (by omega) (by omega) hn
theorem CP_k {P : jO} {r : Nat → Int32} (h : CP P r) {j i : Nat} (hj : 10 ≤ j) (hj2 : j < 13) (hi : i < 8) : r (8 * (j - 9) + i) = P j i := by
  have := CP_at (j := j) (i := i) h (Or.inr (Or.inr (Or.inr ⟨hj, hj2, hi⟩))) (Or.inr hj)
  rwa [pos_hi hj] at this
theorem CP_w {P : jO} {r : Nat → Int32} (h : CP P r) {n k : Nat} (hn : n < 64) (hk : k < toN (P 7 n)) (h3 : toN (P 7 n) ≤ 3) :
    r (32 + 12 * n + 6 + 2 * k) = P 8 (n * 3 + k) ∧ r (32 + 12 * n + 6 + 2 * k + 1) = P 9 (n * 3 + k) := by
  have e1 : (n * 3 + k) / 3 = n := by omega
  have e2 : (n * 3 + k) % 3 = k := by omega
  have a := h 8 (n * 3 + k) ⟨Or.inr (Or.inr (Or.inl ⟨by omega, by omega, by omega⟩)), fun _ _ => by rw [e1, e2]; exact hk⟩
  have b := h 9 (n * 3 + k) ⟨Or.inr (Or.inr (Or.inl ⟨by omega, by omega, by omega⟩)), fun _ _ => by rw [e1, e2]; exact hk⟩
  rw [pos_wis (by omega) (by omega), e1, e2] at a b
  exact ⟨a, b⟩
/-! the same steps on both sides -/
theorem CP_put2 {P : jO} {r : Nat → Int32} {n : Nat} {v : Int32} (hn : n < 64) (h : CP P r) : CP (put P 2 n v) (upd r (32 + 12 * n) v) := by
  have := CP_put (j := 2) (i := n) (v := v) (by decide) (Or.inr (Or.inl ⟨by omega, by omega, hn⟩)) h
  rwa [pos_mid (by omega) (by omega)] at this
theorem CP_putN {P : jO} {r : Nat → Int32} {j n : Nat} {v : Int32} (h2 : 2 ≤ j) (h7 : j < 7) (hn : n < 64) (h : CP P r) : CP (put P j n v) (upd r (32 + 12 * n + (j - 2)) v) := by
  have := CP_put (j := j) (i := n) (v := v) (by omega) (Or.inr (Or.inl ⟨by omega, by omega, hn⟩)) h
  rwa [pos_mid (by omega) (by omega)] at this
theorem CP_putK {P : jO} {r : Nat → Int32} {j i : Nat} {v : Int32} (hj : 10 ≤ j) (hj2 : j < 13) (hi : i < 8) (h : CP P r) : CP (put P j i v) (upd r (8 * (j - 9) + i) v) := by
  have := CP_put (j := j) (i := i) (v := v) (by omega) (Or.inr (Or.inr (Or.inr ⟨hj, hj2, hi⟩))) h
  rwa [pos_hi hj] at this
theorem CP_putH {P : jO} {r : Nat → Int32} {i : Nat} {v : Int32} (h0 : 0 < i) (hi : i < 4) (h : CP P r) : CP (put P 0 i v) (upd r (4 + i) v) := by
  have := CP_put (j := 0) (i := i) (v := v) (by omega) (Or.inl ⟨by omega, hi⟩) h
  rwa [pos_lo (by omega), if_pos rfl, if_neg (by omega)] at this
theorem CP_putT {P : jO} {r : Nat → Int32} {v : Int32} (h : CP P r) : CP (put P 0 0 v) (upd r 0 v) :=
  CP_put (j := 0) (i := 0) (v := v) (by omega) (Or.inl ⟨by omega, by omega⟩) h
theorem CP_putS {P : jO} {r : Nat → Int32} {i : Nat} {v : Int32} (hi : i < 4) (h : CP P r) : CP (put P 1 i v) (upd r (1 + i) v) := by
  have := CP_put (j := 1) (i := i) (v := v) (by omega) (Or.inl ⟨by omega, hi⟩) h
  rwa [pos_lo (by omega), if_neg (by omega)] at this
theorem CP_putN' {P : jO} {r : Nat → Int32} {j n : Nat} {v v' : Int32} (h2 : 2 ≤ j) (h7 : j < 7) (hn : n < 64) (h : CP P r) (e : v' = v) : CP (put P j n v) (upd r (32 + 12 * n + (j - 2)) v') := e ▸ CP_putN h2 h7 hn h
theorem CP_putK' {P : jO} {r : Nat → Int32} {j i : Nat} {v v' : Int32} (hj : 10 ≤ j) (hj2 : j < 13) (hi : i < 8) (h : CP P r) (e : v' = v) : CP (put P j i v) (upd r (8 * (j - 9) + i) v') := e ▸ CP_putK hj hj2 hi h
theorem CP_putH' {P : jO} {r : Nat → Int32} {i : Nat} {v v' : Int32} (h0 : 0 < i) (hi : i < 4) (h : CP P r) (e : v' = v) : CP (put P 0 i v) (upd r (4 + i) v') := e ▸ CP_putH h0 hi h
theorem CP_putT' {P : jO} {r : Nat → Int32} {v v' : Int32} (h : CP P r) (e : v' = v) : CP (put P 0 0 v) (upd r 0 v') := e ▸ CP_putT h
theorem CP_lease {P : jO} {r : Nat → Int32} {h n : Nat} {t : Int32} (hh : h < 8) (hn : n < 64) (hC : CP P r) : CP (leaseP P h n t) (mGives r n h t) := by
  unfold leaseP mGives
  simp only
  have c1 := CP_put2 (v := nI h) hn hC
  have c2 := CP_putN' (j := 3) (by omega) (by omega) hn c1 (CP_t c1)
  have c3 := CP_putN' (j := 4) (by omega) (by omega) hn c2 (congrArg (· + t) (CP_t c2))
  have e4 : ∀ (A : jO) (a : Nat → Int32), CP A a → a 0 + t + a 1 = A 0 0 + t + A 1 0 := fun A a c => by rw [CP_t c, show a 1 = A 1 0 from CP_s (i := 0) c (by omega)]
  have c4 := CP_putN' (j := 5) (by omega) (by omega) hn c3 (e4 _ _ c3)
  have c5 := CP_putN' (j := 6) (by omega) (by omega) hn c4 (congrArg (· + nI 1) (CP_n (j := 6) c4 (by omega) (by omega) hn))
  have c6 := CP_putK' (j := 10) (by omega) (by omega) hh c5 (congrArg (· + nI 1) (CP_k (j := 10) c5 (by omega) (by omega) hh))
  have e5 : ∀ (A : jO), (put (put A 4 n (A 0 0 + t)) 5 n ((put A 4 n (A 0 0 + t)) 4 n + (put A 4 n (A 0 0 + t)) 1 0)) = put (put A 4 n (A 0 0 + t)) 5 n ((put A 4 n (A 0 0 + t)) 0 0 + t + (put A 4 n (A 0 0 + t)) 1 0) := by
    intro A
    rw [put_at, if_pos rfl, put_ne (by decide : (0 : Nat) ≠ 4)]
  rw [e5]
  exact c6
theorem CP_drop {P : jO} {r : Nat → Int32} {n k : Nat} (hn : n < 64) (h3 : toN (P 7 n) ≤ 3) (he : P 7 n = nI (toN (P 7 n))) (hk : k < toN (P 7 n)) (hC : CP P r) : CP (dropP P n k) (mDrop r n k) := by
  have hd7 : ∀ i, dropP P n k 7 i = if i = n then P 7 n - nI 1 else P 7 i := by
    intro i
    unfold dropP
    rw [put_at, shiftP_ne _ _ _ _ _ (by decide) (by decide)]
  have hdn : ∀ j, j ≠ 7 → j ≠ 8 → j ≠ 9 → dropP P n k j = P j := by
    intro j a b c
    unfold dropP
    rw [put_ne a, shiftP_ne _ _ _ _ _ b c]
  have hd8 : ∀ q, dropP P n k 8 q = if n * 3 + k ≤ q ∧ q < n * 3 + k + (toN (P 7 n) - 1 - k) then P 8 (q + 1) else P 8 q := by
    intro q
    unfold dropP
    rw [put_ne (by decide), shiftP_8]
  have hd9 : ∀ q, dropP P n k 9 q = if n * 3 + k ≤ q ∧ q < n * 3 + k + (toN (P 7 n) - 1 - k) then P 9 (q + 1) else P 9 q := by
    intro q
    unfold dropP
    rw [put_ne (by decide), shiftP_9]
  have hw : toN (P 7 n - nI 1) = toN (P 7 n) - 1 := by
    rw [he, pk_sub (by omega), toN_nI (by omega), toN_nI (by omega)]
  intro j i ⟨hd, hwt⟩
  rw [mDrop_at r n k _ (by omega)]
  have a := pos_cl hd
  rcases a with a | a | a | a | a | a
  · rw [if_neg (by omega), if_neg (by omega), hdn j (by omega) (by omega) (by omega)]
    exact CP_at hC hd (by omega)
  · rw [if_neg (by omega), if_neg (by omega), hdn j (by omega) (by omega) (by omega)]
    exact CP_at hC hd (by omega)
  · rw [if_neg (by omega), if_neg (by omega), hdn j (by omega) (by omega) (by omega)]
    exact CP_at hC hd (by omega)
  · by_cases h7 : j = 7
    · subst h7
      rw [hd7]
      by_cases hin : i = n
      · subst hin
        rw [if_pos rfl, if_pos (by omega), CP_wait hC hn]
      · rw [if_neg hin, if_neg (by omega), if_neg (by omega)]
        exact CP_at hC hd (by omega)
    · rw [if_neg (by omega), if_neg (by omega), hdn j h7 (by omega) (by omega)]
      exact CP_at hC hd (by omega)
  · have hwt2 := hwt a.1 a.2.1
    rw [hd7] at hwt2
    by_cases hin : i / 3 = n
    · rw [if_pos hin, hw] at hwt2
      have key : ∀ i', i' / 3 = n → i' % 3 < toN (P 7 n) → i' < 192 → r (pos j i') = P j i' := fun i' e1 e2 e3 => hC j i' ⟨Or.inr (Or.inr (Or.inl ⟨a.1, a.2.1, e3⟩)), fun _ _ => by rw [e1]; exact e2⟩
      by_cases hkk : k ≤ i % 3
      · have e := key (i + 1) (by omega) (by omega) (by omega)
        rw [pos_wis a.1 a.2.1] at e
        rw [if_neg (by omega), if_pos (by omega), show pos j i + 2 = 32 + 12 * ((i + 1) / 3) + 6 + 2 * ((i + 1) % 3) + (j - 8) by omega, e]
        rcases (by omega : j = 8 ∨ j = 9) with q | q
        · subst q; rw [hd8, if_pos (by omega)]
        · subst q; rw [hd9, if_pos (by omega)]
      · have e := key i hin (by omega) a.2.2.1
        rw [if_neg (by omega), if_neg (by omega), e]
        rcases (by omega : j = 8 ∨ j = 9) with q | q
        · subst q; rw [hd8, if_neg (by omega)]
        · subst q; rw [hd9, if_neg (by omega)]
    · rw [if_neg hin] at hwt2
      rw [if_neg (by omega), if_neg (by omega), hC j i ⟨hd, fun _ _ => hwt2⟩]
      rcases (by omega : j = 8 ∨ j = 9) with q | q
      · subst q; rw [hd8, if_neg (by omega)]
      · subst q; rw [hd9, if_neg (by omega)]
  · rw [if_neg (by omega), if_neg (by omega), hdn j (by omega) (by omega) (by omega)]
    exact CP_at hC hd (by omega)
