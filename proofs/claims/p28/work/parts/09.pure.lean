/-! WHAT THE POOL'S METHODS DO, in numbers and lists: P 0 0 time, P 0 1 renewals, P 0 2 grace renewals, P 0 3 freed; rows 1 settings, 2 whose, 3 begin, 4 end, 5 last, 6 given, 7 waiting, 8 wishers, 9 terms of wishes, 10 leases, 11 lost, 12 units -/
theorem nI0 : nI 0 = 0 := rfl
theorem nI1 : nI 1 = 1 := rfl
abbrev toN (x : Int32) : Nat := x.toNatClampNeg
theorem nI_m1 {n : Nat} (h : n < 2 ^ 31) : ¬ nI n = -1 := by
  intro q
  have h1 := nI_toInt h
  rw [q] at h1
  have h2 : (-1 : Int32).toInt = -1 := by decide
  omega
theorem oI_m1 {o : Option Nat} (h : ∀ n, o = some n → n < 2 ^ 31) : oI o = -1 ↔ o = none := by
  cases o with
  | none => simp [oI]
  | some n =>
    simp only [oI, reduceCtorEq, iff_false]
    exact nI_m1 (h n rfl)
theorem fnd_lt {p : Nat → Bool} : ∀ {k n i : Nat}, fnd p k n = some i → n ≤ i ∧ i < n + k ∧ p i = true
  | 0, n, i, h => by simp [fnd] at h
  | k + 1, n, i, h => by
    rw [fnd] at h
    split at h
    · cases h
      exact ⟨Nat.le_refl _, by omega, ‹_›⟩
    · obtain ⟨h1, h2, h3⟩ := fnd_lt h
      exact ⟨by omega, by omega, h3⟩
def frP (P : jO) (n : Nat) : Bool := decide (P 2 n = -1)
def hasP (P : jO) (h : Int32) : Nat := cnt (fun n => decide (P 2 n = h)) 64
def hasR (P : jO) (h m : Int32) : Bool := !(decide (P 1 1 < nI (hasP P h) + m))
def rowP (P : jO) (z n : Nat) : Nat := row (frP P) (z - n) n
def lowR (P : jO) (z : Nat) (m : Int32) : Option Nat := fnd (fun n => decide (m ≤ nI (rowP P z n))) z 0
def stg (P : jO) (n : Nat) : Int32 := if P 2 n = -1 then 0 else if P 0 0 < P 4 n then 1 else 2
def leaseP (P : jO) (h n : Nat) (t : Int32) : jO :=
  let P1 := put P 2 n (nI h)
  let P2 := put P1 3 n (P1 0 0)
  let P3 := put P2 4 n (P2 0 0 + t)
  let P4 := put P3 5 n (P3 4 n + P3 1 0)
  let P5 := put P4 6 n (P4 6 n + nI 1)
  put P5 10 h (P5 10 h + nI 1)
theorem leaseP_app (P : jO) (h n : Nat) (t : Int32) (j i : Nat) : leaseP P h n t j i = if j = 2 ∧ i = n then nI h else if j = 3 ∧ i = n then P 0 0 else if j = 4 ∧ i = n then P 0 0 + t else if j = 5 ∧ i = n then P 0 0 + t + P 1 0 else if j = 6 ∧ i = n then P 6 n + nI 1 else if j = 10 ∧ i = h then P 10 h + nI 1 else P j i := by
  simp only [leaseP, put_app]
  by_cases h2 : j = 2 <;> by_cases h3 : j = 3 <;> by_cases h4 : j = 4 <;> by_cases h5 : j = 5 <;> by_cases h6 : j = 6 <;> by_cases h10 : j = 10 <;> simp_all
def leaseN (h : Nat) (t : Int32) : Nat → Nat → jO → jO
  | 0, _, P => P
  | k + 1, n, P => leaseN h t k (n + 1) (leaseP P h n t)
/-- the wishes behind the place i move up, c of them -/
def shiftP (n : Nat) : Nat → Nat → jO → jO
  | 0, _, P => P
  | c + 1, i, P => shiftP n c (i + 1) (let P1 := put P 8 (n * 3 + i) (P 8 (n * 3 + i + 1)); put P1 9 (n * 3 + i) (P1 9 (n * 3 + i + 1)))
def dropP (P : jO) (n k : Nat) : jO := let P1 := shiftP n (toN (P 7 n) - 1 - k) k P; put P1 7 n (P1 7 n - nI 1)
def serveS (P : jO) (n : Nat) : jO :=
  let h := P 8 (n * 3)
  let t := P 9 (n * 3)
  let P1 := dropP P n 0
  if nI (hasP P1 h) < P1 1 1 then leaseP P1 (toN h) n t else put P1 11 (toN h) (P1 11 (toN h) + nI 1)
def serve (n : Nat) : Nat → jO → jO
  | 0, P => P
  | k + 1, P => if P 2 n = -1 ∧ 0 < P 7 n then serve n k (serveS P n) else P
def freeP (P : jO) (n : Nat) : jO := let P1 := put P 2 n (-1); serve n 3 (put P1 0 3 (P1 0 3 + nI 1))
def spanN (h : Int32) : Nat → Nat → jO × Nat → jO × Nat
  | 0, _, s => s
  | k + 1, n, s => spanN h k (n + 1) (if s.1 2 n = h then (freeP s.1 n, s.2 + 1) else s)
def dueN : Nat → Nat → jO → jO
  | 0, _, P => P
  | k + 1, n, P => dueN k (n + 1) (if ¬ P 2 n = -1 ∧ P 5 n = P 0 0 then freeP P n else P)
def unitsN : Nat → Nat → jO → jO
  | 0, _, P => P
  | k + 1, n, P => unitsN k (n + 1) (if stg P n = 1 then put P 12 (toN (P 2 n)) (P 12 (toN (P 2 n)) + nI 1) else P)
def tickP (P : jO) : jO := let P1 := unitsN 64 0 P; dueN 64 0 (put P1 0 0 (P1 0 0 + nI 1))
def passN : Nat → jO → jO
  | 0, P => P
  | k + 1, P => passN k (tickP P)
def nextN (P : jO) : Nat → Nat → Int32 → Int32
  | 0, _, v => v
  | k + 1, n, v => nextN P k (n + 1) (if ¬ P 2 n = -1 ∧ P 5 n < v then P 5 n else v)
def leapV (P : jO) (u : Int32) : Int32 := nextN P 64 0 (u + nI 1)
def leapP (P : jO) (u : Int32) : jO := if u < leapV P u then P else dueN 64 0 (put P 0 0 (leapV P u))
def placeW (P : jO) (h : Int32) (n : Nat) : Option Nat := fnd (fun k => decide (P 8 (n * 3 + k) = h)) (toN (P 7 n)) 0
def addW (P : jO) (h n : Nat) (t : Int32) : jO :=
  if P 2 n = -1 then leaseP P h n t
  else if toN (P 7 n) < 3 then (let w := toN (P 7 n); let P1 := put P 8 (n * 3 + w) (nI h); let P2 := put P1 9 (n * 3 + w) t; put P2 7 n (P2 7 n + nI 1)) else P
def mayW (P : jO) (h : Int32) (n : Nat) : Bool := if P 2 n = -1 then hasR P h (nI 1) else !decide (nI 3 ≤ P 7 n) && !decide (P 2 n = h) && (placeW P h n).isNone
/-! what holds of every pool -/
def PIq (P : jO) (n : Nat) : Prop := ∃ w : Nat, w ≤ 3 ∧ P 7 n = nI w ∧ ∀ k, k < w → ∃ h, h < 8 ∧ P 8 (n * 3 + k) = nI h
def PI (P : jO) : Prop := (∃ z : Nat, 4 ≤ z ∧ z ≤ 64 ∧ P 1 3 = nI z) ∧ (∀ n, n < 64 → P 2 n = -1 ∨ ∃ h, h < 8 ∧ P 2 n = nI h) ∧ ∀ n, n < 64 → PIq P n
theorem PIq_of {P P' : jO} {n : Nat} (h7 : P' 7 n = P 7 n) (h8 : ∀ k, k < 3 → P' 8 (n * 3 + k) = P 8 (n * 3 + k)) (h : PIq P n) : PIq P' n := by
  obtain ⟨w, h1, h2, h3⟩ := h
  exact ⟨w, h1, by rw [h7, h2], fun k hk => by rw [h8 k (by omega)]; exact h3 k hk⟩
theorem PI_of {P P' : jO} (h1 : P' 1 3 = P 1 3) (h2 : ∀ n, n < 64 → P' 2 n = P 2 n) (h7 : ∀ n, n < 64 → P' 7 n = P 7 n) (h8 : ∀ n, n < 192 → P' 8 n = P 8 n) (h : PI P) : PI P' := by
  obtain ⟨⟨z, a, b, c⟩, g2, g3⟩ := h
  exact ⟨⟨z, a, b, by rw [h1, c]⟩, fun n hn => by rw [h2 n hn]; exact g2 n hn, fun n hn => PIq_of (h7 n hn) (fun k hk => h8 _ (by omega)) (g3 n hn)⟩
theorem PI_put {P : jO} {j i : Nat} {v : Int32} (hj : j ≠ 1 ∧ j ≠ 2 ∧ j ≠ 7 ∧ j ≠ 8) (h : PI P) : PI (put P j i v) :=
  PI_of (by rw [put_ne (Ne.symm hj.1)]) (fun n _ => by rw [put_ne (Ne.symm hj.2.1)]) (fun n _ => by rw [put_ne (Ne.symm hj.2.2.1)]) (fun n _ => by rw [put_ne (Ne.symm hj.2.2.2)]) h
theorem PI_put2 {P : jO} {n : Nat} {v : Int32} (hv : v = -1 ∨ ∃ h, h < 8 ∧ v = nI h) (h : PI P) : PI (put P 2 n v) := by
  obtain ⟨g1, g2, g3⟩ := h
  refine ⟨by rw [put_ne (by decide)]; exact g1, fun i hi => ?_, fun i hi => PIq_of (by rw [put_ne (by decide)]) (fun k _ => by rw [put_ne (by decide)]) (g3 i hi)⟩
  rw [put_at]
  split
  · exact hv
  · exact g2 i hi
theorem PI_lease {P : jO} {h n : Nat} {t : Int32} (hh : h < 8) (hP : PI P) : PI (leaseP P h n t) := by
  unfold leaseP
  exact PI_put (by decide) (PI_put (by decide) (PI_put (by decide) (PI_put (by decide) (PI_put (by decide) (PI_put2 (Or.inr ⟨h, hh, rfl⟩) hP)))))
theorem shiftP_ne (n : Nat) : ∀ (c i : Nat) (P : jO) (j : Nat), j ≠ 8 → j ≠ 9 → shiftP n c i P j = P j
  | 0, _, _, _, _, _ => rfl
  | c + 1, i, P, j, h1, h2 => by
    rw [shiftP, shiftP_ne n c (i + 1) _ j h1 h2, put_ne h2, put_ne h1]
theorem shiftP_8 (n : Nat) : ∀ (c i : Nat) (P : jO) (q : Nat), shiftP n c i P 8 q = if n * 3 + i ≤ q ∧ q < n * 3 + i + c then P 8 (q + 1) else P 8 q
  | 0, i, P, q => by
    rw [shiftP, if_neg (by omega)]
  | c + 1, i, P, q => by
    rw [shiftP, shiftP_8 n c (i + 1)]
    simp only [put_app]
    by_cases h1 : q = n * 3 + i
    · subst h1
      simp
    · by_cases h2 : n * 3 + i ≤ q ∧ q < n * 3 + i + (c + 1)
      · have h3 : n * 3 + (i + 1) ≤ q ∧ q < n * 3 + (i + 1) + c := by omega
        have h4 : q + 1 ≠ n * 3 + i := by omega
        simp [h2, h3, h4]
      · have h3 : ¬ (n * 3 + (i + 1) ≤ q ∧ q < n * 3 + (i + 1) + c) := by omega
        simp [h2, h3, h1]
theorem shiftP_9 (n : Nat) : ∀ (c i : Nat) (P : jO) (q : Nat), shiftP n c i P 9 q = if n * 3 + i ≤ q ∧ q < n * 3 + i + c then P 9 (q + 1) else P 9 q
  | 0, i, P, q => by
    rw [shiftP, if_neg (by omega)]
  | c + 1, i, P, q => by
    rw [shiftP, shiftP_9 n c (i + 1)]
    simp only [put_app]
    by_cases h1 : q = n * 3 + i
    · subst h1
      simp
    · by_cases h2 : n * 3 + i ≤ q ∧ q < n * 3 + i + (c + 1)
      · have h3 : n * 3 + (i + 1) ≤ q ∧ q < n * 3 + (i + 1) + c := by omega
        have h4 : q + 1 ≠ n * 3 + i := by omega
        simp [h2, h3, h4]
      · have h3 : ¬ (n * 3 + (i + 1) ≤ q ∧ q < n * 3 + (i + 1) + c) := by omega
        simp [h2, h3, h1]
theorem toN_nI {n : Nat} (h : n < 2 ^ 31) : toN (nI n) = n := nI_clamp h
theorem PI_drop {P : jO} {n k : Nat} (hn : n < 64) (h0 : 0 < toN (P 7 n)) (hk : k < toN (P 7 n)) (hP : PI P) : PI (dropP P n k) := by
  obtain ⟨g1, g2, g3⟩ := hP
  obtain ⟨w, h1, h2, h3⟩ := g3 n hn
  have hw : toN (P 7 n) = w := by rw [h2, toN_nI (by omega)]
  rw [hw] at h0 hk
  refine ⟨by unfold dropP; rw [put_ne (by decide), shiftP_ne _ _ _ _ _ (by decide) (by decide)]; exact g1, fun i hi => by unfold dropP; rw [put_ne (by decide), shiftP_ne _ _ _ _ _ (by decide) (by decide)]; exact g2 i hi, fun i hi => ?_⟩
  by_cases hin : i = n
  · subst hin
    refine ⟨w - 1, by omega, ?_, fun q hq => ?_⟩
    · unfold dropP
      rw [put_at, if_pos rfl, shiftP_ne _ _ _ _ _ (by decide) (by decide), h2]
      obtain ⟨v, rfl⟩ : ∃ v, w = v + 1 := ⟨w - 1, by omega⟩
      exact nI_pred v
    · unfold dropP
      rw [put_ne (by decide), shiftP_8, hw]
      split
      · have := h3 (q + 1) (by omega)
        rwa [Nat.add_assoc]
      · exact h3 q (by omega)
  · refine PIq_of ?_ (fun q hq => ?_) (g3 i hi)
    · unfold dropP
      rw [put_at, if_neg hin, shiftP_ne _ _ _ _ _ (by decide) (by decide)]
    · unfold dropP
      rw [put_ne (by decide), shiftP_8, hw, if_neg (by omega)]
theorem PI_pos {P : jO} {n : Nat} (hP : PI P) (hn : n < 64) (h : 0 < P 7 n) : 0 < toN (P 7 n) ∧ toN (P 7 n) ≤ 3 ∧ P 7 n = nI (toN (P 7 n)) ∧ toN (P 8 (n * 3)) < 8 ∧ P 8 (n * 3) = nI (toN (P 8 (n * 3))) := by
  obtain ⟨w, h1, h2, h3⟩ := hP.2.2 n hn
  have hw : toN (P 7 n) = w := by rw [h2, toN_nI (by omega)]
  have h0 : 0 < w := by
    rcases Nat.eq_zero_or_pos w with q | q
    · subst q
      rw [h2] at h
      exact absurd h (by decide)
    · exact q
  obtain ⟨g, g1, g2⟩ := h3 0 h0
  rw [Nat.add_zero] at g2
  rw [hw, g2, toN_nI (by omega)]
  exact ⟨h0, h1, h2, g1, rfl⟩
theorem PI_serveS {P : jO} {n : Nat} (hn : n < 64) (hP : PI P) (h : 0 < P 7 n) : PI (serveS P n) := by
  obtain ⟨h1, h2, h3, h4, h5⟩ := PI_pos hP hn h
  unfold serveS
  have hd := PI_drop hn h1 h1 hP
  simp only
  split
  · exact PI_lease h4 hd
  · exact PI_put (by decide) hd
theorem PI_serve {n : Nat} (hn : n < 64) : ∀ (k : Nat) (P : jO), PI P → PI (serve n k P)
  | 0, _, h => h
  | k + 1, P, h => by
    rw [serve]
    split
    · exact PI_serve hn k _ (PI_serveS hn h (And.right ‹_›))
    · exact h
theorem PI_free {P : jO} {n : Nat} (hn : n < 64) (hP : PI P) : PI (freeP P n) := PI_serve hn 3 _ (PI_put (by decide) (PI_put2 (Or.inl rfl) hP))
theorem PI_dueN : ∀ (k n : Nat) (P : jO), n + k ≤ 64 → PI P → PI (dueN k n P)
  | 0, _, _, _, h => h
  | k + 1, n, P, hk, h => by
    rw [dueN]
    refine PI_dueN k (n + 1) _ (by omega) ?_
    split
    · exact PI_free (by omega) h
    · exact h
theorem PI_unitsN : ∀ (k n : Nat) (P : jO), PI P → PI (unitsN k n P)
  | 0, _, _, h => h
  | k + 1, n, P, h => by
    rw [unitsN]
    refine PI_unitsN k (n + 1) _ ?_
    split
    · exact PI_put (by decide) h
    · exact h
theorem PI_tick {P : jO} (h : PI P) : PI (tickP P) := PI_dueN 64 0 _ (by omega) (PI_put (by decide) (PI_unitsN 64 0 _ h))
theorem PI_passN : ∀ (k : Nat) (P : jO), PI P → PI (passN k P)
  | 0, _, h => h
  | k + 1, _, h => PI_passN k _ (PI_tick h)
theorem PI_leap {P : jO} {u : Int32} (h : PI P) : PI (leapP P u) := by
  unfold leapP
  split
  · exact h
  · exact PI_dueN 64 0 _ (by omega) (PI_put (by decide) h)
theorem PI_leaseN {h : Nat} {t : Int32} (hh : h < 8) : ∀ (k n : Nat) (P : jO), PI P → PI (leaseN h t k n P)
  | 0, _, _, h => h
  | k + 1, n, P, h => PI_leaseN hh k (n + 1) _ (PI_lease hh h)
theorem PI_spanN {h : Int32} : ∀ (k n : Nat) (s : jO × Nat), n + k ≤ 64 → PI s.1 → PI (spanN h k n s).1
  | 0, _, _, _, h => h
  | k + 1, n, s, hk, h => by
    rw [spanN]
    refine PI_spanN k (n + 1) _ (by omega) ?_
    split
    · exact PI_free (by omega) h
    · exact h
theorem PI_addW {P : jO} {h n : Nat} {t : Int32} (hn : n < 64) (hh : h < 8) (hP : PI P) : PI (addW P h n t) := by
  unfold addW
  obtain ⟨w, h1, h2, h3⟩ := hP.2.2 n hn
  have hw : toN (P 7 n) = w := by rw [h2, toN_nI (by omega)]
  simp only [hw]
  split
  · exact PI_lease hh hP
  · split
    · rename_i hw3
      obtain ⟨g1, g2, g3⟩ := hP
      refine ⟨by simp only [put_app]; simpa using g1, fun i hi => by simp only [put_app]; simpa using g2 i hi, fun i hi => ?_⟩
      by_cases hin : i = n
      · subst hin
        refine ⟨w + 1, by omega, ?_, fun q hq => ?_⟩
        · simp only [put_app]
          simp [h2, nI_add]
        · simp only [put_app]
          by_cases hq2 : q = w
          · subst hq2
            simp
            exact ⟨h, hh, rfl⟩
          · have h9 := h3 q (by omega)
            have h8 : ¬ i * 3 + q = i * 3 + w := by omega
            simp only [h8]
            simpa using h9
      · refine PIq_of ?_ (fun q hq => ?_) (g3 i hi)
        · simp only [put_app]
          simp [hin]
        · simp only [put_app]
          have h8 : ¬ i * 3 + q = n * 3 + w := by omega
          simp [h8]
    · exact hP
