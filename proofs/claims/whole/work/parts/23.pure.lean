/-! the settings stay -/
theorem r1_drop (P : jO) (n k : Nat) : dropP P n k 1 = P 1 := by
  unfold dropP
  rw [put_ne (by decide), shiftP_ne _ _ _ _ _ (by decide) (by decide)]
theorem r1_serveS (P : jO) (n : Nat) : serveS P n 1 = P 1 := by
  unfold serveS
  show (if nI (hasP (dropP P n 0) (P 8 (n * 3))) < dropP P n 0 1 1 then leaseP (dropP P n 0) (toN (P 8 (n * 3))) n (P 9 (n * 3)) else put (dropP P n 0) 11 (toN (P 8 (n * 3))) ((dropP P n 0) 11 (toN (P 8 (n * 3))) + nI 1)) 1 = P 1
  split
  · rw [row_app, r1_drop]
  · rw [put_ne (by decide), r1_drop]
theorem r1_serve (n : Nat) : ∀ (k : Nat) (P : jO), serve n k P 1 = P 1
  | 0, _ => rfl
  | k + 1, P => by
    rw [serve]
    split
    · rw [r1_serve n k, r1_serveS]
    · rfl
theorem r1_free (P : jO) (n : Nat) : freeP P n 1 = P 1 := by
  unfold freeP
  rw [r1_serve, put_ne (by decide), put_ne (by decide)]
theorem r1_dueN : ∀ (k n : Nat) (P : jO), dueN k n P 1 = P 1
  | 0, _, _ => rfl
  | k + 1, n, P => by
    rw [dueN, r1_dueN k]
    split
    · rw [r1_free]
    · rfl
theorem r1_unitsN : ∀ (k n : Nat) (P : jO), unitsN k n P 1 = P 1
  | 0, _, _ => rfl
  | k + 1, n, P => by
    rw [unitsN, r1_unitsN k]
    split
    · rw [put_ne (by decide)]
    · rfl
theorem r1_tick (P : jO) : tickP P 1 = P 1 := by
  unfold tickP
  rw [r1_dueN, put_ne (by decide), r1_unitsN]
theorem r1_passN : ∀ (k : Nat) (P : jO), passN k P 1 = P 1
  | 0, _ => rfl
  | k + 1, P => by rw [passN, r1_passN k, r1_tick]
theorem r1_leap (P : jO) (u : Int32) : leapP P u 1 = P 1 := by
  unfold leapP
  split
  · rfl
  · rw [r1_dueN, put_ne (by decide)]
theorem r1_leaseN (h : Nat) (t : Int32) : ∀ (k n : Nat) (P : jO), leaseN h t k n P 1 = P 1
  | 0, _, _ => rfl
  | k + 1, n, P => by rw [leaseN, r1_leaseN h t k, row_app]
theorem r1_leaseRow (P : jO) (z h m : Nat) (t : Int32) : leaseRowP P z h m t 1 = P 1 := by
  unfold leaseRowP
  cases lowR P z (nI m) with
  | none => rfl
  | some f => exact r1_leaseN _ _ _ _ _
theorem r1_spanN (h : Int32) : ∀ (k n : Nat) (s : jO × Nat), (spanN h k n s).1 1 = s.1 1
  | 0, _, _ => rfl
  | k + 1, n, s => by
    rw [spanN, r1_spanN h k]
    split
    · exact r1_free _ _
    · rfl
theorem r1_addW (P : jO) (h n : Nat) (t : Int32) : addW P h n t 1 = P 1 := by
  unfold addW
  split
  · rw [row_app]
  · split
    · simp only
      rw [put_ne (by decide), put_ne (by decide), put_ne (by decide)]
    · rfl
theorem PI_leaseRow {P : jO} {z h m : Nat} {t : Int32} (hh : h < 8) (hP : PI P) : PI (leaseRowP P z h m t) := by
  unfold leaseRowP
  split
  · exact hP
  · exact PI_leaseN hh _ _ _ hP
/-! what would be -/
def freesP (P : jO) (z : Nat) : Nat := cnt (fun n => decide (stg P n = nI 0)) z
def leapN (u : Int32) : Nat → jO → jO
  | 0, P => P
  | k + 1, P => if u < leapV P u then P else leapN u k (leapP P u)
def freeL (z : Nat) (m u t0 : Int32) : Nat → jO → Int32 × jO
  | 0, P => (-1, P)
  | k + 1, P => if u < leapV P u then (-1, P) else if nI (freesP (leapP P u) z) < m then freeL z m u t0 k (leapP P u) else (leapP P u 0 0 - t0, leapP P u)
def wishL (h : Int32) (n : Nat) (u t0 : Int32) : Nat → jO → Int32 × jO
  | 0, P => (-1, P)
  | k + 1, P => if u < leapV P u then (-1, P) else if leapP P u 2 n = h then (leapP P u 0 0 - t0, leapP P u) else wishL h n u t0 k (leapP P u)
/-- an order that was read, carried out: none if its method would throw -/
def cryP (P : jO) (z : Nat) (k h f s : Int32) : Option jO :=
  if k = nI 116 then (if (hasR P h (nI 1) && (lowR P z (nI 1)).isSome) = true then some (leaseRowP P z (toN h) 1 s) else none)
  else if k = nI 119 then (if (!decide (f < 0) && !decide (P 1 3 ≤ f)) = true then (if mayW P h (toN f) = true then some (addW P (toN h) (toN f) s) else none) else none)
  else if k = nI 103 then (if (!decide (f < 0) && !decide (P 1 3 ≤ f)) = true then (if (!decide (s < 0) && !decide (P 1 3 ≤ s)) = true then some (spanN h (toN s + 1 - toN f) (toN f) (P, 0)).1 else none) else none)
  else (if (!decide (nI 9999 < P 0 0 + s)) = true then some (passN (toN s) P) else none)
/-- what an order that was read holds -/
def ordOk (Q : jO) : Prop :=
  (Q 0 3 = nI 116 ∧ ∃ h, h < 8 ∧ Q 0 4 = nI h) ∨
  (Q 0 3 = nI 119 ∧ (∃ h, h < 8 ∧ Q 0 4 = nI h) ∧ ∃ f, f < 64 ∧ Q 0 5 = nI f) ∨
  (Q 0 3 = nI 103 ∧ (∃ h, h < 8 ∧ Q 0 4 = nI h) ∧ ∃ f s, f ≤ s ∧ s < 64 ∧ Q 0 5 = nI f ∧ Q 0 6 = nI s) ∨
  (Q 0 3 = nI 100 ∧ ∃ s, s < 100 ∧ Q 0 6 = nI s)
theorem PI_cry {P P' : jO} {z : Nat} {Q : jO} (hP : PI P) (ho : ordOk Q) (h : cryP P z (Q 0 3) (Q 0 4) (Q 0 5) (Q 0 6) = some P') : PI P' ∧ P' 1 = P 1 := by
  unfold cryP at h
  rcases ho with ⟨hk, a, ha, he⟩ | ⟨hk, ⟨a, ha, he⟩, f, hf, hfe⟩ | ⟨hk, ⟨a, ha, he⟩, f, s, hfs, hs, hfe, hse⟩ | ⟨hk, s, hs, hse⟩
  · rw [if_pos hk] at h
    split at h
    · cases h
      rw [he, toN_nI (by omega)]
      exact ⟨PI_leaseRow ha hP, r1_leaseRow _ _ _ _ _⟩
    · cases h
  · rw [if_neg (by rw [hk]; decide), if_pos hk] at h
    split at h
    · split at h
      · cases h
        rw [he, hfe, toN_nI (by omega), toN_nI (by omega)]
        exact ⟨PI_addW hf ha hP, r1_addW _ _ _ _⟩
      · cases h
    · cases h
  · rw [if_neg (by rw [hk]; decide), if_neg (by rw [hk]; decide), if_pos hk] at h
    split at h
    · split at h
      · cases h
        rw [hfe, hse, toN_nI (by omega), toN_nI (by omega)]
        exact ⟨PI_spanN _ _ _ (by omega) hP, r1_spanN _ _ _ _⟩
      · cases h
    · cases h
  · rw [if_neg (by rw [hk]; decide), if_neg (by rw [hk]; decide), if_neg (by rw [hk]; decide)] at h
    split at h
    · cases h
      exact ⟨PI_passN _ _ hP, r1_passN _ _⟩
    · cases h
def okRun (z : Nat) : Nat → jO → jO → Prop
  | 0, _, _ => True
  | k + 1, Q, P => Q 0 1 < Q 0 0 → ordOk (rdNext Q) ∧ ∀ P1, cryP P z (rdNext Q 0 3) (rdNext Q 0 4) (rdNext Q 0 5) (rdNext Q 0 6) = some P1 → okRun z k (rdNext Q) P1
def runL (z : Nat) : Nat → jO → jO → Nat → jO × jO × Nat
  | 0, Q, P, c => (Q, P, c)
  | k + 1, Q, P, c => if Q 0 1 < Q 0 0 then
      (match cryP P z (rdNext Q 0 3) (rdNext Q 0 4) (rdNext Q 0 5) (rdNext Q 0 6) with
        | none => (rdNext Q, P, c)
        | some P1 => runL z k (rdNext Q) P1 (c + 1))
    else (Q, P, c)
