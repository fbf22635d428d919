/-! the settings stay -/
theorem r1_drop (P : jO) (n k : Nat) : dropP P n k 1 = P 1 := by
  unfold dropP
  rw [put_ne (by decide), shiftP_ne _ _ _ _ _ (by decide) (by decide)]
theorem r1_serveS (P : jO) (n : Nat) : serveS P n 1 = P 1 := by
  unfold serveS
  show (if nI (hasP (dropP P n 0) (P 8 (n * 3))) < dropP P n 0 1 1 then leaseP (dropP P n 0) (toN (P 8 (n * 3))) n (P 9 (n * 3)) else put (dropP P n 0) 11 (toN (P 8 (n * 3))) ((dropP P n 0) 11 (toN (P 8 (n * 3))) + nI 1)) 1 = P 1
  split
  · rw [row_app, r1_drop]
  · rw [put_ne (by decide), r1_drop]
theorem r1_serve (n : Nat) : ∀ (k : Nat) (P : jO), serve n k P 1 = P 1
  | 0, _ => rfl
  | k + 1, P => by
    rw [serve]
    split
    · rw [r1_serve n k, r1_serveS]
    · rfl
theorem r1_free (P : jO) (n : Nat) : freeP P n 1 = P 1 := by
  unfold freeP
  rw [r1_serve, put_ne (by decide), put_ne (by decide)]
theorem r1_dueN : ∀ (k n : Nat) (P : jO), dueN k n P 1 = P 1
  | 0, _, _ => rfl
  | k + 1, n, P => by
    rw [dueN, r1_dueN k]
    split
    · rw [r1_free]
    · rfl
theorem r1_unitsN : ∀ (k n : Nat) (P : jO), unitsN k n P 1 = P 1
  | 0, _, _ => rfl
  | k + 1, n, P => by
    rw [unitsN, r1_unitsN k]
    split
    · rw [put_ne (by decide)]
    · rfl
theorem r1_tick (P : jO) : tickP P 1 = P 1 := by
  unfold tickP
  rw [r1_dueN, put_ne (by decide), r1_unitsN]
theorem r1_passN : ∀ (k : Nat) (P : jO), passN k P 1 = P 1
  | 0, _ => rfl
  | k + 1, P => by rw [passN, r1_passN k, r1_tick]
theorem r1_leap (P : jO) (u : Int32) : leapP P u 1 = P 1 := by
  unfold leapP
  split
  · rfl
  · rw [r1_dueN, put_ne (by decide)]
theorem r1_leaseN (h : Nat) (t : Int32) : ∀ (k n : Nat) (P : jO), leaseN h t k n P 1 = P 1
  | 0, _, _ => rfl
  | k + 1, n, P => by rw [leaseN, r1_leaseN h t k, row_app]
theorem r1_leaseRow (P : jO) (z h m : Nat) (t : Int32) : leaseRowP P z h m t 1 = P 1 := by
  unfold leaseRowP
  cases lowR P z (nI m) with
  | none => rfl
  | some f => exact r1_leaseN _ _ _ _ _
theorem r1_spanN (h : Int32) : ∀ (k n : Nat) (s : jO × Nat), (spanN h k n s).1 1 = s.1 1
  | 0, _, _ => rfl
  | k + 1, n, s => by
    rw [spanN, r1_spanN h k]
    split
    · exact r1_free _ _
    · rfl
theorem r1_addW (P : jO) (h n : Nat) (t : Int32) : addW P h n t 1 = P 1 := by
  unfold addW
  split
  · rw [row_app]
  · split
    · simp only
      rw [put_ne (by decide), put_ne (by decide), put_ne (by decide)]
    · rfl
theorem PI_leaseRow {P : jO} {z h m : Nat} {t : Int32} (hh : h < 8) (hP : PI P) : PI (leaseRowP P z h m t) := by
  unfold leaseRowP
  split
  · exact hP
  · exact PI_leaseN hh _ _ _ hP
/-! what would be -/
def freesP (P : jO) (z : Nat) : Nat := cnt (fun n => decide (stg P n = nI 0)) z
def leapN (u : Int32) : Nat → jO → jO
  | 0, P => P
  | k + 1, P => if u < leapV P u then P else leapN u k (leapP P u)
def freeL (z : Nat) (m u t0 : Int32) : Nat → jO → Int32 × jO
  | 0, P => (-1, P)
  | k + 1, P => if u < leapV P u then (-1, P) else if nI (freesP (leapP P u) z) < m then freeL z m u t0 k (leapP P u) else (leapP P u 0 0 - t0, leapP P u)
def wishL (h : Int32) (n : Nat) (u t0 : Int32) : Nat → jO → Int32 × jO
  | 0, P => (-1, P)
  | k + 1, P => if u < leapV P u then (-1, P) else if leapP P u 2 n = h then (leapP P u 0 0 - t0, leapP P u) else wishL h n u t0 k (leapP P u)
