/-! LOOKS, whatever the pool that is played ahead holds -/
section LOOK
variable {l : Launch} {E : jE} {S : jS} {A : jO} {K : Nat → Nat} {y : Int64 × Nat}
theorem s10 (S : jS) (A : jO) : setO S 1 A 0 = S 0 := setO_ne (by decide)
theorem s19 (S : jS) (A : jO) : setO S 1 A 9 = S 9 := setO_ne (by decide)
theorem okN_1 {n : Int32} (h : okN S n = true) : okN (setO S 1 A) n = true := by
  unfold okN at *
  rw [s10]
  exact h
theorem l_num {n q : Nat} {v : Int32} (hn : n < 64) (hok : okN S (nI n) = true) (hq : q ≤ 8) (hv : ofN (S 0) n q = v) : Ct l E yX4_number cX4_number 3 (some .int) 7 [.ref (ad E 11 0), .int (nI n), .int (nI q)] (setO S 1 A, (K, y)) (some (.int v)) (setO S 1 A, (K, y)) := by
  have := c4_number l E (setO S 1 A) K y hn (okN_1 hok) hq
  rw [s10, hv] at this
  exact this
theorem l_hol {h q : Nat} {v : Int32} (hh : h < 8) (hP : PI (S 0)) (hq : q ≤ 7) (hv : ofH (S 0) h q = v) : Ct l E yX4_holder cX4_holder 3 (some .int) 7 [.ref (ad E 11 0), .int (nI h), .int (nI q)] (setO S 1 A, (K, y)) (some (.int v)) (setO S 1 A, (K, y)) := by
  have := c4_holder l E (setO S 1 A) K y hh (by rw [s10]; exact hP) hq
  rw [s10, hv] at this
  exact this
theorem l_cnt {z q : Nat} {v : Int32} (hz : S 0 1 3 = nI z) (hz6 : z ≤ 64) (hq : q ≤ 12) (hv : cntA S z q = v) : Ct l E yX4_count cX4_count 2 (some .int) 7 [.ref (ad E 11 0), .int (nI q)] (setO S 1 A, (K, y)) (some (.int v)) (setO S 1 A, (K, y)) := by
  have := c4_count l E (setO S 1 A) K y (by rw [s10]; exact hz) hz6 hq
  unfold cntA at this hv
  rw [s10, s19, hv] at this
  exact this
theorem l_set {z : Nat} (hz : S 0 1 3 = nI z) : Ct l E yX4_setting cX4_setting 2 (some .int) 7 [.ref (ad E 11 0), .int (nI 3)] (setO S 1 A, (K, y)) (some (.int (nI z))) (setO S 1 A, (K, y)) := by
  have := c4_setting l E (setO S 1 A) K y (q := 3) (by decide)
  rw [s10, hz] at this
  exact this
theorem l_span {z k w : Nat} {v : Int32} (hz : S 0 1 3 = nI z) (hz6 : z ≤ 64) (hk : k < 2 ^ 30) (hw : w ≤ 1) (hv : ofSp (S 0) z (nI k) (nI w) = v) : Ct l E yX4_span cX4_span 3 (some .int) 7 [.ref (ad E 11 0), .int (nI k), .int (nI w)] (setO S 1 A, (K, y)) (some (.int v)) (setO S 1 A, (K, y)) := by
  have := c4_span l E (setO S 1 A) K y (by rw [s10]; exact hz) hz6 (s := nI k) (w := nI w) (Int32.not_lt.mp (nI_pos (by omega))) (nI_nlt (by omega) (by omega)) (nI_le hw (by decide))
  rw [s10, hv] at this
  exact this
theorem l_who {n : Nat} (hP : PI (S 0)) (hn : n < 64) (hok : okN S (nI n) = true) : Ct l E yX4_whoAfter cX4_whoAfter 3 (some .int) 7 [.ref (ad E 11 0), .int (nI n), .int (nI 0)] (setO S 1 A, (K, y)) (some (.int (S 0 2 n))) (setO S 1 (S 0), (K, y)) := by
  have := c4_whoAfter l E (setO S 1 A) K y (by rw [s10]; exact hP) hn (okN_1 hok) (b := 0) (by decide)
  rw [setO_two, leapN, s10] at this
  exact this
theorem l_wis {h n : Nat} (hP : PI (S 0)) (hh : h < 8) (hn : n < 64) (hok : okN S (nI n) = true) (hw : S 0 2 n = nI h) : Ct l E yX4_wishedIn cX4_wishedIn 3 (some .int) 7 [.ref (ad E 11 0), .int (nI h), .int (nI n)] (setO S 1 A, (K, y)) (some (.int (nI 0))) (setO S 1 A, (K, y)) := by
  obtain ⟨w3, w⟩ := PI_w hP hn
  have := c4_wishedIn l E (setO S 1 A) K y (by rw [s10]; exact hP) hh hn (okN_1 hok) w3 (by rw [s10]; exact w)
  have e : wishT (setO S 1 A) h n = (nI 0, A) := by
    unfold wishT
    rw [s10, if_pos hw, setO_at]
  rw [e, setO_two] at this
  exact this
theorem l_fre {z m : Nat} {v : Int32} {B : jO} (hP : PI (S 0)) (hz : S 0 1 3 = nI z) (hz6 : z ≤ 64) (hm1 : 1 ≤ m) (hm : m ≤ 64) (he : freeT (setO S 1 A) z (nI m) = (v, B)) : Ct l E yX4_freeIn cX4_freeIn 2 (some .int) 7 [.ref (ad E 11 0), .int (nI m)] (setO S 1 A, (K, y)) (some (.int v)) (setO S 1 B, (K, y)) := by
  have := c4_freeIn l E (setO S 1 A) K y (by rw [s10]; exact hP) (by rw [s10]; exact hz) hz6 (m := nI m) (nI_nlt hm1 (by omega)) (nI_le hm (by decide))
  rw [he, setO_two] at this
  exact this
end LOOK
