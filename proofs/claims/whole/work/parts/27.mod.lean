/-! THE MODEL: object 10; T 0 i: kept, typed, thrown, at, isFault, value, ordered; rows 1 now, 2 then, 3 past, 4 text, 5 orders. A state of the pool in a row r of 800 -/
theorem putA_self (P : jO) (j : Nat) : putA P j (P j) = P := by
  funext q
  by_cases h : q = j
  · subst h; simp [putA]
  · simp [putA, h]
theorem putA_two (P : jO) (j : Nat) (f g : Nat → Int32) : putA (putA P j f) j g = putA P j g := by
  funext q
  by_cases h : q = j <;> simp [putA, h]
theorem alT {t n : Nat} (ht : t = 1 ∨ t = 2) (h : n < 800) : n < aln 10 t := by
  rcases ht with rfl | rfl <;> exact h
section ROWSR
variable {l : Launch} {E : jE} {own : String} {cc : ByteArray} {nL d n0 cap : Nat} {J : jT} {pc : Nat} {L : List (Option Value)} {rest : List Value}
theorem r_ialdR (hJ : jR l E own cc nL d n0 cap J) {S : jS} {x : jX} {T : jO} {t n : Nat} {r : Nat → Int32} {i : Int32} (ht : t = 1 ∨ t = 2) (hn : n < 800) (hi : i = nI n) (hd : decode cc pc = .ok (.iaload, 1)) (k : J (setO S 10 (putA T t r), x) (pc + 1) L (.int (r n) :: rest)) : J (setO S 10 (putA T t r), x) pc L (.int i :: .ref (ad E 10 t) :: rest) :=
  r_ialdO hJ (by decide) (alT ht hn) hi hd (by rw [putA_at]; exact k)
theorem r_iastR (hJ : jR l E own cc nL d n0 cap J) {S : jS} {x : jX} {T : jO} {t n : Nat} {r : Nat → Int32} {i v : Int32} (ht : t = 1 ∨ t = 2) (hn : n < 800) (hi : i = nI n) (hd : decode cc pc = .ok (.iastore, 1)) (k : J (setO S 10 (putA T t (upd r n v)), x) (pc + 1) L rest) : J (setO S 10 (putA T t r), x) pc L (.int v :: .int i :: .ref (ad E 10 t) :: rest) :=
  r_iast hJ (by decide) (alT ht hn) hi hd (by unfold put; rw [putA_at, putA_two]; exact k)
theorem r_iaddN (hJ : jR l E own cc nL d n0 cap J) {G : jG} {a b : Nat} (hd : decode cc pc = .ok (.iadd, 1)) (k : J G (pc + 1) L (.int (nI (a + b)) :: rest)) : J G pc L (.int (nI b) :: .int (nI a) :: rest) := r_iadd hJ hd (by rw [nI_add]; exact k)
theorem r_imulN (hJ : jR l E own cc nL d n0 cap J) {G : jG} {a b : Nat} (hd : decode cc pc = .ok (.imul, 1)) (k : J G (pc + 1) L (.int (nI (a * b)) :: rest)) : J G pc L (.int (nI b) :: .int (nI a) :: rest) := r_imul hJ hd (by rw [pk_mul]; exact k)
end ROWSR
def mFree (r : Nat → Int32) (n : Nat) : Bool := decide (r ((32 + 12 * n)) = -1)
def mStg (r : Nat → Int32) (n : Nat) : Int32 := if r ((32 + 12 * n)) = -1 then 0 else if r 0 < r ((32 + 12 * n) + 2) then 1 else 2
def mHas (r : Nat → Int32) (h : Int32) (z : Nat) : Nat := cnt (fun n => decide (r ((32 + 12 * n)) = h)) z
def mGives (r : Nat → Int32) (n h : Nat) (t : Int32) : Nat → Int32 :=
  let r1 := upd r ((32 + 12 * n)) (nI h)
  let r2 := upd r1 ((32 + 12 * n) + 1) (r1 0)
  let r3 := upd r2 ((32 + 12 * n) + 2) (r2 0 + t)
  let r4 := upd r3 ((32 + 12 * n) + 3) (r3 0 + t + r3 1)
  let r5 := upd r4 ((32 + 12 * n) + 4) (r4 ((32 + 12 * n) + 4) + nI 1)
  upd r5 (8 + h) (r5 (8 + h) + nI 1)
def mShift (n : Nat) : Nat → Nat → (Nat → Int32) → (Nat → Int32)
  | 0, _, r => r
  | c + 1, i, r => mShift n c (i + 1) (let r1 := upd r ((32 + 12 * n) + 6 + 2 * i) (r ((32 + 12 * n) + 6 + 2 * i + 2)); upd r1 ((32 + 12 * n) + 6 + 2 * i + 1) (r1 ((32 + 12 * n) + 6 + 2 * i + 3)))
def mDrop (r : Nat → Int32) (n k : Nat) : Nat → Int32 := let r1 := mShift n (2 - k) k r; upd r1 ((32 + 12 * n) + 5) (r1 ((32 + 12 * n) + 5) - nI 1)
def mWaits (r : Nat → Int32) (n w h : Nat) (t : Int32) : Nat → Int32 :=
  let r1 := upd r ((32 + 12 * n) + 6 + 2 * w) (nI h)
  let r2 := upd r1 ((32 + 12 * n) + 6 + 2 * w + 1) t
  upd r2 ((32 + 12 * n) + 5) (r2 ((32 + 12 * n) + 5) + nI 1)
theorem or4 {t : Nat} (ht : t = 1 ∨ t = 2) : t < 6 ∧ 0 < t := by omega
set_option maxRecDepth 100000 in
set_option maxHeartbeats 1000000 in
theorem c5_in (l : Launch) (E : jE) (S : jS) (x : jX) (v lo hi : Int32) : Ct l E yX5_in cX5_in 3 (some .boolean) 1 [.int v, .int lo, .int hi] (S, x) (some (.int (bI (witQ v lo hi)))) (S, x) := by
  refine Ct.of (by decide +kernel) (Nat.le_refl _) (Nat.le_of_ble_eq_true rfl) rfl (fun J hJ hF => ?_)
  refine r_iload_n hJ dX5_in_0 rfl jg0 ?_
  refine r_iload_n hJ dX5_in_1 rfl jg1 ?_
  refine r_icmp_lt hJ (tgt := 14) dX5_in_2 (by decide) (fun c2 => ?_) (fun c2 => ?_)
  · have c2 := Int32.not_le.mpr c2
    refine r_iconst hJ (v := nI 0) dX5_in_14 (by decide) ?_
    exact ret_z hF dX5_in_15 (by decide) (by simp [witQ, bI, nI0, nI1, c2]) rfl
  · have c2 := Int32.not_lt.mp c2
    refine r_iload_n hJ dX5_in_5 rfl jg0 ?_
    refine r_iload_n hJ dX5_in_6 rfl jg2 ?_
    refine r_icmp_gt hJ (tgt := 14) dX5_in_7 (by decide) (fun c7 => ?_) (fun c7 => ?_)
    · have c7 := Int32.not_le.mpr c7
      refine r_iconst hJ (v := nI 0) dX5_in_14 (by decide) ?_
      exact ret_z hF dX5_in_15 (by decide) (by simp [witQ, bI, nI0, nI1, c2, c7]) rfl
    · have c7 := Int32.not_lt.mp c7
      refine r_iconst hJ (v := nI 1) dX5_in_10 (by decide) ?_
      refine r_goto hJ (tgt := 15) dX5_in_11 (by decide) ?_
      exact ret_z hF dX5_in_15 (by decide) (by simp [witQ, bI, nI0, nI1, c2, c7]) rfl

set_option maxRecDepth 100000 in
set_option maxHeartbeats 1000000 in
theorem c5_isHolder (l : Launch) (E : jE) (S : jS) (x : jX) (v : Int32) : Ct l E yX5_isHolder cX5_isHolder 1 (some .boolean) 2 [.int v] (S, x) (some (.int (bI (witQ v (nI 0) (nI 7))))) (S, x) := by
  refine Ct.of (by decide +kernel) (Nat.le_refl _) (Nat.le_of_ble_eq_true rfl) rfl (fun J hJ hF => ?_)
  refine r_iload_n hJ dX5_isHolder_0 rfl jg0 ?_
  refine r_iconst hJ (v := nI 0) dX5_isHolder_1 (by decide) ?_
  refine r_bipush hJ (v := nI 7) dX5_isHolder_2 (by decide) ?_
  refine r_S3v hJ kX5_29 (c5_in l E S x v (nI 0) (nI 7)) dX5_isHolder_4 ⟨by decide, by decide⟩ (Nat.le_of_ble_eq_true rfl) ?_
  exact ret_z hF dX5_isHolder_7 (bI_nar _).1 rfl rfl

set_option maxRecDepth 100000 in
set_option maxHeartbeats 1000000 in
theorem c5_isTerm (l : Launch) (E : jE) (S : jS) (x : jX) (v : Int32) : Ct l E yX5_isTerm cX5_isTerm 1 (some .boolean) 2 [.int v] (S, x) (some (.int (bI (witQ v (nI 1) (nI 999))))) (S, x) := by
  refine Ct.of (by decide +kernel) (Nat.le_refl _) (Nat.le_of_ble_eq_true rfl) rfl (fun J hJ hF => ?_)
  refine r_iload_n hJ dX5_isTerm_0 rfl jg0 ?_
  refine r_iconst hJ (v := nI 1) dX5_isTerm_1 (by decide) ?_
  refine r_sipush hJ (v := nI 999) dX5_isTerm_2 (by decide) ?_
  refine r_S3v hJ kX5_29 (c5_in l E S x v (nI 1) (nI 999)) dX5_isTerm_5 ⟨by decide, by decide⟩ (Nat.le_of_ble_eq_true rfl) ?_
  exact ret_z hF dX5_isTerm_8 (bI_nar _).1 rfl rfl

set_option maxRecDepth 100000 in
set_option maxHeartbeats 1000000 in
theorem c5_row (l : Launch) (E : jE) (S : jS) (x : jX) (n : Nat) : Ct l E yX5_row cX5_row 1 (some .int) 1 [.int (nI n)] (S, x) (some (.int (nI ((32 + 12 * n))))) (S, x) := by
  refine Ct.of (by decide +kernel) (Nat.le_refl _) (Nat.le_of_ble_eq_true rfl) rfl (fun J hJ hF => ?_)
  refine r_bipush hJ (v := nI 32) dX5_row_0 (by decide) ?_
  refine r_bipush hJ (v := nI 12) dX5_row_2 (by decide) ?_
  refine r_iload_n hJ dX5_row_4 rfl jg0 ?_
  refine r_imulN hJ dX5_row_5 ?_
  refine r_iaddN hJ dX5_row_6 ?_
  exact ret_i hF dX5_row_7 rfl rfl

set_option maxRecDepth 100000 in
set_option maxHeartbeats 1000000 in
theorem c5_isFree (l : Launch) (E : jE) (S : jS) (x : jX) (T : jO) {t : Nat} (ht : t = 1 ∨ t = 2) (r : Nat → Int32) {n : Nat} (hn : n < 64) : Ct l E yX5_isFree cX5_isFree 2 (some .boolean) 2 [.ref (ad E 10 t), .int (nI n)] (setO S 10 (putA T t r), x) (some (.int (bI (mFree r n)))) (setO S 10 (putA T t r), x) := by
  refine Ct.of (by decide +kernel) (Nat.le_refl _) (Nat.le_of_ble_eq_true rfl) rfl (fun J hJ hF => ?_)
  refine r_aload_n hJ dX5_isFree_0 rfl jg0 ?_
  refine r_iload_n hJ dX5_isFree_1 rfl jg1 ?_
  refine r_S1v hJ kX5_40 (c5_row l E (setO S 10 (putA T t r)) x n) dX5_isFree_2 ⟨by decide, by decide⟩ (Nat.le_of_ble_eq_true rfl) ?_
  refine r_ialdR hJ ht (by omega) rfl dX5_isFree_5 ?_
  refine r_iconst hJ (v := (-1)) dX5_isFree_6 (by decide) ?_
  refine r_icmp_ne hJ (tgt := 14) dX5_isFree_7 (by decide) (fun c7 => ?_) (fun c7 => ?_)
  · refine r_iconst hJ (v := nI 0) dX5_isFree_14 (by decide) ?_
    exact ret_z hF dX5_isFree_15 (by decide) (by simp [mFree, bI, nI0, nI1, c7]) rfl
  · refine r_iconst hJ (v := nI 1) dX5_isFree_10 (by decide) ?_
    refine r_goto hJ (tgt := 15) dX5_isFree_11 (by decide) ?_
    exact ret_z hF dX5_isFree_15 (by decide) (by simp [mFree, bI, nI0, nI1, c7]) rfl

set_option maxRecDepth 100000 in
set_option maxHeartbeats 1000000 in
theorem c5_stageOf (l : Launch) (E : jE) (S : jS) (x : jX) (T : jO) {t : Nat} (ht : t = 1 ∨ t = 2) (r : Nat → Int32) {n : Nat} (hn : n < 64) : Ct l E yX5_stageOf cX5_stageOf 2 (some .int) 3 [.ref (ad E 10 t), .int (nI n)] (setO S 10 (putA T t r), x) (some (.int (mStg r n))) (setO S 10 (putA T t r), x) := by
  refine Ct.of (by decide +kernel) (Nat.le_refl _) (Nat.le_of_ble_eq_true rfl) rfl (fun J hJ hF => ?_)
  refine r_aload_n hJ dX5_stageOf_0 rfl jg0 ?_
  refine r_iload_n hJ dX5_stageOf_1 rfl jg1 ?_
  refine r_S2v hJ kX5_43 (c5_isFree l E S x T ht r hn) dX5_stageOf_2 ⟨by decide, by decide⟩ (Nat.le_of_ble_eq_true rfl) ?_
  refine r_if_eq hJ (tgt := 12) dX5_stageOf_5 (by decide) (fun c5 => ?_) (fun c5 => ?_)
  · rw [bI_0] at c5
    unfold mFree at c5
    rw [decide_eq_false_iff_not] at c5
    refine r_aload_n hJ dX5_stageOf_12 rfl jg0 ?_
    refine r_iconst hJ (v := nI 0) dX5_stageOf_13 (by decide) ?_
    refine r_ialdR hJ ht (by omega) rfl dX5_stageOf_14 ?_
    refine r_aload_n hJ dX5_stageOf_15 rfl jg0 ?_
    refine r_iload_n hJ dX5_stageOf_16 rfl jg1 ?_
    refine r_S1v hJ kX5_40 (c5_row l E (setO S 10 (putA T t r)) x n) dX5_stageOf_17 ⟨by decide, by decide⟩ (Nat.le_of_ble_eq_true rfl) ?_
    refine r_iconst hJ (v := nI 2) dX5_stageOf_20 (by decide) ?_
    refine r_iaddN hJ dX5_stageOf_21 ?_
    refine r_ialdR hJ ht (by omega) rfl dX5_stageOf_22 ?_
    refine r_icmp_ge hJ (tgt := 30) dX5_stageOf_23 (by decide) (fun c23 => ?_) (fun c23 => ?_)
    · have c23 := Int32.not_lt.mpr c23
      refine r_iconst hJ (v := nI 2) dX5_stageOf_30 (by decide) ?_
      exact ret_i hF dX5_stageOf_31 (by unfold mStg; simp only [c5, c23, if_true, if_false]; try rfl) rfl
    · have c23 := Int32.not_le.mp c23
      refine r_iconst hJ (v := nI 1) dX5_stageOf_26 (by decide) ?_
      refine r_goto hJ (tgt := 31) dX5_stageOf_27 (by decide) ?_
      exact ret_i hF dX5_stageOf_31 (by unfold mStg; simp only [c5, c23, if_true, if_false]; try rfl) rfl
  · have c5 := bI_ne c5
    unfold mFree at c5
    rw [decide_eq_true_iff] at c5
    refine r_iconst hJ (v := nI 0) dX5_stageOf_8 (by decide) ?_
    refine r_goto hJ (tgt := 31) dX5_stageOf_9 (by decide) ?_
    exact ret_i hF dX5_stageOf_31 (by unfold mStg; simp only [c5, if_true, if_false]; try rfl) rfl

set_option maxRecDepth 100000 in
set_option maxHeartbeats 1000000 in
theorem c5_has (l : Launch) (E : jE) (S : jS) (x : jX) (T : jO) {t : Nat} (ht : t = 1 ∨ t = 2) (r : Nat → Int32) {z : Nat} (hz : r 4 = nI z) (hz4 : z ≤ 64) (h : Int32) : Ct l E yX5_has cX5_has 4 (some .int) 2 [.ref (ad E 10 t), .int h] (setO S 10 (putA T t r), x) (some (.int (nI (mHas r h z)))) (setO S 10 (putA T t r), x) := by
  refine Ct.of (by decide +kernel) (Nat.le_refl _) (Nat.le_of_ble_eq_true rfl) rfl (fun J hJ hF => ?_)
  have loop : ∀ (k i : Nat), i + k = z → J (setO S 10 (putA T t r), x) 4 [some (.ref (ad E 10 t)), some (.int h), some (.int (nI (cnt (fun n => decide (r ((32 + 12 * n)) = h)) i))), some (.int (nI i))] [] := by
    intro k
    induction k with
    | zero =>
      intro i hi
      obtain rfl : i = z := by omega
      refine r_iload_n hJ dX5_has_4 rfl jg3 ?_
      refine r_aload_n hJ dX5_has_5 rfl jg0 ?_
      refine r_iconst hJ (v := nI 4) dX5_has_6 (by decide) ?_
      refine r_ialdR hJ ht (by omega) rfl dX5_has_7 ?_
      refine r_icmp_ge hJ (tgt := 35) dX5_has_8 (by decide) (fun c8 => ?_) (fun c8 => ?_)
      · refine r_iload_n hJ dX5_has_35 rfl jg2 ?_
        exact ret_i hF dX5_has_36 rfl rfl
      · rw [hz] at c8
        exact absurd (nI_le (by omega) (by omega)) c8
    | succ k ih =>
      intro i hi
      refine r_iload_n hJ dX5_has_4 rfl jg3 ?_
      refine r_aload_n hJ dX5_has_5 rfl jg0 ?_
      refine r_iconst hJ (v := nI 4) dX5_has_6 (by decide) ?_
      refine r_ialdR hJ ht (by omega) rfl dX5_has_7 ?_
      refine r_icmp_ge hJ (tgt := 35) dX5_has_8 (by decide) (fun c8 => ?_) (fun c8 => ?_)
      · rw [hz] at c8
        exact absurd c8 (nI_ge (by omega) (by omega))
      · refine r_iload_n hJ dX5_has_11 rfl jg2 ?_
        refine r_aload_n hJ dX5_has_12 rfl jg0 ?_
        refine r_iload_n hJ dX5_has_13 rfl jg3 ?_
        refine r_S1v hJ kX5_40 (c5_row l E (setO S 10 (putA T t r)) x i) dX5_has_14 ⟨by decide, by decide⟩ (Nat.le_of_ble_eq_true rfl) ?_
        refine r_ialdR hJ ht (by omega) rfl dX5_has_17 ?_
        refine r_iload_n hJ dX5_has_18 rfl jg1 ?_
        refine r_icmp_ne hJ (tgt := 26) dX5_has_19 (by decide) (fun c19 => ?_) (fun c19 => ?_)
        · have e : cnt (fun n => decide (r ((32 + 12 * n)) = h)) (i + 1) = cnt (fun n => decide (r ((32 + 12 * n)) = h)) i + 0 := by simp [cnt, c19]
          refine r_iconst hJ (v := nI 0) dX5_has_26 (by decide) ?_
          refine r_iaddN hJ dX5_has_27 ?_
          rw [← e]
          refine r_istore_n hJ dX5_has_28 rfl (jp2 rfl rfl) ?_
          refine r_iinc hJ dX5_has_29 jg3 (ii1 _) (jp3 rfl rfl) ?_
          refine r_goto hJ (tgt := 4) dX5_has_32 (by decide) ?_
          exact ih (i + 1) (by omega)
        · have e : cnt (fun n => decide (r ((32 + 12 * n)) = h)) (i + 1) = cnt (fun n => decide (r ((32 + 12 * n)) = h)) i + 1 := by simp [cnt, c19]
          refine r_iconst hJ (v := nI 1) dX5_has_22 (by decide) ?_
          refine r_goto hJ (tgt := 27) dX5_has_23 (by decide) ?_
          refine r_iaddN hJ dX5_has_27 ?_
          rw [← e]
          refine r_istore_n hJ dX5_has_28 rfl (jp2 rfl rfl) ?_
          refine r_iinc hJ dX5_has_29 jg3 (ii1 _) (jp3 rfl rfl) ?_
          refine r_goto hJ (tgt := 4) dX5_has_32 (by decide) ?_
          exact ih (i + 1) (by omega)
  refine r_iconst hJ (v := nI 0) dX5_has_0 (by decide) ?_
  refine r_istore_n hJ dX5_has_1 rfl (jp2 rfl rfl) ?_
  refine r_iconst hJ (v := nI 0) dX5_has_2 (by decide) ?_
  refine r_istore_n hJ dX5_has_3 rfl (jp3 rfl rfl) ?_
  exact loop z 0 (by omega)

def mRoom (r : Nat → Int32) (z : Nat) (h m : Int32) : Bool := !(decide (r 2 < nI (mHas r h z) + m))
set_option maxRecDepth 100000 in
set_option maxHeartbeats 1000000 in
theorem c5_hasRoom (l : Launch) (E : jE) (S : jS) (x : jX) (T : jO) {t : Nat} (ht : t = 1 ∨ t = 2) (r : Nat → Int32) {z : Nat} (hz : r 4 = nI z) (hz4 : z ≤ 64) (h m : Int32) : Ct l E yX5_hasRoom cX5_hasRoom 3 (some .boolean) 3 [.ref (ad E 10 t), .int h, .int m] (setO S 10 (putA T t r), x) (some (.int (bI (mRoom r z h m)))) (setO S 10 (putA T t r), x) := by
  refine Ct.of (by decide +kernel) (Nat.le_refl _) (Nat.le_of_ble_eq_true rfl) rfl (fun J hJ hF => ?_)
  refine r_aload_n hJ dX5_hasRoom_0 rfl jg0 ?_
  refine r_iload_n hJ dX5_hasRoom_1 rfl jg1 ?_
  refine r_S2v hJ kX5_47 (c5_has l E S x T ht r hz hz4 h) dX5_hasRoom_2 ⟨by decide, by decide⟩ (Nat.le_of_ble_eq_true rfl) ?_
  refine r_iload_n hJ dX5_hasRoom_5 rfl jg2 ?_
  refine r_iadd hJ dX5_hasRoom_6 ?_
  refine r_aload_n hJ dX5_hasRoom_7 rfl jg0 ?_
  refine r_iconst hJ (v := nI 2) dX5_hasRoom_8 (by decide) ?_
  refine r_ialdR hJ ht (by omega) rfl dX5_hasRoom_9 ?_
  refine r_icmp_gt hJ (tgt := 17) dX5_hasRoom_10 (by decide) (fun c10 => ?_) (fun c10 => ?_)
  · refine r_iconst hJ (v := nI 0) dX5_hasRoom_17 (by decide) ?_
    exact ret_z hF dX5_hasRoom_18 (by decide) (by simp [mRoom, bI, nI0, nI1, c10]) rfl
  · refine r_iconst hJ (v := nI 1) dX5_hasRoom_13 (by decide) ?_
    refine r_goto hJ (tgt := 18) dX5_hasRoom_14 (by decide) ?_
    exact ret_z hF dX5_hasRoom_18 (by decide) (by simp [mRoom, bI, nI0, nI1, c10]) rfl

set_option maxRecDepth 100000 in
set_option maxHeartbeats 1000000 in
theorem c5_atStage (l : Launch) (E : jE) (S : jS) (x : jX) (T : jO) {t : Nat} (ht : t = 1 ∨ t = 2) (r : Nat → Int32) {z : Nat} (hz : r 4 = nI z) (hz4 : z ≤ 64) (s : Int32) : Ct l E yX5_atStage cX5_atStage 4 (some .int) 4 [.ref (ad E 10 t), .int s] (setO S 10 (putA T t r), x) (some (.int (nI (cnt (fun n => decide (mStg r n = s)) z)))) (setO S 10 (putA T t r), x) := by
  refine Ct.of (by decide +kernel) (Nat.le_refl _) (Nat.le_of_ble_eq_true rfl) rfl (fun J hJ hF => ?_)
  have loop : ∀ (k i : Nat), i + k = z → J (setO S 10 (putA T t r), x) 4 [some (.ref (ad E 10 t)), some (.int s), some (.int (nI (cnt (fun n => decide (mStg r n = s)) i))), some (.int (nI i))] [] := by
    intro k
    induction k with
    | zero =>
      intro i hi
      obtain rfl : i = z := by omega
      refine r_iload_n hJ dX5_atStage_4 rfl jg3 ?_
      refine r_aload_n hJ dX5_atStage_5 rfl jg0 ?_
      refine r_iconst hJ (v := nI 4) dX5_atStage_6 (by decide) ?_
      refine r_ialdR hJ ht (by omega) rfl dX5_atStage_7 ?_
      refine r_icmp_ge hJ (tgt := 34) dX5_atStage_8 (by decide) (fun c8 => ?_) (fun c8 => ?_)
      · refine r_iload_n hJ dX5_atStage_34 rfl jg2 ?_
        exact ret_i hF dX5_atStage_35 rfl rfl
      · rw [hz] at c8
        exact absurd (nI_le (by omega) (by omega)) c8
    | succ k ih =>
      intro i hi
      refine r_iload_n hJ dX5_atStage_4 rfl jg3 ?_
      refine r_aload_n hJ dX5_atStage_5 rfl jg0 ?_
      refine r_iconst hJ (v := nI 4) dX5_atStage_6 (by decide) ?_
      refine r_ialdR hJ ht (by omega) rfl dX5_atStage_7 ?_
      refine r_icmp_ge hJ (tgt := 34) dX5_atStage_8 (by decide) (fun c8 => ?_) (fun c8 => ?_)
      · rw [hz] at c8
        exact absurd c8 (nI_ge (by omega) (by omega))
      · refine r_iload_n hJ dX5_atStage_11 rfl jg2 ?_
        refine r_aload_n hJ dX5_atStage_12 rfl jg0 ?_
        refine r_iload_n hJ dX5_atStage_13 rfl jg3 ?_
        refine r_S2v hJ kX5_51 (c5_stageOf l E S x T ht r (n := i) (by omega)) dX5_atStage_14 ⟨by decide, by decide⟩ (Nat.le_of_ble_eq_true rfl) ?_
        refine r_iload_n hJ dX5_atStage_17 rfl jg1 ?_
        refine r_icmp_ne hJ (tgt := 25) dX5_atStage_18 (by decide) (fun c18 => ?_) (fun c18 => ?_)
        · have e : cnt (fun n => decide (mStg r n = s)) (i + 1) = cnt (fun n => decide (mStg r n = s)) i + 0 := by simp [cnt, c18]
          refine r_iconst hJ (v := nI 0) dX5_atStage_25 (by decide) ?_
          refine r_iaddN hJ dX5_atStage_26 ?_
          rw [← e]
          refine r_istore_n hJ dX5_atStage_27 rfl (jp2 rfl rfl) ?_
          refine r_iinc hJ dX5_atStage_28 jg3 (ii1 _) (jp3 rfl rfl) ?_
          refine r_goto hJ (tgt := 4) dX5_atStage_31 (by decide) ?_
          exact ih (i + 1) (by omega)
        · have e : cnt (fun n => decide (mStg r n = s)) (i + 1) = cnt (fun n => decide (mStg r n = s)) i + 1 := by simp [cnt, c18]
          refine r_iconst hJ (v := nI 1) dX5_atStage_21 (by decide) ?_
          refine r_goto hJ (tgt := 26) dX5_atStage_22 (by decide) ?_
          refine r_iaddN hJ dX5_atStage_26 ?_
          rw [← e]
          refine r_istore_n hJ dX5_atStage_27 rfl (jp2 rfl rfl) ?_
          refine r_iinc hJ dX5_atStage_28 jg3 (ii1 _) (jp3 rfl rfl) ?_
          refine r_goto hJ (tgt := 4) dX5_atStage_31 (by decide) ?_
          exact ih (i + 1) (by omega)
  refine r_iconst hJ (v := nI 0) dX5_atStage_0 (by decide) ?_
  refine r_istore_n hJ dX5_atStage_1 rfl (jp2 rfl rfl) ?_
  refine r_iconst hJ (v := nI 0) dX5_atStage_2 (by decide) ?_
  refine r_istore_n hJ dX5_atStage_3 rfl (jp3 rfl rfl) ?_
  exact loop z 0 (by omega)

set_option maxRecDepth 100000 in
set_option maxHeartbeats 1000000 in
theorem c5_gives (l : Launch) (E : jE) (S : jS) (x : jX) (T : jO) {t : Nat} (ht : t = 1 ∨ t = 2) (r : Nat → Int32) {n h : Nat} (hn : n < 64) (hh : h < 8) (u : Int32) : Ct l E yX5_gives cX5_gives 5 none 2 [.ref (ad E 10 t), .int (nI n), .int (nI h), .int u] (setO S 10 (putA T t r), x) none (setO S 10 (putA T t (mGives r n h u)), x) := by
  refine Ct.of (by decide +kernel) (Nat.le_refl _) (Nat.le_of_ble_eq_true rfl) rfl (fun J hJ hF => ?_)
  refine r_iload_n hJ dX5_gives_0 rfl jg1 ?_
  refine r_S1v hJ kX5_40 (c5_row l E (setO S 10 (putA T t r)) x n) dX5_gives_1 ⟨by decide, by decide⟩ (Nat.le_of_ble_eq_true rfl) ?_
  refine r_istore hJ dX5_gives_4 (jp4 rfl rfl) ?_
  refine r_aload_n hJ dX5_gives_6 rfl jg0 ?_
  refine r_iload hJ dX5_gives_7 jg4 ?_
  refine r_iload_n hJ dX5_gives_9 rfl jg2 ?_
  refine r_iastR hJ ht (by omega) rfl dX5_gives_10 ?_
  refine r_aload_n hJ dX5_gives_11 rfl jg0 ?_
  refine r_iload hJ dX5_gives_12 jg4 ?_
  refine r_iconst hJ (v := nI 1) dX5_gives_14 (by decide) ?_
  refine r_iaddN hJ dX5_gives_15 ?_
  refine r_aload_n hJ dX5_gives_16 rfl jg0 ?_
  refine r_iconst hJ (v := nI 0) dX5_gives_17 (by decide) ?_
  refine r_ialdR hJ ht (by omega) rfl dX5_gives_18 ?_
  refine r_iastR hJ ht (by omega) rfl dX5_gives_19 ?_
  refine r_aload_n hJ dX5_gives_20 rfl jg0 ?_
  refine r_iload hJ dX5_gives_21 jg4 ?_
  refine r_iconst hJ (v := nI 2) dX5_gives_23 (by decide) ?_
  refine r_iaddN hJ dX5_gives_24 ?_
  refine r_aload_n hJ dX5_gives_25 rfl jg0 ?_
  refine r_iconst hJ (v := nI 0) dX5_gives_26 (by decide) ?_
  refine r_ialdR hJ ht (by omega) rfl dX5_gives_27 ?_
  refine r_iload_n hJ dX5_gives_28 rfl jg3 ?_
  refine r_iadd hJ dX5_gives_29 ?_
  refine r_iastR hJ ht (by omega) rfl dX5_gives_30 ?_
  refine r_aload_n hJ dX5_gives_31 rfl jg0 ?_
  refine r_iload hJ dX5_gives_32 jg4 ?_
  refine r_iconst hJ (v := nI 3) dX5_gives_34 (by decide) ?_
  refine r_iaddN hJ dX5_gives_35 ?_
  refine r_aload_n hJ dX5_gives_36 rfl jg0 ?_
  refine r_iconst hJ (v := nI 0) dX5_gives_37 (by decide) ?_
  refine r_ialdR hJ ht (by omega) rfl dX5_gives_38 ?_
  refine r_iload_n hJ dX5_gives_39 rfl jg3 ?_
  refine r_iadd hJ dX5_gives_40 ?_
  refine r_aload_n hJ dX5_gives_41 rfl jg0 ?_
  refine r_iconst hJ (v := nI 1) dX5_gives_42 (by decide) ?_
  refine r_ialdR hJ ht (by omega) rfl dX5_gives_43 ?_
  refine r_iadd hJ dX5_gives_44 ?_
  refine r_iastR hJ ht (by omega) rfl dX5_gives_45 ?_
  refine r_aload_n hJ dX5_gives_46 rfl jg0 ?_
  refine r_iload hJ dX5_gives_47 jg4 ?_
  refine r_iconst hJ (v := nI 4) dX5_gives_49 (by decide) ?_
  refine r_iaddN hJ dX5_gives_50 ?_
  refine r_dup2_11 hJ dX5_gives_51 rfl rfl ?_
  refine r_ialdR hJ ht (by omega) rfl dX5_gives_52 ?_
  refine r_iconst hJ (v := nI 1) dX5_gives_53 (by decide) ?_
  refine r_iadd hJ dX5_gives_54 ?_
  refine r_iastR hJ ht (by omega) rfl dX5_gives_55 ?_
  refine r_aload_n hJ dX5_gives_56 rfl jg0 ?_
  refine r_bipush hJ (v := nI 8) dX5_gives_57 (by decide) ?_
  refine r_iload_n hJ dX5_gives_59 rfl jg2 ?_
  refine r_iaddN hJ dX5_gives_60 ?_
  refine r_dup2_11 hJ dX5_gives_61 rfl rfl ?_
  refine r_ialdR hJ ht (by omega) rfl dX5_gives_62 ?_
  refine r_iconst hJ (v := nI 1) dX5_gives_63 (by decide) ?_
  refine r_iadd hJ dX5_gives_64 ?_
  refine r_iastR hJ ht (by omega) rfl dX5_gives_65 ?_
  exact ret_v hF dX5_gives_66 rfl rfl

set_option maxRecDepth 100000 in
set_option maxHeartbeats 1000000 in
theorem c5_drops (l : Launch) (E : jE) (S : jS) (x : jX) (T : jO) {t : Nat} (ht : t = 1 ∨ t = 2) (r : Nat → Int32) {n : Nat} (hn : n < 64) {q : Nat} (hq : q ≤ 2) : Ct l E yX5_drops cX5_drops 5 none 2 [.ref (ad E 10 t), .int (nI n), .int (nI q)] (setO S 10 (putA T t r), x) none (setO S 10 (putA T t (mDrop r n q)), x) := by
  refine Ct.of (by decide +kernel) (Nat.le_refl _) (Nat.le_of_ble_eq_true rfl) rfl (fun J hJ hF => ?_)
  have loop : ∀ (k i : Nat) (r' : Nat → Int32), i + k = 2 → mShift n k i r' = mShift n (2 - q) q r → J (setO S 10 (putA T t r'), x) 8 [some (.ref (ad E 10 t)), some (.int (nI n)), some (.int (nI q)), some (.int (nI ((32 + 12 * n)))), some (.int (nI i))] [] := by
    intro k
    induction k with
    | zero =>
      intro i r' hi he
      obtain rfl : i = 2 := by omega
      refine r_iload hJ dX5_drops_8 jg4 ?_
      refine r_iconst hJ (v := nI 2) dX5_drops_10 (by decide) ?_
      refine r_icmp_ge hJ (tgt := 70) dX5_drops_11 (by decide) (fun c11 => ?_) (fun c11 => ?_)
      · refine r_aload_n hJ dX5_drops_70 rfl jg0 ?_
        refine r_iload_n hJ dX5_drops_71 rfl jg3 ?_
        refine r_iconst hJ (v := nI 5) dX5_drops_72 (by decide) ?_
        refine r_iaddN hJ dX5_drops_73 ?_
        refine r_dup2_11 hJ dX5_drops_74 rfl rfl ?_
        refine r_ialdR hJ ht (by omega) rfl dX5_drops_75 ?_
        refine r_iconst hJ (v := nI 1) dX5_drops_76 (by decide) ?_
        refine r_isub hJ dX5_drops_77 ?_
        refine r_iastR hJ ht (by omega) rfl dX5_drops_78 ?_
        exact ret_v hF dX5_drops_79 rfl (by rw [show mDrop r n q = _ from rfl]; unfold mDrop; rw [← he]; rfl)
      · exact absurd (nI_le (by omega) (by omega)) c11
    | succ k ih =>
      intro i r' hi he
      refine r_iload hJ dX5_drops_8 jg4 ?_
      refine r_iconst hJ (v := nI 2) dX5_drops_10 (by decide) ?_
      refine r_icmp_ge hJ (tgt := 70) dX5_drops_11 (by decide) (fun c11 => ?_) (fun c11 => ?_)
      · exact absurd c11 (nI_ge (by omega) (by omega))
      · refine r_aload_n hJ dX5_drops_14 rfl jg0 ?_
        refine r_iload_n hJ dX5_drops_15 rfl jg3 ?_
        refine r_bipush hJ (v := nI 6) dX5_drops_16 (by decide) ?_
        refine r_iaddN hJ dX5_drops_18 ?_
        refine r_iconst hJ (v := nI 2) dX5_drops_19 (by decide) ?_
        refine r_iload hJ dX5_drops_20 jg4 ?_
        refine r_imulN hJ dX5_drops_22 ?_
        refine r_iaddN hJ dX5_drops_23 ?_
        refine r_aload_n hJ dX5_drops_24 rfl jg0 ?_
        refine r_iload_n hJ dX5_drops_25 rfl jg3 ?_
        refine r_bipush hJ (v := nI 6) dX5_drops_26 (by decide) ?_
        refine r_iaddN hJ dX5_drops_28 ?_
        refine r_iconst hJ (v := nI 2) dX5_drops_29 (by decide) ?_
        refine r_iload hJ dX5_drops_30 jg4 ?_
        refine r_imulN hJ dX5_drops_32 ?_
        refine r_iaddN hJ dX5_drops_33 ?_
        refine r_iconst hJ (v := nI 2) dX5_drops_34 (by decide) ?_
        refine r_iaddN hJ dX5_drops_35 ?_
        refine r_ialdR hJ ht (by omega) rfl dX5_drops_36 ?_
        refine r_iastR hJ ht (by omega) rfl dX5_drops_37 ?_
        refine r_aload_n hJ dX5_drops_38 rfl jg0 ?_
        refine r_iload_n hJ dX5_drops_39 rfl jg3 ?_
        refine r_bipush hJ (v := nI 6) dX5_drops_40 (by decide) ?_
        refine r_iaddN hJ dX5_drops_42 ?_
        refine r_iconst hJ (v := nI 2) dX5_drops_43 (by decide) ?_
        refine r_iload hJ dX5_drops_44 jg4 ?_
        refine r_imulN hJ dX5_drops_46 ?_
        refine r_iaddN hJ dX5_drops_47 ?_
        refine r_iconst hJ (v := nI 1) dX5_drops_48 (by decide) ?_
        refine r_iaddN hJ dX5_drops_49 ?_
        refine r_aload_n hJ dX5_drops_50 rfl jg0 ?_
        refine r_iload_n hJ dX5_drops_51 rfl jg3 ?_
        refine r_bipush hJ (v := nI 6) dX5_drops_52 (by decide) ?_
        refine r_iaddN hJ dX5_drops_54 ?_
        refine r_iconst hJ (v := nI 2) dX5_drops_55 (by decide) ?_
        refine r_iload hJ dX5_drops_56 jg4 ?_
        refine r_imulN hJ dX5_drops_58 ?_
        refine r_iaddN hJ dX5_drops_59 ?_
        refine r_iconst hJ (v := nI 3) dX5_drops_60 (by decide) ?_
        refine r_iaddN hJ dX5_drops_61 ?_
        refine r_ialdR hJ ht (by omega) rfl dX5_drops_62 ?_
        refine r_iastR hJ ht (by omega) rfl dX5_drops_63 ?_
        refine r_iinc hJ dX5_drops_64 jg4 (ii1 _) (jp4 rfl rfl) ?_
        refine r_goto hJ (tgt := 8) dX5_drops_67 (by decide) ?_
        exact ih (i + 1) _ (by omega) he
  refine r_iload_n hJ dX5_drops_0 rfl jg1 ?_
  refine r_S1v hJ kX5_40 (c5_row l E (setO S 10 (putA T t r)) x n) dX5_drops_1 ⟨by decide, by decide⟩ (Nat.le_of_ble_eq_true rfl) ?_
  refine r_istore_n hJ dX5_drops_4 rfl (jp3 rfl rfl) ?_
  refine r_iload_n hJ dX5_drops_5 rfl jg2 ?_
  refine r_istore hJ dX5_drops_6 (jp4 rfl rfl) ?_
  exact loop (2 - q) q r (by omega) rfl

theorem upd_ne {f : Nat → Int32} {k j : Nat} {v : Int32} (h : j ≠ k) : upd f k v j = f j := by simp [upd, h]
theorem upd_at (f : Nat → Int32) (k : Nat) (v : Int32) : upd f k v k = v := by simp [upd]
set_option maxRecDepth 100000 in
set_option maxHeartbeats 1000000 in
theorem c5_waits (l : Launch) (E : jE) (S : jS) (x : jX) (T : jO) {t : Nat} (ht : t = 1 ∨ t = 2) (r : Nat → Int32) {n h w : Nat} (hn : n < 64) (hw3 : w < 3) (hw : r ((32 + 12 * n) + 5) = nI w) (u : Int32) : Ct l E yX5_waits cX5_waits 5 none 2 [.ref (ad E 10 t), .int (nI n), .int (nI h), .int u] (setO S 10 (putA T t r), x) none (setO S 10 (putA T t (mWaits r n w h u)), x) := by
  refine Ct.of (by decide +kernel) (Nat.le_refl _) (Nat.le_of_ble_eq_true rfl) rfl (fun J hJ hF => ?_)
  refine r_iload_n hJ dX5_waits_0 rfl jg1 ?_
  refine r_S1v hJ kX5_40 (c5_row l E (setO S 10 (putA T t r)) x n) dX5_waits_1 ⟨by decide, by decide⟩ (Nat.le_of_ble_eq_true rfl) ?_
  refine r_istore hJ dX5_waits_4 (jp4 rfl rfl) ?_
  refine r_aload_n hJ dX5_waits_6 rfl jg0 ?_
  refine r_iload hJ dX5_waits_7 jg4 ?_
  refine r_bipush hJ (v := nI 6) dX5_waits_9 (by decide) ?_
  refine r_iaddN hJ dX5_waits_11 ?_
  refine r_iconst hJ (v := nI 2) dX5_waits_12 (by decide) ?_
  refine r_aload_n hJ dX5_waits_13 rfl jg0 ?_
  refine r_iload hJ dX5_waits_14 jg4 ?_
  refine r_iconst hJ (v := nI 5) dX5_waits_16 (by decide) ?_
  refine r_iaddN hJ dX5_waits_17 ?_
  refine r_ialdR hJ ht (by omega) rfl dX5_waits_18 ?_
  rw [hw]
  refine r_imulN hJ dX5_waits_19 ?_
  refine r_iaddN hJ dX5_waits_20 ?_
  refine r_iload_n hJ dX5_waits_21 rfl jg2 ?_
  refine r_iastR hJ ht (by omega) rfl dX5_waits_22 ?_
  refine r_aload_n hJ dX5_waits_23 rfl jg0 ?_
  refine r_iload hJ dX5_waits_24 jg4 ?_
  refine r_bipush hJ (v := nI 6) dX5_waits_26 (by decide) ?_
  refine r_iaddN hJ dX5_waits_28 ?_
  refine r_iconst hJ (v := nI 2) dX5_waits_29 (by decide) ?_
  refine r_aload_n hJ dX5_waits_30 rfl jg0 ?_
  refine r_iload hJ dX5_waits_31 jg4 ?_
  refine r_iconst hJ (v := nI 5) dX5_waits_33 (by decide) ?_
  refine r_iaddN hJ dX5_waits_34 ?_
  refine r_ialdR hJ ht (by omega) rfl dX5_waits_35 ?_
  rw [upd_ne (show (32 + 12 * n) + 5 ≠ (32 + 12 * n) + 6 + 2 * w by omega), hw]
  refine r_imulN hJ dX5_waits_36 ?_
  refine r_iaddN hJ dX5_waits_37 ?_
  refine r_iconst hJ (v := nI 1) dX5_waits_38 (by decide) ?_
  refine r_iaddN hJ dX5_waits_39 ?_
  refine r_iload_n hJ dX5_waits_40 rfl jg3 ?_
  refine r_iastR hJ ht (by omega) rfl dX5_waits_41 ?_
  refine r_aload_n hJ dX5_waits_42 rfl jg0 ?_
  refine r_iload hJ dX5_waits_43 jg4 ?_
  refine r_iconst hJ (v := nI 5) dX5_waits_45 (by decide) ?_
  refine r_iaddN hJ dX5_waits_46 ?_
  refine r_dup2_11 hJ dX5_waits_47 rfl rfl ?_
  refine r_ialdR hJ ht (by omega) rfl dX5_waits_48 ?_
  refine r_iconst hJ (v := nI 1) dX5_waits_49 (by decide) ?_
  refine r_iadd hJ dX5_waits_50 ?_
  refine r_iastR hJ ht (by omega) rfl dX5_waits_51 ?_
  exact ret_v hF dX5_waits_52 rfl rfl
