set_option maxRecDepth 100000 in
set_option maxHeartbeats 1000000 in
theorem c2_numbersIn (l : Launch) (E : jE) (S : jS) (x : jX) (P : jO) {o : Nat} (ho : o < 8) {z : Nat} (hz : P 1 3 = nI z) (hz4 : z ≤ 64) (s : Int32) : Ct l E yX2_numbersIn cX2_numbersIn 4 (some .int) 2 [.ref (ad E o 0), .int s] (setO S o P, x) (some (.int (nI (cnt (fun n => decide (stg P n = s)) z)))) (setO S o P, x) := by
  refine Ct.of (by decide +kernel) (Nat.le_refl _) (Nat.le_of_ble_eq_true rfl) rfl (fun J hJ hF => ?_)
  have loop : ∀ (k i : Nat), i + k = z → J (setO S o P, x) 4 [some (.ref (ad E o 0)), some (.int s), some (.int (nI (cnt (fun n => decide (stg P n = s)) i))), some (.int (nI i))] [] := by
    intro k
    induction k with
    | zero =>
      intro i hi
      obtain rfl : i = z := by omega
      refine r_iload_n hJ dX2_numbersIn_4 rfl jg3 ?_
      refine r_aload_n hJ dX2_numbersIn_5 rfl jg0 ?_
      refine r_g2_4 hJ ho m56 dX2_numbersIn_6 ?_
      refine r_iconst hJ (v := nI 3) dX2_numbersIn_9 (by decide) ?_
      refine r_ialdO hJ (by omega) (alP1 ho (by omega)) rfl dX2_numbersIn_10 ?_
      refine r_icmp_ge hJ (tgt := 32) dX2_numbersIn_11 (by decide) (fun c11 => ?_) (fun c11 => ?_)
      · refine r_iload_n hJ dX2_numbersIn_32 rfl jg2 ?_
        exact ret_i hF dX2_numbersIn_33 rfl rfl
      · rw [hz] at c11
        exact absurd (nI_le (by omega) (by omega)) c11
    | succ k ih =>
      intro i hi
      refine r_iload_n hJ dX2_numbersIn_4 rfl jg3 ?_
      refine r_aload_n hJ dX2_numbersIn_5 rfl jg0 ?_
      refine r_g2_4 hJ ho m56 dX2_numbersIn_6 ?_
      refine r_iconst hJ (v := nI 3) dX2_numbersIn_9 (by decide) ?_
      refine r_ialdO hJ (by omega) (alP1 ho (by omega)) rfl dX2_numbersIn_10 ?_
      refine r_icmp_ge hJ (tgt := 32) dX2_numbersIn_11 (by decide) (fun c11 => ?_) (fun c11 => ?_)
      · rw [hz] at c11
        exact absurd c11 (nI_ge (by omega) (by omega))
      · refine r_aload_n hJ dX2_numbersIn_14 rfl jg0 ?_
        refine r_iload_n hJ dX2_numbersIn_15 rfl jg3 ?_
        refine r_V1v hJ kX2_95 (rcv2 E ho) (c2_stateOf l E S x P ho (n := i) (by omega)) dX2_numbersIn_16 ⟨by decide, by decide⟩ (Nat.le_of_ble_eq_true rfl) ?_
        refine r_iload_n hJ dX2_numbersIn_19 rfl jg1 ?_
        refine r_icmp_ne hJ (tgt := 26) dX2_numbersIn_20 (by decide) (fun c20 => ?_) (fun c20 => ?_)
        · have e : cnt (fun n => decide (stg P n = s)) (i + 1) = cnt (fun n => decide (stg P n = s)) i := by simp [cnt, c20]
          rw [← e]
          refine r_iinc hJ dX2_numbersIn_26 jg3 (ii1 _) (jp3 rfl rfl) ?_
          refine r_goto hJ (tgt := 4) dX2_numbersIn_29 (by decide) ?_
          exact ih (i + 1) (by omega)
        · have e : cnt (fun n => decide (stg P n = s)) (i + 1) = cnt (fun n => decide (stg P n = s)) i + 1 := by simp [cnt, c20]
          refine r_iinc hJ dX2_numbersIn_23 jg2 (ii1 _) (jp2 rfl rfl) ?_
          rw [← e]
          refine r_iinc hJ dX2_numbersIn_26 jg3 (ii1 _) (jp3 rfl rfl) ?_
          refine r_goto hJ (tgt := 4) dX2_numbersIn_29 (by decide) ?_
          exact ih (i + 1) (by omega)
  refine r_iconst hJ (v := nI 0) dX2_numbersIn_0 (by decide) ?_
  refine r_istore_n hJ dX2_numbersIn_1 rfl (jp2 rfl rfl) ?_
  refine r_iconst hJ (v := nI 0) dX2_numbersIn_2 (by decide) ?_
  refine r_istore_n hJ dX2_numbersIn_3 rfl (jp3 rfl rfl) ?_
  exact loop z 0 (by omega)

set_option maxRecDepth 100000 in
set_option maxHeartbeats 1000000 in
theorem c2_freeNumbers (l : Launch) (E : jE) (S : jS) (x : jX) (P : jO) {o : Nat} (ho : o < 8) {z : Nat} (hz : P 1 3 = nI z) (hz4 : z ≤ 64) : Ct l E yX2_freeNumbers cX2_freeNumbers 1 (some .int) 3 [.ref (ad E o 0)] (setO S o P, x) (some (.int (nI (cnt (fun n => decide (stg P n = nI 0)) z)))) (setO S o P, x) := by
  refine Ct.of (by decide +kernel) (Nat.le_refl _) (Nat.le_of_ble_eq_true rfl) rfl (fun J hJ hF => ?_)
  refine r_aload_n hJ dX2_freeNumbers_0 rfl jg0 ?_
  refine r_iconst hJ (v := nI 0) dX2_freeNumbers_1 (by decide) ?_
  refine r_V1v hJ kX2_134 (rcv2 E ho) (c2_numbersIn l E S x P ho hz hz4 (nI 0)) dX2_freeNumbers_2 ⟨by decide, by decide⟩ (Nat.le_of_ble_eq_true rfl) ?_
  exact ret_i hF dX2_freeNumbers_5 rfl rfl

def inP (P : jO) (h s : Int32) (n : Nat) : Bool := decide (P 2 n = h) && decide (stg P n = s)
set_option maxRecDepth 100000 in
set_option maxHeartbeats 1000000 in
theorem c2_numbersOfIn (l : Launch) (E : jE) (S : jS) (x : jX) (P : jO) {o : Nat} (ho : o < 8) (h s : Int32) : Ct l E yX2_numbersOfIn cX2_numbersOfIn 5 (some .int) 2 [.ref (ad E o 0), .int h, .int s] (setO S o P, x) (some (.int (nI (cnt (inP P h s) 64)))) (setO S o P, x) := by
  refine Ct.of (by decide +kernel) (Nat.le_refl _) (Nat.le_of_ble_eq_true rfl) rfl (fun J hJ hF => ?_)
  have loop : ∀ (k i : Nat), i + k = 64 → J (setO S o P, x) 5 [some (.ref (ad E o 0)), some (.int h), some (.int s), some (.int (nI (cnt (inP P h s) i))), some (.int (nI i))] [] := by
    intro k
    induction k with
    | zero =>
      intro i hi
      obtain rfl : i = 64 := by omega
      refine r_iload hJ dX2_numbersOfIn_5 jg4 ?_
      refine r_bipush hJ (v := nI 64) dX2_numbersOfIn_7 (by decide) ?_
      refine r_icmp_ge hJ (tgt := 42) dX2_numbersOfIn_9 (by decide) (fun c9 => ?_) (fun c9 => ?_)
      · refine r_iload_n hJ dX2_numbersOfIn_42 rfl jg3 ?_
        exact ret_i hF dX2_numbersOfIn_43 rfl rfl
      · exact absurd (nI_le (by omega) (by omega)) c9
    | succ k ih =>
      intro i hi
      refine r_iload hJ dX2_numbersOfIn_5 jg4 ?_
      refine r_bipush hJ (v := nI 64) dX2_numbersOfIn_7 (by decide) ?_
      refine r_icmp_ge hJ (tgt := 42) dX2_numbersOfIn_9 (by decide) (fun c9 => ?_) (fun c9 => ?_)
      · exact absurd c9 (nI_ge (by omega) (by omega))
      · refine r_aload_n hJ dX2_numbersOfIn_12 rfl jg0 ?_
        refine r_g2_5 hJ ho m58 dX2_numbersOfIn_13 ?_
        refine r_iload hJ dX2_numbersOfIn_16 jg4 ?_
        refine r_ialdO hJ (by omega) (alP2 ho (by omega)) rfl dX2_numbersOfIn_18 ?_
        refine r_iload_n hJ dX2_numbersOfIn_19 rfl jg1 ?_
        refine r_icmp_ne hJ (tgt := 36) dX2_numbersOfIn_20 (by decide) (fun c20 => ?_) (fun c20 => ?_)
        · have e : cnt (inP P h s) (i + 1) = cnt (inP P h s) i := by simp [cnt, inP, c20]
          rw [← e]
          refine r_iinc hJ dX2_numbersOfIn_36 jg4 (ii1 _) (jp4 rfl rfl) ?_
          refine r_goto hJ (tgt := 5) dX2_numbersOfIn_39 (by decide) ?_
          exact ih (i + 1) (by omega)
        · refine r_aload_n hJ dX2_numbersOfIn_23 rfl jg0 ?_
          refine r_iload hJ dX2_numbersOfIn_24 jg4 ?_
          refine r_V1v hJ kX2_95 (rcv2 E ho) (c2_stateOf l E S x P ho (n := i) (by omega)) dX2_numbersOfIn_26 ⟨by decide, by decide⟩ (Nat.le_of_ble_eq_true rfl) ?_
          refine r_iload_n hJ dX2_numbersOfIn_29 rfl jg2 ?_
          refine r_icmp_ne hJ (tgt := 36) dX2_numbersOfIn_30 (by decide) (fun c30 => ?_) (fun c30 => ?_)
          · have e : cnt (inP P h s) (i + 1) = cnt (inP P h s) i := by simp [cnt, inP, c20, c30]
            rw [← e]
            refine r_iinc hJ dX2_numbersOfIn_36 jg4 (ii1 _) (jp4 rfl rfl) ?_
            refine r_goto hJ (tgt := 5) dX2_numbersOfIn_39 (by decide) ?_
            exact ih (i + 1) (by omega)
          · have e : cnt (inP P h s) (i + 1) = cnt (inP P h s) i + 1 := by simp [cnt, inP, c20, c30]
            refine r_iinc hJ dX2_numbersOfIn_33 jg3 (ii1 _) (jp3 rfl rfl) ?_
            rw [← e]
            refine r_iinc hJ dX2_numbersOfIn_36 jg4 (ii1 _) (jp4 rfl rfl) ?_
            refine r_goto hJ (tgt := 5) dX2_numbersOfIn_39 (by decide) ?_
            exact ih (i + 1) (by omega)
  refine r_iconst hJ (v := nI 0) dX2_numbersOfIn_0 (by decide) ?_
  refine r_istore_n hJ dX2_numbersOfIn_1 rfl (jp3 rfl rfl) ?_
  refine r_iconst hJ (v := nI 0) dX2_numbersOfIn_2 (by decide) ?_
  refine r_istore hJ dX2_numbersOfIn_3 (jp4 rfl rfl) ?_
  exact loop 64 0 (by omega)

set_option maxRecDepth 100000 in
set_option maxHeartbeats 1000000 in
theorem c2_wishesOf (l : Launch) (E : jE) (S : jS) (x : jX) (P : jO) {o : Nat} (ho : o < 8) (hP : PI P) (h : Int32) : Ct l E yX2_wishesOf cX2_wishesOf 4 (some .int) 2 [.ref (ad E o 0), .int h] (setO S o P, x) (some (.int (nI (cnt (fun n => (placeW P h n).isSome) 64)))) (setO S o P, x) := by
  refine Ct.of (by decide +kernel) (Nat.le_refl _) (Nat.le_of_ble_eq_true rfl) rfl (fun J hJ hF => ?_)
  have loop : ∀ (k i : Nat), i + k = 64 → J (setO S o P, x) 4 [some (.ref (ad E o 0)), some (.int h), some (.int (nI (cnt (fun n => (placeW P h n).isSome) i))), some (.int (nI i))] [] := by
    intro k
    induction k with
    | zero =>
      intro i hi
      obtain rfl : i = 64 := by omega
      refine r_iload_n hJ dX2_wishesOf_4 rfl jg3 ?_
      refine r_bipush hJ (v := nI 64) dX2_wishesOf_5 (by decide) ?_
      refine r_icmp_ge hJ (tgt := 29) dX2_wishesOf_7 (by decide) (fun c7 => ?_) (fun c7 => ?_)
      · refine r_iload_n hJ dX2_wishesOf_29 rfl jg2 ?_
        exact ret_i hF dX2_wishesOf_30 rfl rfl
      · exact absurd (nI_le (by omega) (by omega)) c7
    | succ k ih =>
      intro i hi
      refine r_iload_n hJ dX2_wishesOf_4 rfl jg3 ?_
      refine r_bipush hJ (v := nI 64) dX2_wishesOf_5 (by decide) ?_
      refine r_icmp_ge hJ (tgt := 29) dX2_wishesOf_7 (by decide) (fun c7 => ?_) (fun c7 => ?_)
      · exact absurd c7 (nI_ge (by omega) (by omega))
      · refine r_aload_n hJ dX2_wishesOf_10 rfl jg0 ?_
        refine r_iload_n hJ dX2_wishesOf_11 rfl jg1 ?_
        refine r_iload_n hJ dX2_wishesOf_12 rfl jg3 ?_
        obtain ⟨w, hw3, hw, -⟩ := hP.2.2 i (by omega)
        refine r_V2v hJ kX2_85 (rcv2 E ho) (c2_placeOfWish l E S x P ho h (n := i) (by omega) hw3 hw) dX2_wishesOf_13 ⟨by decide, by decide⟩ (Nat.le_of_ble_eq_true rfl) ?_
        refine r_iconst hJ (v := (-1)) dX2_wishesOf_16 (by decide) ?_
        refine r_icmp_eq hJ (tgt := 23) dX2_wishesOf_17 (by decide) (fun c17 => ?_) (fun c17 => ?_)
        · rw [placeW_m1 hw3 hw] at c17
          have e : cnt (fun n => (placeW P h n).isSome) (i + 1) = cnt (fun n => (placeW P h n).isSome) i := by simp [cnt, c17]
          rw [← e]
          refine r_iinc hJ dX2_wishesOf_23 jg3 (ii1 _) (jp3 rfl rfl) ?_
          refine r_goto hJ (tgt := 4) dX2_wishesOf_26 (by decide) ?_
          exact ih (i + 1) (by omega)
        · rw [placeW_m1 hw3 hw] at c17
          have c17 := Option.isSome_iff_ne_none.mpr c17
          have e : cnt (fun n => (placeW P h n).isSome) (i + 1) = cnt (fun n => (placeW P h n).isSome) i + 1 := by simp [cnt, c17]
          refine r_iinc hJ dX2_wishesOf_20 jg2 (ii1 _) (jp2 rfl rfl) ?_
          rw [← e]
          refine r_iinc hJ dX2_wishesOf_23 jg3 (ii1 _) (jp3 rfl rfl) ?_
          refine r_goto hJ (tgt := 4) dX2_wishesOf_26 (by decide) ?_
          exact ih (i + 1) (by omega)
  refine r_iconst hJ (v := nI 0) dX2_wishesOf_0 (by decide) ?_
  refine r_istore_n hJ dX2_wishesOf_1 rfl (jp2 rfl rfl) ?_
  refine r_iconst hJ (v := nI 0) dX2_wishesOf_2 (by decide) ?_
  refine r_istore_n hJ dX2_wishesOf_3 rfl (jp3 rfl rfl) ?_
  exact loop 64 0 (by omega)

set_option maxRecDepth 100000 in
set_option maxHeartbeats 1000000 in
theorem c2_leastOf (l : Launch) (E : jE) (S : jS) (x : jX) (P : jO) {o : Nat} (ho : o < 8) (h : Int32) : Ct l E yX2_leastOf cX2_leastOf 3 (some .int) 1 [.ref (ad E o 0), .int h] (setO S o P, x) (some (.int (oI (fnd (fun n => decide (P 2 n = h)) 64 0)))) (setO S o P, x) := by
  refine Ct.of (by decide +kernel) (Nat.le_refl _) (Nat.le_of_ble_eq_true rfl) rfl (fun J hJ hF => ?_)
  have loop : ∀ (k i : Nat) , i + k = 64 → fnd (fun n => decide (P 2 n = h)) k i = fnd (fun n => decide (P 2 n = h)) 64 0 → J (setO S o P, x) 2 [some (.ref (ad E o 0)), some (.int h), some (.int (nI i))] [] := by
    intro k
    induction k with
    | zero =>
      intro i  hi he
      obtain rfl : i = 64 := by omega
      refine r_iload_n hJ dX2_leastOf_2 rfl jg2 ?_
      refine r_bipush hJ (v := nI 64) dX2_leastOf_3 (by decide) ?_
      refine r_icmp_ge hJ (tgt := 26) dX2_leastOf_5 (by decide) (fun c5 => ?_) (fun c5 => ?_)
      · refine r_iconst hJ (v := (-1)) dX2_leastOf_26 (by decide) ?_
        exact ret_i hF dX2_leastOf_27 (by rw [← he]; rfl) rfl
      · exact absurd (nI_le (by omega) (by omega)) c5
    | succ k ih =>
      intro i  hi he
      refine r_iload_n hJ dX2_leastOf_2 rfl jg2 ?_
      refine r_bipush hJ (v := nI 64) dX2_leastOf_3 (by decide) ?_
      refine r_icmp_ge hJ (tgt := 26) dX2_leastOf_5 (by decide) (fun c5 => ?_) (fun c5 => ?_)
      · exact absurd c5 (nI_ge (by omega) (by omega))
      · refine r_aload_n hJ dX2_leastOf_8 rfl jg0 ?_
        refine r_g2_5 hJ ho m58 dX2_leastOf_9 ?_
        refine r_iload_n hJ dX2_leastOf_12 rfl jg2 ?_
        refine r_ialdO hJ (by omega) (alP2 ho (by omega)) rfl dX2_leastOf_13 ?_
        refine r_iload_n hJ dX2_leastOf_14 rfl jg1 ?_
        refine r_icmp_ne hJ (tgt := 20) dX2_leastOf_15 (by decide) (fun c15 => ?_) (fun c15 => ?_)
        · refine r_iinc hJ dX2_leastOf_20 jg2 (ii1 _) (jp2 rfl rfl) ?_
          refine r_goto hJ (tgt := 2) dX2_leastOf_23 (by decide) ?_
          exact ih (i + 1) (by omega) (by rw [← he]; simp [fnd, c15])
        · refine r_iload_n hJ dX2_leastOf_18 rfl jg2 ?_
          exact ret_i hF dX2_leastOf_19 (by rw [← he]; simp [fnd, c15, oI]) rfl
  refine r_iconst hJ (v := nI 0) dX2_leastOf_0 (by decide) ?_
  refine r_istore_n hJ dX2_leastOf_1 rfl (jp2 rfl rfl) ?_
  exact loop 64 0 (by omega) rfl

def leastE (P : jO) (h : Int32) : Nat → Nat → Int32 → Int32
  | 0, _, v => v
  | k + 1, n, v => leastE P h k (n + 1) (if P 2 n = h ∧ stg P n = nI 1 ∧ (v = -1 ∨ P 4 n < v) then P 4 n else v)
set_option maxRecDepth 100000 in
set_option maxHeartbeats 1000000 in
theorem c2_leastEndOf (l : Launch) (E : jE) (S : jS) (x : jX) (P : jO) {o : Nat} (ho : o < 8) (h : Int32) : Ct l E yX2_leastEndOf cX2_leastEndOf 4 (some .int) 2 [.ref (ad E o 0), .int h] (setO S o P, x) (some (.int (leastE P h 64 0 (-1)))) (setO S o P, x) := by
  refine Ct.of (by decide +kernel) (Nat.le_refl _) (Nat.le_of_ble_eq_true rfl) rfl (fun J hJ hF => ?_)
  have loop : ∀ (k i : Nat) (v : Int32), i + k = 64 → leastE P h k i v = leastE P h 64 0 (-1) → J (setO S o P, x) 4 [some (.ref (ad E o 0)), some (.int h), some (.int v), some (.int (nI i))] [] := by
    intro k
    induction k with
    | zero =>
      intro i v hi he
      obtain rfl : i = 64 := by omega
      refine r_iload_n hJ dX2_leastEndOf_4 rfl jg3 ?_
      refine r_bipush hJ (v := nI 64) dX2_leastEndOf_5 (by decide) ?_
      refine r_icmp_ge hJ (tgt := 57) dX2_leastEndOf_7 (by decide) (fun c7 => ?_) (fun c7 => ?_)
      · refine r_iload_n hJ dX2_leastEndOf_57 rfl jg2 ?_
        exact ret_i hF dX2_leastEndOf_58 (by rw [← he]; rfl) rfl
      · exact absurd (nI_le (by omega) (by omega)) c7
    | succ k ih =>
      intro i v hi he
      refine r_iload_n hJ dX2_leastEndOf_4 rfl jg3 ?_
      refine r_bipush hJ (v := nI 64) dX2_leastEndOf_5 (by decide) ?_
      refine r_icmp_ge hJ (tgt := 57) dX2_leastEndOf_7 (by decide) (fun c7 => ?_) (fun c7 => ?_)
      · exact absurd c7 (nI_ge (by omega) (by omega))
      · refine r_aload_n hJ dX2_leastEndOf_10 rfl jg0 ?_
        refine r_g2_5 hJ ho m58 dX2_leastEndOf_11 ?_
        refine r_iload_n hJ dX2_leastEndOf_14 rfl jg3 ?_
        refine r_ialdO hJ (by omega) (alP2 ho (by omega)) rfl dX2_leastEndOf_15 ?_
        refine r_iload_n hJ dX2_leastEndOf_16 rfl jg1 ?_
        refine r_icmp_ne hJ (tgt := 51) dX2_leastEndOf_17 (by decide) (fun c17 => ?_) (fun c17 => ?_)
        · refine r_iinc hJ dX2_leastEndOf_51 jg3 (ii1 _) (jp3 rfl rfl) ?_
          refine r_goto hJ (tgt := 4) dX2_leastEndOf_54 (by decide) ?_
          exact ih (i + 1) _ (by omega) (by rw [← he, leastE, if_neg (by simp [c17])])
        · refine r_aload_n hJ dX2_leastEndOf_20 rfl jg0 ?_
          refine r_iload_n hJ dX2_leastEndOf_21 rfl jg3 ?_
          refine r_V1v hJ kX2_95 (rcv2 E ho) (c2_stateOf l E S x P ho (n := i) (by omega)) dX2_leastEndOf_22 ⟨by decide, by decide⟩ (Nat.le_of_ble_eq_true rfl) ?_
          refine r_iconst hJ (v := nI 1) dX2_leastEndOf_25 (by decide) ?_
          refine r_icmp_ne hJ (tgt := 51) dX2_leastEndOf_26 (by decide) (fun c26 => ?_) (fun c26 => ?_)
          · refine r_iinc hJ dX2_leastEndOf_51 jg3 (ii1 _) (jp3 rfl rfl) ?_
            refine r_goto hJ (tgt := 4) dX2_leastEndOf_54 (by decide) ?_
            exact ih (i + 1) _ (by omega) (by rw [← he, leastE, if_neg (by simp [c17, c26])])
          · refine r_iload_n hJ dX2_leastEndOf_29 rfl jg2 ?_
            refine r_iconst hJ (v := (-1)) dX2_leastEndOf_30 (by decide) ?_
            refine r_icmp_eq hJ (tgt := 44) dX2_leastEndOf_31 (by decide) (fun c31 => ?_) (fun c31 => ?_)
            · refine r_aload_n hJ dX2_leastEndOf_44 rfl jg0 ?_
              refine r_g2_7 hJ ho m61 dX2_leastEndOf_45 ?_
              refine r_iload_n hJ dX2_leastEndOf_48 rfl jg3 ?_
              refine r_ialdO hJ (by omega) (alP4 ho (by omega)) rfl dX2_leastEndOf_49 ?_
              refine r_istore_n hJ dX2_leastEndOf_50 rfl (jp2 rfl rfl) ?_
              refine r_iinc hJ dX2_leastEndOf_51 jg3 (ii1 _) (jp3 rfl rfl) ?_
              refine r_goto hJ (tgt := 4) dX2_leastEndOf_54 (by decide) ?_
              exact ih (i + 1) _ (by omega) (by rw [← he, leastE, if_pos ⟨c17, c26, Or.inl c31⟩])
            · refine r_aload_n hJ dX2_leastEndOf_34 rfl jg0 ?_
              refine r_g2_7 hJ ho m61 dX2_leastEndOf_35 ?_
              refine r_iload_n hJ dX2_leastEndOf_38 rfl jg3 ?_
              refine r_ialdO hJ (by omega) (alP4 ho (by omega)) rfl dX2_leastEndOf_39 ?_
              refine r_iload_n hJ dX2_leastEndOf_40 rfl jg2 ?_
              refine r_icmp_ge hJ (tgt := 51) dX2_leastEndOf_41 (by decide) (fun c41 => ?_) (fun c41 => ?_)
              · refine r_iinc hJ dX2_leastEndOf_51 jg3 (ii1 _) (jp3 rfl rfl) ?_
                refine r_goto hJ (tgt := 4) dX2_leastEndOf_54 (by decide) ?_
                exact ih (i + 1) _ (by omega) (by rw [← he, leastE, if_neg (fun q => q.2.2.elim c31 (fun r => absurd c41 (Int32.not_le.mpr r)))])
              · refine r_aload_n hJ dX2_leastEndOf_44 rfl jg0 ?_
                refine r_g2_7 hJ ho m61 dX2_leastEndOf_45 ?_
                refine r_iload_n hJ dX2_leastEndOf_48 rfl jg3 ?_
                refine r_ialdO hJ (by omega) (alP4 ho (by omega)) rfl dX2_leastEndOf_49 ?_
                refine r_istore_n hJ dX2_leastEndOf_50 rfl (jp2 rfl rfl) ?_
                refine r_iinc hJ dX2_leastEndOf_51 jg3 (ii1 _) (jp3 rfl rfl) ?_
                refine r_goto hJ (tgt := 4) dX2_leastEndOf_54 (by decide) ?_
                exact ih (i + 1) _ (by omega) (by rw [← he, leastE, if_pos ⟨c17, c26, Or.inr (Int32.not_le.mp c41)⟩])
  refine r_iconst hJ (v := (-1)) dX2_leastEndOf_0 (by decide) ?_
  refine r_istore_n hJ dX2_leastEndOf_1 rfl (jp2 rfl rfl) ?_
  refine r_iconst hJ (v := nI 0) dX2_leastEndOf_2 (by decide) ?_
  refine r_istore_n hJ dX2_leastEndOf_3 rfl (jp3 rfl rfl) ?_
  exact loop 64 0 _ (by omega) rfl

def longN (P : jO) (z : Nat) : Nat → Nat → Nat → Nat
  | 0, _, v => v
  | k + 1, n, v => longN P z k (n + 1) (if v < rowP P z n then rowP P z n else v)
theorem rowP_le (P : jO) (z n : Nat) : rowP P z n ≤ z := by
  have := row_le (frP P) (z - n) n
  unfold rowP
  omega
def stS (P : jO) (n : Nat) : Bool := decide (P 2 n = -1) && (decide (n = 0) || !decide (P 2 (n - 1) = -1))
def spanAt (P : jO) (q : Int32) : Nat → Nat → Nat → Option Nat
  | 0, _, _ => none
  | k + 1, n, c => if stS P n then (if nI c = q then some n else spanAt P q k (n + 1) (c + 1)) else spanAt P q k (n + 1) c
theorem spanAt_lt {P : jO} {q : Int32} : ∀ {k n c i : Nat}, spanAt P q k n c = some i → n ≤ i ∧ i < n + k
  | 0, n, c, i, h => by simp [spanAt] at h
  | k + 1, n, c, i, h => by
    rw [spanAt] at h
    split at h
    · split at h
      · cases h
        omega
      · have := spanAt_lt h
        omega
    · have := spanAt_lt h
      omega
set_option maxRecDepth 100000 in
set_option maxHeartbeats 1000000 in
theorem c2_longestRow (l : Launch) (E : jE) (S : jS) (x : jX) (P : jO) {o : Nat} (ho : o < 8) {z : Nat} (hz : P 1 3 = nI z) (hz4 : z ≤ 64) : Ct l E yX2_longestRow cX2_longestRow 3 (some .int) 2 [.ref (ad E o 0)] (setO S o P, x) (some (.int (nI (longN P z z 0 0)))) (setO S o P, x) := by
  refine Ct.of (by decide +kernel) (Nat.le_refl _) (Nat.le_of_ble_eq_true rfl) rfl (fun J hJ hF => ?_)
  have loop : ∀ (k i v : Nat), i + k = z → v ≤ 64 → longN P z k i v = longN P z z 0 0 → J (setO S o P, x) 4 [some (.ref (ad E o 0)), some (.int (nI v)), some (.int (nI i))] [] := by
    intro k
    induction k with
    | zero =>
      intro i v hi hv he
      obtain rfl : i = z := by omega
      refine r_iload_n hJ dX2_longestRow_4 rfl jg2 ?_
      refine r_aload_n hJ dX2_longestRow_5 rfl jg0 ?_
      refine r_g2_4 hJ ho m56 dX2_longestRow_6 ?_
      refine r_iconst hJ (v := nI 3) dX2_longestRow_9 (by decide) ?_
      refine r_ialdO hJ (by omega) (alP1 ho (by omega)) rfl dX2_longestRow_10 ?_
      refine r_icmp_ge hJ (tgt := 30) dX2_longestRow_11 (by decide) (fun c11 => ?_) (fun c11 => ?_)
      · refine r_iload_n hJ dX2_longestRow_30 rfl jg1 ?_
        exact ret_i hF dX2_longestRow_31 (by rw [← he]; rfl) rfl
      · rw [hz] at c11
        exact absurd (nI_le (by omega) (by omega)) c11
    | succ k ih =>
      intro i v hi hv he
      refine r_iload_n hJ dX2_longestRow_4 rfl jg2 ?_
      refine r_aload_n hJ dX2_longestRow_5 rfl jg0 ?_
      refine r_g2_4 hJ ho m56 dX2_longestRow_6 ?_
      refine r_iconst hJ (v := nI 3) dX2_longestRow_9 (by decide) ?_
      refine r_ialdO hJ (by omega) (alP1 ho (by omega)) rfl dX2_longestRow_10 ?_
      refine r_icmp_ge hJ (tgt := 30) dX2_longestRow_11 (by decide) (fun c11 => ?_) (fun c11 => ?_)
      · rw [hz] at c11
        exact absurd c11 (nI_ge (by omega) (by omega))
      · refine r_iload_n hJ dX2_longestRow_14 rfl jg1 ?_
        refine r_aload_n hJ dX2_longestRow_15 rfl jg0 ?_
        refine r_iload_n hJ dX2_longestRow_16 rfl jg2 ?_
        refine r_V1v hJ kX2_127 (rcv2 E ho) (c2_rowFrom l E S x P ho hz hz4 (f := i) (by omega)) dX2_longestRow_17 ⟨by decide, by decide⟩ (Nat.le_of_ble_eq_true rfl) ?_
        have hrz := rowP_le P z i
        refine r_max hJ ⟨m280, m281, m35, m282⟩ dX2_longestRow_20 (by decide) (Nat.le_of_ble_eq_true rfl) ?_
        rw [show (if nI v < nI (rowP P z i) then nI (rowP P z i) else nI v) = nI (if v < rowP P z i then rowP P z i else v) from by simp only [nI_ltI (show v < 2 ^ 31 by omega) (show rowP P z i < 2 ^ 31 by omega)]; split <;> rfl]
        refine r_istore_n hJ dX2_longestRow_23 rfl (jp1 rfl rfl) ?_
        refine r_iinc hJ dX2_longestRow_24 jg2 (ii1 _) (jp2 rfl rfl) ?_
        refine r_goto hJ (tgt := 4) dX2_longestRow_27 (by decide) ?_
        exact ih (i + 1) _ (by omega) (by split <;> omega) he
  refine r_iconst hJ (v := nI 0) dX2_longestRow_0 (by decide) ?_
  refine r_istore_n hJ dX2_longestRow_1 rfl (jp1 rfl rfl) ?_
  refine r_iconst hJ (v := nI 0) dX2_longestRow_2 (by decide) ?_
  refine r_istore_n hJ dX2_longestRow_3 rfl (jp2 rfl rfl) ?_
  exact loop z 0 0 (by omega) (by omega) rfl

set_option maxRecDepth 100000 in
set_option maxHeartbeats 1000000 in
theorem c2_startsSpan (l : Launch) (E : jE) (S : jS) (x : jX) (P : jO) {o : Nat} (ho : o < 8) {n : Nat} (hn : n < 64) : Ct l E yX2_startsSpan cX2_startsSpan 2 (some .boolean) 1 [.ref (ad E o 0), .int (nI n)] (setO S o P, x) (some (.int (bI (stS P n)))) (setO S o P, x) := by
  refine Ct.of (by decide +kernel) (Nat.le_refl _) (Nat.le_of_ble_eq_true rfl) rfl (fun J hJ hF => ?_)
  refine r_aload_n hJ dX2_startsSpan_0 rfl jg0 ?_
  refine r_g2_5 hJ ho m58 dX2_startsSpan_1 ?_
  refine r_iload_n hJ dX2_startsSpan_4 rfl jg1 ?_
  refine r_ialdO hJ (by omega) (alP2 ho (by omega)) rfl dX2_startsSpan_5 ?_
  refine r_iconst hJ (v := (-1)) dX2_startsSpan_6 (by decide) ?_
  refine r_icmp_ne hJ (tgt := 30) dX2_startsSpan_7 (by decide) (fun c7 => ?_) (fun c7 => ?_)
  · refine r_iconst hJ (v := nI 0) dX2_startsSpan_30 (by decide) ?_
    exact ret_z hF dX2_startsSpan_31 (by decide) (by simp [stS, bI, nI0, nI1, c7]) rfl
  · refine r_iload_n hJ dX2_startsSpan_10 rfl jg1 ?_
    refine r_if_eq hJ (tgt := 26) dX2_startsSpan_11 (by decide) (fun c11 => ?_) (fun c11 => ?_)
    · rw [show (0 : Int32) = nI 0 from rfl, nI_eq (by omega) (by decide)] at c11
      rw [c11] at c7
      refine r_iconst hJ (v := nI 1) dX2_startsSpan_26 (by decide) ?_
      refine r_goto hJ (tgt := 31) dX2_startsSpan_27 (by decide) ?_
      exact ret_z hF dX2_startsSpan_31 (by decide) (by simp [stS, bI, nI0, nI1, c7, c11]) rfl
    · rw [show (0 : Int32) = nI 0 from rfl, nI_eq (by omega) (by decide)] at c11
      refine r_aload_n hJ dX2_startsSpan_14 rfl jg0 ?_
      refine r_g2_5 hJ ho m58 dX2_startsSpan_15 ?_
      refine r_iload_n hJ dX2_startsSpan_18 rfl jg1 ?_
      refine r_iconst hJ (v := nI 1) dX2_startsSpan_19 (by decide) ?_
      refine r_isub hJ dX2_startsSpan_20 ?_
      rw [pk_sub (by omega)]
      refine r_ialdO hJ (by omega) (alP2 ho (by omega)) rfl dX2_startsSpan_21 ?_
      refine r_iconst hJ (v := (-1)) dX2_startsSpan_22 (by decide) ?_
      refine r_icmp_eq hJ (tgt := 30) dX2_startsSpan_23 (by decide) (fun c23 => ?_) (fun c23 => ?_)
      · refine r_iconst hJ (v := nI 0) dX2_startsSpan_30 (by decide) ?_
        exact ret_z hF dX2_startsSpan_31 (by decide) (by simp [stS, bI, nI0, nI1, c7, c11, c23]) rfl
      · refine r_iconst hJ (v := nI 1) dX2_startsSpan_26 (by decide) ?_
        refine r_goto hJ (tgt := 31) dX2_startsSpan_27 (by decide) ?_
        exact ret_z hF dX2_startsSpan_31 (by decide) (by simp [stS, bI, nI0, nI1, c7, c11, c23]) rfl

set_option maxRecDepth 100000 in
set_option maxHeartbeats 1000000 in
theorem c2_spans (l : Launch) (E : jE) (S : jS) (x : jX) (P : jO) {o : Nat} (ho : o < 8) {z : Nat} (hz : P 1 3 = nI z) (hz4 : z ≤ 64) : Ct l E yX2_spans cX2_spans 3 (some .int) 2 [.ref (ad E o 0)] (setO S o P, x) (some (.int (nI (cnt (stS P) z)))) (setO S o P, x) := by
  refine Ct.of (by decide +kernel) (Nat.le_refl _) (Nat.le_of_ble_eq_true rfl) rfl (fun J hJ hF => ?_)
  have loop : ∀ (k i : Nat), i + k = z → J (setO S o P, x) 4 [some (.ref (ad E o 0)), some (.int (nI (cnt (stS P) i))), some (.int (nI i))] [] := by
    intro k
    induction k with
    | zero =>
      intro i hi
      obtain rfl : i = z := by omega
      refine r_iload_n hJ dX2_spans_4 rfl jg2 ?_
      refine r_aload_n hJ dX2_spans_5 rfl jg0 ?_
      refine r_g2_4 hJ ho m56 dX2_spans_6 ?_
      refine r_iconst hJ (v := nI 3) dX2_spans_9 (by decide) ?_
      refine r_ialdO hJ (by omega) (alP1 ho (by omega)) rfl dX2_spans_10 ?_
      refine r_icmp_ge hJ (tgt := 31) dX2_spans_11 (by decide) (fun c11 => ?_) (fun c11 => ?_)
      · rw [hz] at c11
        refine r_iload_n hJ dX2_spans_31 rfl jg1 ?_
        exact ret_i hF dX2_spans_32 rfl rfl
      · rw [hz] at c11
        exact absurd (nI_le (by omega) (by omega)) c11
    | succ k ih =>
      intro i hi
      refine r_iload_n hJ dX2_spans_4 rfl jg2 ?_
      refine r_aload_n hJ dX2_spans_5 rfl jg0 ?_
      refine r_g2_4 hJ ho m56 dX2_spans_6 ?_
      refine r_iconst hJ (v := nI 3) dX2_spans_9 (by decide) ?_
      refine r_ialdO hJ (by omega) (alP1 ho (by omega)) rfl dX2_spans_10 ?_
      refine r_icmp_ge hJ (tgt := 31) dX2_spans_11 (by decide) (fun c11 => ?_) (fun c11 => ?_)
      · rw [hz] at c11
        exact absurd c11 (nI_ge (by omega) (by omega))
      · rw [hz] at c11
        refine r_aload_n hJ dX2_spans_14 rfl jg0 ?_
        refine r_iload_n hJ dX2_spans_15 rfl jg2 ?_
        refine r_V1v hJ kX2_150 (rcv2 E ho) (c2_startsSpan l E S x P ho (n := i) (by omega)) dX2_spans_16 ⟨by decide, by decide⟩ (Nat.le_of_ble_eq_true rfl) ?_
        refine r_if_eq hJ (tgt := 25) dX2_spans_19 (by decide) (fun c19 => ?_) (fun c19 => ?_)
        · rw [bI_0] at c19
          have e : cnt (stS P) (i + 1) = cnt (stS P) i := by simp [cnt, c19]
          rw [← e]
          refine r_iinc hJ dX2_spans_25 jg2 (ii1 _) (jp2 rfl rfl) ?_
          refine r_goto hJ (tgt := 4) dX2_spans_28 (by decide) ?_
          exact ih (i + 1) (by omega)
        · rw [bI_0, Bool.not_eq_false] at c19
          have e : cnt (stS P) (i + 1) = cnt (stS P) i + 1 := by simp [cnt, c19]
          refine r_iinc hJ dX2_spans_22 jg1 (ii1 _) (jp1 rfl rfl) ?_
          rw [← e]
          refine r_iinc hJ dX2_spans_25 jg2 (ii1 _) (jp2 rfl rfl) ?_
          refine r_goto hJ (tgt := 4) dX2_spans_28 (by decide) ?_
          exact ih (i + 1) (by omega)
  refine r_iconst hJ (v := nI 0) dX2_spans_0 (by decide) ?_
  refine r_istore_n hJ dX2_spans_1 rfl (jp1 rfl rfl) ?_
  refine r_iconst hJ (v := nI 0) dX2_spans_2 (by decide) ?_
  refine r_istore_n hJ dX2_spans_3 rfl (jp2 rfl rfl) ?_
  exact loop z 0 (by omega)

set_option maxRecDepth 100000 in
set_option maxHeartbeats 1000000 in
theorem c2_startOfSpan (l : Launch) (E : jE) (S : jS) (x : jX) (P : jO) {o : Nat} (ho : o < 8) {z : Nat} (hz : P 1 3 = nI z) (hz4 : z ≤ 64) (q : Int32) : Ct l E yX2_startOfSpan cX2_startOfSpan 4 (some .int) 2 [.ref (ad E o 0), .int q] (setO S o P, x) (some (.int (oI (spanAt P q z 0 0)))) (setO S o P, x) := by
  refine Ct.of (by decide +kernel) (Nat.le_refl _) (Nat.le_of_ble_eq_true rfl) rfl (fun J hJ hF => ?_)
  have loop : ∀ (k i c : Nat), i + k = z → spanAt P q k i c = spanAt P q z 0 0 → J (setO S o P, x) 4 [some (.ref (ad E o 0)), some (.int q), some (.int (nI c)), some (.int (nI i))] [] := by
    intro k
    induction k with
    | zero =>
      intro i c hi he
      obtain rfl : i = z := by omega
      refine r_iload_n hJ dX2_startOfSpan_4 rfl jg3 ?_
      refine r_aload_n hJ dX2_startOfSpan_5 rfl jg0 ?_
      refine r_g2_4 hJ ho m56 dX2_startOfSpan_6 ?_
      refine r_iconst hJ (v := nI 3) dX2_startOfSpan_9 (by decide) ?_
      refine r_ialdO hJ (by omega) (alP1 ho (by omega)) rfl dX2_startOfSpan_10 ?_
      refine r_icmp_ge hJ (tgt := 38) dX2_startOfSpan_11 (by decide) (fun c11 => ?_) (fun c11 => ?_)
      · refine r_iconst hJ (v := (-1)) dX2_startOfSpan_38 (by decide) ?_
        exact ret_i hF dX2_startOfSpan_39 (by rw [← he]; rfl) rfl
      · rw [hz] at c11
        exact absurd (nI_le (by omega) (by omega)) c11
    | succ k ih =>
      intro i c hi he
      refine r_iload_n hJ dX2_startOfSpan_4 rfl jg3 ?_
      refine r_aload_n hJ dX2_startOfSpan_5 rfl jg0 ?_
      refine r_g2_4 hJ ho m56 dX2_startOfSpan_6 ?_
      refine r_iconst hJ (v := nI 3) dX2_startOfSpan_9 (by decide) ?_
      refine r_ialdO hJ (by omega) (alP1 ho (by omega)) rfl dX2_startOfSpan_10 ?_
      refine r_icmp_ge hJ (tgt := 38) dX2_startOfSpan_11 (by decide) (fun c11 => ?_) (fun c11 => ?_)
      · rw [hz] at c11
        exact absurd c11 (nI_ge (by omega) (by omega))
      · rw [hz] at c11
        refine r_aload_n hJ dX2_startOfSpan_14 rfl jg0 ?_
        refine r_iload_n hJ dX2_startOfSpan_15 rfl jg3 ?_
        refine r_V1v hJ kX2_150 (rcv2 E ho) (c2_startsSpan l E S x P ho (n := i) (by omega)) dX2_startOfSpan_16 ⟨by decide, by decide⟩ (Nat.le_of_ble_eq_true rfl) ?_
        refine r_if_eq hJ (tgt := 32) dX2_startOfSpan_19 (by decide) (fun c19 => ?_) (fun c19 => ?_)
        · rw [bI_0] at c19
          refine r_iinc hJ dX2_startOfSpan_32 jg3 (ii1 _) (jp3 rfl rfl) ?_
          refine r_goto hJ (tgt := 4) dX2_startOfSpan_35 (by decide) ?_
          exact ih (i + 1) c (by omega) (by rw [← he, spanAt, if_neg (by simp [c19])])
        · rw [bI_0, Bool.not_eq_false] at c19
          refine r_iload_n hJ dX2_startOfSpan_22 rfl jg2 ?_
          refine r_iload_n hJ dX2_startOfSpan_23 rfl jg1 ?_
          refine r_icmp_ne hJ (tgt := 29) dX2_startOfSpan_24 (by decide) (fun c24 => ?_) (fun c24 => ?_)
          · refine r_iinc hJ dX2_startOfSpan_29 jg2 (ii1 _) (jp2 rfl rfl) ?_
            refine r_iinc hJ dX2_startOfSpan_32 jg3 (ii1 _) (jp3 rfl rfl) ?_
            refine r_goto hJ (tgt := 4) dX2_startOfSpan_35 (by decide) ?_
            exact ih (i + 1) (c + 1) (by omega) (by rw [← he, spanAt, if_pos c19, if_neg c24])
          · refine r_iload_n hJ dX2_startOfSpan_27 rfl jg3 ?_
            exact ret_i hF dX2_startOfSpan_28 (by rw [← he, spanAt, if_pos c19, if_pos c24]; rfl) rfl
  refine r_iconst hJ (v := nI 0) dX2_startOfSpan_0 (by decide) ?_
  refine r_istore_n hJ dX2_startOfSpan_1 rfl (jp2 rfl rfl) ?_
  refine r_iconst hJ (v := nI 0) dX2_startOfSpan_2 (by decide) ?_
  refine r_istore_n hJ dX2_startOfSpan_3 rfl (jp3 rfl rfl) ?_
  exact loop z 0 0 (by omega) rfl

def ofSp (P : jO) (z : Nat) (q w : Int32) : Int32 := match spanAt P q z 0 0 with
  | none => -1
  | some i => if w = 0 then nI i else nI (rowP P z i)
theorem spanAt_m1 {P : jO} {q : Int32} {z : Nat} (hz : z ≤ 64) : oI (spanAt P q z 0 0) = -1 ↔ spanAt P q z 0 0 = none := oI_m1 fun n h => by have := (spanAt_lt h).2; omega
set_option maxRecDepth 100000 in
set_option maxHeartbeats 1000000 in
theorem c2_ofSpan (l : Launch) (E : jE) (S : jS) (x : jX) (P : jO) {o : Nat} (ho : o < 8) {z : Nat} (hz : P 1 3 = nI z) (hz4 : z ≤ 64) (q w : Int32) : Ct l E yX2_ofSpan cX2_ofSpan 4 (some .int) 3 [.ref (ad E o 0), .int q, .int w] (setO S o P, x) (some (.int (ofSp P z q w))) (setO S o P, x) := by
  refine Ct.of (by decide +kernel) (Nat.le_refl _) (Nat.le_of_ble_eq_true rfl) rfl (fun J hJ hF => ?_)
  refine r_aload_n hJ dX2_ofSpan_0 rfl jg0 ?_
  refine r_iload_n hJ dX2_ofSpan_1 rfl jg1 ?_
  refine r_V1v hJ kX2_124 (rcv2 E ho) (c2_startOfSpan l E S x P ho hz hz4 q) dX2_ofSpan_2 ⟨by decide, by decide⟩ (Nat.le_of_ble_eq_true rfl) ?_
  refine r_istore_n hJ dX2_ofSpan_5 rfl (jp3 rfl rfl) ?_
  refine r_iload_n hJ dX2_ofSpan_6 rfl jg3 ?_
  refine r_iconst hJ (v := (-1)) dX2_ofSpan_7 (by decide) ?_
  refine r_icmp_eq hJ (tgt := 15) dX2_ofSpan_8 (by decide) (fun c8 => ?_) (fun c8 => ?_)
  · rw [spanAt_m1 hz4] at c8
    refine r_iload_n hJ dX2_ofSpan_15 rfl jg3 ?_
    first | exact ret_i hF dX2_ofSpan_16 (by unfold ofSp; rw [c8]; rfl) rfl | exact ret_i hF dX2_ofSpan_16 (by unfold ofSp; rw [hi]; simp [oI, c12]) rfl
  · rw [spanAt_m1 hz4] at c8
    obtain ⟨i, hi⟩ := Option.ne_none_iff_exists'.mp c8
    have hi2 := (spanAt_lt hi).2
    rw [hi]
    refine r_iload_n hJ dX2_ofSpan_11 rfl jg2 ?_
    refine r_if_ne hJ (tgt := 17) dX2_ofSpan_12 (by decide) (fun c12 => ?_) (fun c12 => ?_)
    · refine r_aload_n hJ dX2_ofSpan_17 rfl jg0 ?_
      refine r_iload_n hJ dX2_ofSpan_18 rfl jg3 ?_
      refine r_V1v hJ kX2_127 (rcv2 E ho) (c2_rowFrom l E S x P ho hz hz4 (f := i) (by omega)) dX2_ofSpan_19 ⟨by decide, by decide⟩ (Nat.le_of_ble_eq_true rfl) ?_
      exact ret_i hF dX2_ofSpan_22 (by unfold ofSp; rw [hi]; simp [c12]) rfl
    · refine r_iload_n hJ dX2_ofSpan_15 rfl jg3 ?_
      first | exact ret_i hF dX2_ofSpan_16 (by unfold ofSp; rw [c8]; rfl) rfl | exact ret_i hF dX2_ofSpan_16 (by unfold ofSp; rw [hi]; simp [oI, c12]) rfl
