set_option maxRecDepth 100000 in
set_option maxHeartbeats 1000000 in
theorem c2_numbersOf (l : Launch) (E : jE) (S : jS) (x : jX) (P : jO) {o : Nat} (ho : o < 8) (h : Int32) : Ct l E yX2_numbersOf cX2_numbersOf 4 (some .int) 1 [.ref (ad E o 0), .int h] (setO S o P, x) (some (.int (nI (cnt (fun n => decide (P 2 n = h)) 64)))) (setO S o P, x) := by
  refine Ct.of (by decide +kernel) (Nat.le_refl _) (Nat.le_of_ble_eq_true rfl) rfl (fun J hJ hF => ?_)
  have loop : ∀ k n : Nat, n + k = 64 → J (setO S o P, x) 4 [some (.ref (ad E o 0)), some (.int h), some (.int (nI (cnt (fun n => decide (P 2 n = h)) n))), some (.int (nI n))] [] := by
    intro k
    induction k with
    | zero =>
      intro n hn
      obtain rfl : n = 64 := by omega
      refine r_iload_n hJ dX2_numbersOf_4 rfl jg3 ?_
      refine r_bipush hJ (v := nI 64) dX2_numbersOf_5 (by decide) ?_
      refine r_icmp_ge hJ (tgt := 29) dX2_numbersOf_7 (by decide) (fun c7 => ?_) (fun c7 => ?_)
      · refine r_iload_n hJ dX2_numbersOf_29 rfl jg2 ?_
        exact ret_i hF dX2_numbersOf_30 rfl rfl
      · exact absurd (nI_le (by omega) (by omega)) c7
    | succ k ih =>
      intro n hn
      refine r_iload_n hJ dX2_numbersOf_4 rfl jg3 ?_
      refine r_bipush hJ (v := nI 64) dX2_numbersOf_5 (by decide) ?_
      refine r_icmp_ge hJ (tgt := 29) dX2_numbersOf_7 (by decide) (fun c7 => ?_) (fun c7 => ?_)
      · exact absurd c7 (nI_ge (by omega) (by omega))
      · refine r_aload_n hJ dX2_numbersOf_10 rfl jg0 ?_
        refine r_g2_5 hJ ho m58 dX2_numbersOf_11 ?_
        refine r_iload_n hJ dX2_numbersOf_14 rfl jg3 ?_
        refine r_ialdO hJ (by omega) (alP2 ho (by omega)) rfl dX2_numbersOf_15 ?_
        refine r_iload_n hJ dX2_numbersOf_16 rfl jg1 ?_
        refine r_icmp_ne hJ (tgt := 23) dX2_numbersOf_17 (by decide) (fun c17 => ?_) (fun c17 => ?_)
        · have e : cnt (fun n => decide (P 2 n = h)) (n + 1) = cnt (fun n => decide (P 2 n = h)) n := by simp [cnt, c17]
          rw [← e]
          refine r_iinc hJ dX2_numbersOf_23 jg3 (ii1 _) (jp3 rfl rfl) ?_
          refine r_goto hJ (tgt := 4) dX2_numbersOf_26 (by decide) ?_
          exact ih (n + 1) (by omega)
        · have e : cnt (fun n => decide (P 2 n = h)) (n + 1) = cnt (fun n => decide (P 2 n = h)) n + 1 := by simp [cnt, c17]
          refine r_iinc hJ dX2_numbersOf_20 jg2 (ii1 _) (jp2 rfl rfl) ?_
          rw [← e]
          refine r_iinc hJ dX2_numbersOf_23 jg3 (ii1 _) (jp3 rfl rfl) ?_
          refine r_goto hJ (tgt := 4) dX2_numbersOf_26 (by decide) ?_
          exact ih (n + 1) (by omega)
  refine r_iconst hJ (v := nI 0) dX2_numbersOf_0 (by decide) ?_
  refine r_istore_n hJ dX2_numbersOf_1 rfl (jp2 rfl rfl) ?_
  refine r_iconst hJ (v := nI 0) dX2_numbersOf_2 (by decide) ?_
  refine r_istore_n hJ dX2_numbersOf_3 rfl (jp3 rfl rfl) ?_
  exact loop 64 0 (by omega)

set_option maxRecDepth 100000 in
set_option maxHeartbeats 1000000 in
theorem c2_hasNumber (l : Launch) (E : jE) (S : jS) (x : jX) (P : jO) {o : Nat} (ho : o < 8) (n : Int32) : Ct l E yX2_hasNumber cX2_hasNumber 2 (some .boolean) 1 [.ref (ad E o 0), .int n] (setO S o P, x) (some (.int (bI (!decide (n < 0) && !decide (P 1 3 ≤ n))))) (setO S o P, x) := by
  refine Ct.of (by decide +kernel) (Nat.le_refl _) (Nat.le_of_ble_eq_true rfl) rfl (fun J hJ hF => ?_)
  refine r_iload_n hJ dX2_hasNumber_0 rfl jg1 ?_
  refine r_if_lt hJ (tgt := 18) dX2_hasNumber_1 (by decide) (fun c1 => ?_) (fun c1 => ?_)
  · refine r_iconst hJ (v := nI 0) dX2_hasNumber_18 (by decide) ?_
    exact ret_z hF dX2_hasNumber_19 (by decide) (by simp [bI, nI0, nI1, *]) rfl
  · refine r_iload_n hJ dX2_hasNumber_4 rfl jg1 ?_
    refine r_aload_n hJ dX2_hasNumber_5 rfl jg0 ?_
    refine r_g2_4 hJ ho m56 dX2_hasNumber_6 ?_
    refine r_iconst hJ (v := nI 3) dX2_hasNumber_9 (by decide) ?_
    refine r_ialdO hJ (by omega) (alP1 ho (by omega)) rfl dX2_hasNumber_10 ?_
    refine r_icmp_ge hJ (tgt := 18) dX2_hasNumber_11 (by decide) (fun c11 => ?_) (fun c11 => ?_)
    · refine r_iconst hJ (v := nI 0) dX2_hasNumber_18 (by decide) ?_
      exact ret_z hF dX2_hasNumber_19 (by decide) (by simp [bI, nI0, nI1, *]) rfl
    · refine r_iconst hJ (v := nI 1) dX2_hasNumber_14 (by decide) ?_
      refine r_goto hJ (tgt := 19) dX2_hasNumber_15 (by decide) ?_
      exact ret_z hF dX2_hasNumber_19 (by decide) (by simp [bI, nI0, nI1, *]) rfl

set_option maxRecDepth 100000 in
set_option maxHeartbeats 1000000 in
theorem c2_hasTimeFor (l : Launch) (E : jE) (S : jS) (x : jX) (P : jO) {o : Nat} (ho : o < 8) (b : Int32) : Ct l E yX2_hasTimeFor cX2_hasTimeFor 2 (some .boolean) 1 [.ref (ad E o 0), .int b] (setO S o P, x) (some (.int (bI (!decide (nI 9999 < P 0 0 + b))))) (setO S o P, x) := by
  refine Ct.of (by decide +kernel) (Nat.le_refl _) (Nat.le_of_ble_eq_true rfl) rfl (fun J hJ hF => ?_)
  refine r_aload_n hJ dX2_hasTimeFor_0 rfl jg0 ?_
  refine r_g2_0O hJ ho m51 dX2_hasTimeFor_1 ?_
  refine r_iload_n hJ dX2_hasTimeFor_4 rfl jg1 ?_
  refine r_iadd hJ dX2_hasTimeFor_5 ?_
  refine r_sipush hJ (v := nI 9999) dX2_hasTimeFor_6 (by decide) ?_
  refine r_icmp_gt hJ (tgt := 16) dX2_hasTimeFor_9 (by decide) (fun c9 => ?_) (fun c9 => ?_)
  · refine r_iconst hJ (v := nI 0) dX2_hasTimeFor_16 (by decide) ?_
    exact ret_z hF dX2_hasTimeFor_17 (by decide) (by simp [bI, nI0, nI1, *]) rfl
  · refine r_iconst hJ (v := nI 1) dX2_hasTimeFor_12 (by decide) ?_
    refine r_goto hJ (tgt := 17) dX2_hasTimeFor_13 (by decide) ?_
    exact ret_z hF dX2_hasTimeFor_17 (by decide) (by simp [bI, nI0, nI1, *]) rfl

set_option maxRecDepth 100000 in
set_option maxHeartbeats 1000000 in
theorem c2_fitsIn (l : Launch) (E : jE) (S : jS) (x : jX) (P : jO) {o : Nat} (ho : o < 8) {m : Nat} (hm : m ≤ 64) : Ct l E yX2_fitsIn cX2_fitsIn 3 (some .boolean) 1 [.ref (ad E o 0), .int (nI m)] (setO S o P, x) (some (.int (bI (fnd (fun n => !frP P n) (64 - m) m).isNone))) (setO S o P, x) := by
  refine Ct.of (by decide +kernel) (Nat.le_refl _) (Nat.le_of_ble_eq_true rfl) rfl (fun J hJ hF => ?_)
  have loop : ∀ k n : Nat, n + k = 64 → (fnd (fun n => !frP P n) k n).isNone = (fnd (fun n => !frP P n) (64 - m) m).isNone → J (setO S o P, x) 2 [some (.ref (ad E o 0)), some (.int (nI m)), some (.int (nI n))] [] := by
    intro k
    induction k with
    | zero =>
      intro n hn he
      obtain rfl : n = 64 := by omega
      refine r_iload_n hJ dX2_fitsIn_2 rfl jg2 ?_
      refine r_bipush hJ (v := nI 64) dX2_fitsIn_3 (by decide) ?_
      refine r_icmp_ge hJ (tgt := 26) dX2_fitsIn_5 (by decide) (fun c5 => ?_) (fun c5 => ?_)
      · refine r_iconst hJ (v := nI 1) dX2_fitsIn_26 (by decide) ?_
        exact ret_z hF dX2_fitsIn_27 (by decide) (by rw [← he]; rfl) rfl
      · exact absurd (nI_le (by omega) (by omega)) c5
    | succ k ih =>
      intro n hn he
      refine r_iload_n hJ dX2_fitsIn_2 rfl jg2 ?_
      refine r_bipush hJ (v := nI 64) dX2_fitsIn_3 (by decide) ?_
      refine r_icmp_ge hJ (tgt := 26) dX2_fitsIn_5 (by decide) (fun c5 => ?_) (fun c5 => ?_)
      · exact absurd c5 (nI_ge (by omega) (by omega))
      · refine r_aload_n hJ dX2_fitsIn_8 rfl jg0 ?_
        refine r_g2_5 hJ ho m58 dX2_fitsIn_9 ?_
        refine r_iload_n hJ dX2_fitsIn_12 rfl jg2 ?_
        refine r_ialdO hJ (by omega) (alP2 ho (by omega)) rfl dX2_fitsIn_13 ?_
        refine r_iconst hJ (v := (-1)) dX2_fitsIn_14 (by decide) ?_
        refine r_icmp_eq hJ (tgt := 20) dX2_fitsIn_15 (by decide) (fun c15 => ?_) (fun c15 => ?_)
        · refine r_iinc hJ dX2_fitsIn_20 jg2 (ii1 _) (jp2 rfl rfl) ?_
          refine r_goto hJ (tgt := 2) dX2_fitsIn_23 (by decide) ?_
          exact ih (n + 1) (by omega) (by rw [← he]; simp [fnd, frP, c15])
        · refine r_iconst hJ (v := nI 0) dX2_fitsIn_18 (by decide) ?_
          exact ret_z hF dX2_fitsIn_19 (by decide) (by rw [← he]; simp [fnd, frP, c15, bI, nI0]) rfl
  refine r_iload_n hJ dX2_fitsIn_0 rfl jg1 ?_
  refine r_istore_n hJ dX2_fitsIn_1 rfl (jp2 rfl rfl) ?_
  exact loop (64 - m) m (by omega) rfl

set_option maxRecDepth 100000 in
set_option maxHeartbeats 1000000 in
theorem c2_hasRoom (l : Launch) (E : jE) (S : jS) (x : jX) (P : jO) {o : Nat} (ho : o < 8) (h m : Int32) : Ct l E yX2_hasRoom cX2_hasRoom 3 (some .boolean) 2 [.ref (ad E o 0), .int h, .int m] (setO S o P, x) (some (.int (bI (hasR P h m)))) (setO S o P, x) := by
  refine Ct.of (by decide +kernel) (Nat.le_refl _) (Nat.le_of_ble_eq_true rfl) rfl (fun J hJ hF => ?_)
  refine r_aload_n hJ dX2_hasRoom_0 rfl jg0 ?_
  refine r_iload_n hJ dX2_hasRoom_1 rfl jg1 ?_
  refine r_V1v hJ kX2_88 (rcv2 E ho) (c2_numbersOf l E S x P ho h) dX2_hasRoom_2 ⟨by decide, by decide⟩ (Nat.le_of_ble_eq_true rfl) ?_
  refine r_iload_n hJ dX2_hasRoom_5 rfl jg2 ?_
  refine r_iadd hJ dX2_hasRoom_6 ?_
  refine r_aload_n hJ dX2_hasRoom_7 rfl jg0 ?_
  refine r_g2_4 hJ ho m56 dX2_hasRoom_8 ?_
  refine r_iconst hJ (v := nI 1) dX2_hasRoom_11 (by decide) ?_
  refine r_ialdO hJ (by omega) (alP1 ho (by omega)) rfl dX2_hasRoom_12 ?_
  refine r_icmp_gt hJ (tgt := 20) dX2_hasRoom_13 (by decide) (fun c13 => ?_) (fun c13 => ?_)
  · refine r_iconst hJ (v := nI 0) dX2_hasRoom_20 (by decide) ?_
    exact ret_z hF dX2_hasRoom_21 (by decide) (by simp [hasR, hasP, bI, nI0, nI1, *]) rfl
  · refine r_iconst hJ (v := nI 1) dX2_hasRoom_16 (by decide) ?_
    refine r_goto hJ (tgt := 21) dX2_hasRoom_17 (by decide) ?_
    exact ret_z hF dX2_hasRoom_21 (by decide) (by simp [hasR, hasP, bI, nI0, nI1, *]) rfl

set_option maxRecDepth 100000 in
set_option maxHeartbeats 1000000 in
theorem c2_rowFrom (l : Launch) (E : jE) (S : jS) (x : jX) (P : jO) {o : Nat} (ho : o < 8) {z : Nat} (hz : P 1 3 = nI z) (hz4 : z ≤ 64) {f : Nat} (hfz : f ≤ z) : Ct l E yX2_rowFrom cX2_rowFrom 3 (some .int) 1 [.ref (ad E o 0), .int (nI f)] (setO S o P, x) (some (.int (nI (rowP P z f)))) (setO S o P, x) := by
  refine Ct.of (by decide +kernel) (Nat.le_refl _) (Nat.le_of_ble_eq_true rfl) rfl (fun J hJ hF => ?_)
  have loop : ∀ k n : Nat, n + k = z → f ≤ n → n - f + row (frP P) k n = rowP P z f → J (setO S o P, x) 2 [some (.ref (ad E o 0)), some (.int (nI f)), some (.int (nI n))] [] := by
    intro k
    induction k with
    | zero =>
      intro n hn hf he
      obtain rfl : n = z := by omega
      have he2 : n - f = rowP P n f := by simpa [row] using he
      refine r_iload_n hJ dX2_rowFrom_2 rfl jg2 ?_
      refine r_aload_n hJ dX2_rowFrom_3 rfl jg0 ?_
      refine r_g2_4 hJ ho m56 dX2_rowFrom_4 ?_
      refine r_iconst hJ (v := nI 3) dX2_rowFrom_7 (by decide) ?_
      refine r_ialdO hJ (by omega) (alP1 ho (by omega)) rfl dX2_rowFrom_8 ?_
      refine r_icmp_ge hJ (tgt := 28) dX2_rowFrom_9 (by decide) (fun c9 => ?_) (fun c9 => ?_)
      · refine r_iload_n hJ dX2_rowFrom_28 rfl jg2 ?_
        refine r_iload_n hJ dX2_rowFrom_29 rfl jg1 ?_
        refine r_isub hJ dX2_rowFrom_30 ?_
        exact ret_i hF dX2_rowFrom_31 (by rw [pk_sub (by omega)]; exact congrArg (fun q => some (Value.int (nI q))) (by omega)) rfl
      · rw [hz] at c9
        exact absurd (nI_le (by omega) (by omega)) c9
    | succ k ih =>
      intro n hn hf he
      refine r_iload_n hJ dX2_rowFrom_2 rfl jg2 ?_
      refine r_aload_n hJ dX2_rowFrom_3 rfl jg0 ?_
      refine r_g2_4 hJ ho m56 dX2_rowFrom_4 ?_
      refine r_iconst hJ (v := nI 3) dX2_rowFrom_7 (by decide) ?_
      refine r_ialdO hJ (by omega) (alP1 ho (by omega)) rfl dX2_rowFrom_8 ?_
      refine r_icmp_ge hJ (tgt := 28) dX2_rowFrom_9 (by decide) (fun c9 => ?_) (fun c9 => ?_)
      · rw [hz] at c9
        exact absurd c9 (nI_ge (by omega) (by omega))
      · refine r_aload_n hJ dX2_rowFrom_12 rfl jg0 ?_
        refine r_g2_5 hJ ho m58 dX2_rowFrom_13 ?_
        refine r_iload_n hJ dX2_rowFrom_16 rfl jg2 ?_
        refine r_ialdO hJ (by omega) (alP2 ho (by omega)) rfl dX2_rowFrom_17 ?_
        refine r_iconst hJ (v := (-1)) dX2_rowFrom_18 (by decide) ?_
        refine r_icmp_ne hJ (tgt := 28) dX2_rowFrom_19 (by decide) (fun c19 => ?_) (fun c19 => ?_)
        · have he2 : n - f = rowP P z f := by rw [← he]; simp [row, frP, c19]
          refine r_iload_n hJ dX2_rowFrom_28 rfl jg2 ?_
          refine r_iload_n hJ dX2_rowFrom_29 rfl jg1 ?_
          refine r_isub hJ dX2_rowFrom_30 ?_
          exact ret_i hF dX2_rowFrom_31 (by rw [pk_sub (by omega)]; exact congrArg (fun q => some (Value.int (nI q))) (by omega)) rfl
        · refine r_iinc hJ dX2_rowFrom_22 jg2 (ii1 _) (jp2 rfl rfl) ?_
          refine r_goto hJ (tgt := 2) dX2_rowFrom_25 (by decide) ?_
          exact ih (n + 1) (by omega) (by omega) (by rw [← he]; simp [row, frP, c19]; omega)
  refine r_iload_n hJ dX2_rowFrom_0 rfl jg1 ?_
  refine r_istore_n hJ dX2_rowFrom_1 rfl (jp2 rfl rfl) ?_
  exact loop (z - f) f (by omega) (Nat.le_refl _) (by rw [Nat.sub_self, Nat.zero_add]; rfl)

set_option maxRecDepth 100000 in
set_option maxHeartbeats 1000000 in
theorem c2_lowestRow (l : Launch) (E : jE) (S : jS) (x : jX) (P : jO) {o : Nat} (ho : o < 8) {z : Nat} (hz : P 1 3 = nI z) (hz4 : z ≤ 64) (m : Int32) : Ct l E yX2_lowestRow cX2_lowestRow 3 (some .int) 2 [.ref (ad E o 0), .int m] (setO S o P, x) (some (.int (oI (lowR P z m)))) (setO S o P, x) := by
  refine Ct.of (by decide +kernel) (Nat.le_refl _) (Nat.le_of_ble_eq_true rfl) rfl (fun J hJ hF => ?_)
  have loop : ∀ k n : Nat, n + k = z → fnd (fun n => decide (m ≤ nI (rowP P z n))) k n = lowR P z m → J (setO S o P, x) 2 [some (.ref (ad E o 0)), some (.int m), some (.int (nI n))] [] := by
    intro k
    induction k with
    | zero =>
      intro n hn he
      obtain rfl : n = z := by omega
      refine r_iload_n hJ dX2_lowestRow_2 rfl jg2 ?_
      refine r_aload_n hJ dX2_lowestRow_3 rfl jg0 ?_
      refine r_g2_4 hJ ho m56 dX2_lowestRow_4 ?_
      refine r_iconst hJ (v := nI 3) dX2_lowestRow_7 (by decide) ?_
      refine r_ialdO hJ (by omega) (alP1 ho (by omega)) rfl dX2_lowestRow_8 ?_
      refine r_icmp_ge hJ (tgt := 29) dX2_lowestRow_9 (by decide) (fun c9 => ?_) (fun c9 => ?_)
      · refine r_iconst hJ (v := (-1)) dX2_lowestRow_29 (by decide) ?_
        exact ret_i hF dX2_lowestRow_30 (by rw [← he]; rfl) rfl
      · rw [hz] at c9
        exact absurd (nI_le (by omega) (by omega)) c9
    | succ k ih =>
      intro n hn he
      refine r_iload_n hJ dX2_lowestRow_2 rfl jg2 ?_
      refine r_aload_n hJ dX2_lowestRow_3 rfl jg0 ?_
      refine r_g2_4 hJ ho m56 dX2_lowestRow_4 ?_
      refine r_iconst hJ (v := nI 3) dX2_lowestRow_7 (by decide) ?_
      refine r_ialdO hJ (by omega) (alP1 ho (by omega)) rfl dX2_lowestRow_8 ?_
      refine r_icmp_ge hJ (tgt := 29) dX2_lowestRow_9 (by decide) (fun c9 => ?_) (fun c9 => ?_)
      · rw [hz] at c9
        exact absurd c9 (nI_ge (by omega) (by omega))
      · refine r_aload_n hJ dX2_lowestRow_12 rfl jg0 ?_
        refine r_iload_n hJ dX2_lowestRow_13 rfl jg2 ?_
        refine r_V1v hJ kX2_127 (rcv2 E ho) (c2_rowFrom l E S x P ho hz hz4 (f := n) (by omega)) dX2_lowestRow_14 ⟨by decide, by decide⟩ (Nat.le_of_ble_eq_true rfl) ?_
        refine r_iload_n hJ dX2_lowestRow_17 rfl jg1 ?_
        refine r_icmp_lt hJ (tgt := 23) dX2_lowestRow_18 (by decide) (fun c18 => ?_) (fun c18 => ?_)
        · refine r_iinc hJ dX2_lowestRow_23 jg2 (ii1 _) (jp2 rfl rfl) ?_
          refine r_goto hJ (tgt := 2) dX2_lowestRow_26 (by decide) ?_
          exact ih (n + 1) (by omega) (by rw [← he]; simp [fnd, Int32.not_le.mpr c18])
        · refine r_iload_n hJ dX2_lowestRow_21 rfl jg2 ?_
          exact ret_i hF dX2_lowestRow_22 (by rw [← he]; simp [fnd, Int32.not_lt.mp c18, oI]) rfl
  refine r_iconst hJ (v := nI 0) dX2_lowestRow_0 (by decide) ?_
  refine r_istore_n hJ dX2_lowestRow_1 rfl (jp2 rfl rfl) ?_
  exact loop z 0 (by omega) rfl

theorem bI_0 {b : Bool} : bI b = 0 ↔ b = false := by cases b <;> simp [bI]
theorem bI_0' {b : Bool} : bI b = nI 0 ↔ b = false := by cases b <;> simp [bI, nI0]
theorem lowR_lt {P : jO} {z : Nat} {m : Int32} {n : Nat} (h : lowR P z m = some n) : n < z ∧ m ≤ nI (rowP P z n) := by
  obtain ⟨-, h2, h3⟩ := fnd_lt h
  exact ⟨by omega, by simpa using h3⟩
theorem lowR_m1 {P : jO} {z : Nat} {m : Int32} (hz : z ≤ 64) : oI (lowR P z m) = -1 ↔ lowR P z m = none := oI_m1 fun n h => by have := (lowR_lt h).1; omega
set_option maxRecDepth 100000 in
set_option maxHeartbeats 1000000 in
theorem c2_mayLease (l : Launch) (E : jE) (S : jS) (x : jX) (P : jO) {o : Nat} (ho : o < 8) {z : Nat} (hz : P 1 3 = nI z) (hz4 : z ≤ 64) (h m : Int32) : Ct l E yX2_mayLease cX2_mayLease 3 (some .boolean) 3 [.ref (ad E o 0), .int h, .int m] (setO S o P, x) (some (.int (bI (hasR P h m && (lowR P z m).isSome)))) (setO S o P, x) := by
  refine Ct.of (by decide +kernel) (Nat.le_refl _) (Nat.le_of_ble_eq_true rfl) rfl (fun J hJ hF => ?_)
  refine r_aload_n hJ dX2_mayLease_0 rfl jg0 ?_
  refine r_iload_n hJ dX2_mayLease_1 rfl jg1 ?_
  refine r_iload_n hJ dX2_mayLease_2 rfl jg2 ?_
  refine r_V2v hJ kX2_77 (rcv2 E ho) (c2_hasRoom l E S x P ho h m) dX2_mayLease_3 ⟨by decide, by decide⟩ (Nat.le_of_ble_eq_true rfl) ?_
  refine r_if_eq hJ (tgt := 22) dX2_mayLease_6 (by decide) (fun c6 => ?_) (fun c6 => ?_)
  · rw [bI_0] at c6
    refine r_iconst hJ (v := nI 0) dX2_mayLease_22 (by decide) ?_
    exact ret_z hF dX2_mayLease_23 (by decide) (by simp [bI, nI0, nI1, *]) rfl
  · rw [bI_0] at c6
    refine r_aload_n hJ dX2_mayLease_9 rfl jg0 ?_
    refine r_iload_n hJ dX2_mayLease_10 rfl jg2 ?_
    refine r_V1v hJ kX2_81 (rcv2 E ho) (c2_lowestRow l E S x P ho hz hz4 m) dX2_mayLease_11 ⟨by decide, by decide⟩ (Nat.le_of_ble_eq_true rfl) ?_
    refine r_iconst hJ (v := (-1)) dX2_mayLease_14 (by decide) ?_
    refine r_icmp_eq hJ (tgt := 22) dX2_mayLease_15 (by decide) (fun c15 => ?_) (fun c15 => ?_)
    · rw [lowR_m1 hz4] at c15
      refine r_iconst hJ (v := nI 0) dX2_mayLease_22 (by decide) ?_
      exact ret_z hF dX2_mayLease_23 (by decide) (by simp [bI, nI0, nI1, *]) rfl
    · rw [lowR_m1 hz4] at c15
      have c15 := Option.isSome_iff_ne_none.mpr c15
      refine r_iconst hJ (v := nI 1) dX2_mayLease_18 (by decide) ?_
      refine r_goto hJ (tgt := 23) dX2_mayLease_19 (by decide) ?_
      exact ret_z hF dX2_mayLease_23 (by decide) (by simp [bI, nI0, nI1, *]) rfl

theorem ix1 (a b c : Nat) : nI a * nI b + nI c = nI (a * b + c) := by rw [pk_mul, nI_add]
set_option maxRecDepth 100000 in
set_option maxHeartbeats 1000000 in
theorem c2_placeOfWish (l : Launch) (E : jE) (S : jS) (x : jX) (P : jO) {o : Nat} (ho : o < 8) (h : Int32) {n : Nat} (hn : n < 64) {w : Nat} (hw3 : w ≤ 3) (hw : P 7 n = nI w) : Ct l E yX2_placeOfWish cX2_placeOfWish 4 (some .int) 1 [.ref (ad E o 0), .int h, .int (nI n)] (setO S o P, x) (some (.int (oI (placeW P h n)))) (setO S o P, x) := by
  refine Ct.of (by decide +kernel) (Nat.le_refl _) (Nat.le_of_ble_eq_true rfl) rfl (fun J hJ hF => ?_)
  have loop : ∀ k i : Nat, i + k = w → fnd (fun k => decide (P 8 (n * 3 + k) = h)) k i = placeW P h n → J (setO S o P, x) 2 [some (.ref (ad E o 0)), some (.int h), some (.int (nI n)), some (.int (nI i))] [] := by
    intro k
    induction k with
    | zero =>
      intro i hi he
      obtain rfl : i = w := by omega
      refine r_iload_n hJ dX2_placeOfWish_2 rfl jg3 ?_
      refine r_aload_n hJ dX2_placeOfWish_3 rfl jg0 ?_
      refine r_g2_10 hJ ho m64 dX2_placeOfWish_4 ?_
      refine r_iload_n hJ dX2_placeOfWish_7 rfl jg2 ?_
      refine r_ialdO hJ (by omega) (alP7 ho (by omega)) rfl dX2_placeOfWish_8 ?_
      refine r_icmp_ge hJ (tgt := 34) dX2_placeOfWish_9 (by decide) (fun c9 => ?_) (fun c9 => ?_)
      · refine r_iconst hJ (v := (-1)) dX2_placeOfWish_34 (by decide) ?_
        exact ret_i hF dX2_placeOfWish_35 (by rw [← he]; rfl) rfl
      · rw [hw] at c9
        exact absurd (nI_le (by omega) (by omega)) c9
    | succ k ih =>
      intro i hi he
      refine r_iload_n hJ dX2_placeOfWish_2 rfl jg3 ?_
      refine r_aload_n hJ dX2_placeOfWish_3 rfl jg0 ?_
      refine r_g2_10 hJ ho m64 dX2_placeOfWish_4 ?_
      refine r_iload_n hJ dX2_placeOfWish_7 rfl jg2 ?_
      refine r_ialdO hJ (by omega) (alP7 ho (by omega)) rfl dX2_placeOfWish_8 ?_
      refine r_icmp_ge hJ (tgt := 34) dX2_placeOfWish_9 (by decide) (fun c9 => ?_) (fun c9 => ?_)
      · rw [hw] at c9
        exact absurd c9 (nI_ge (by omega) (by omega))
      · refine r_aload_n hJ dX2_placeOfWish_12 rfl jg0 ?_
        refine r_g2_11 hJ ho m66 dX2_placeOfWish_13 ?_
        refine r_iload_n hJ dX2_placeOfWish_16 rfl jg2 ?_
        refine r_iconst hJ (v := nI 3) dX2_placeOfWish_17 (by decide) ?_
        refine r_imul hJ dX2_placeOfWish_18 ?_
        refine r_iload_n hJ dX2_placeOfWish_19 rfl jg3 ?_
        refine r_iadd hJ dX2_placeOfWish_20 ?_
        refine r_ialdO hJ (by omega) (alP8 ho (by omega)) (ix1 _ _ _) dX2_placeOfWish_21 ?_
        refine r_iload_n hJ dX2_placeOfWish_22 rfl jg1 ?_
        refine r_icmp_ne hJ (tgt := 28) dX2_placeOfWish_23 (by decide) (fun c23 => ?_) (fun c23 => ?_)
        · refine r_iinc hJ dX2_placeOfWish_28 jg3 (ii1 _) (jp3 rfl rfl) ?_
          refine r_goto hJ (tgt := 2) dX2_placeOfWish_31 (by decide) ?_
          exact ih (i + 1) (by omega) (by rw [← he]; simp [fnd, c23])
        · refine r_iload_n hJ dX2_placeOfWish_26 rfl jg3 ?_
          exact ret_i hF dX2_placeOfWish_27 (by rw [← he]; simp [fnd, c23, oI]) rfl
  refine r_iconst hJ (v := nI 0) dX2_placeOfWish_0 (by decide) ?_
  refine r_istore_n hJ dX2_placeOfWish_1 rfl (jp3 rfl rfl) ?_
  exact loop w 0 (by omega) (by unfold placeW; rw [hw, toN_nI (by omega)])

theorem placeW_m1 {P : jO} {h : Int32} {n w : Nat} (hw3 : w ≤ 3) (hw : P 7 n = nI w) : oI (placeW P h n) = -1 ↔ placeW P h n = none := oI_m1 fun i hi => by
  unfold placeW at hi
  rw [hw, toN_nI (by omega)] at hi
  have := (fnd_lt hi).2.1
  omega
set_option maxRecDepth 100000 in
set_option maxHeartbeats 1000000 in
theorem c2_mayWish (l : Launch) (E : jE) (S : jS) (x : jX) (P : jO) {o : Nat} (ho : o < 8) (h : Int32) {n : Nat} (hn : n < 64) {w : Nat} (hw3 : w ≤ 3) (hw : P 7 n = nI w) : Ct l E yX2_mayWish cX2_mayWish 3 (some .boolean) 3 [.ref (ad E o 0), .int h, .int (nI n)] (setO S o P, x) (some (.int (bI (mayW P h n)))) (setO S o P, x) := by
  refine Ct.of (by decide +kernel) (Nat.le_refl _) (Nat.le_of_ble_eq_true rfl) rfl (fun J hJ hF => ?_)
  refine r_aload_n hJ dX2_mayWish_0 rfl jg0 ?_
  refine r_g2_5 hJ ho m58 dX2_mayWish_1 ?_
  refine r_iload_n hJ dX2_mayWish_4 rfl jg2 ?_
  refine r_ialdO hJ (by omega) (alP2 ho (by omega)) rfl dX2_mayWish_5 ?_
  refine r_iconst hJ (v := (-1)) dX2_mayWish_6 (by decide) ?_
  refine r_icmp_ne hJ (tgt := 17) dX2_mayWish_7 (by decide) (fun c7 => ?_) (fun c7 => ?_)
  · refine r_aload_n hJ dX2_mayWish_17 rfl jg0 ?_
    refine r_g2_10 hJ ho m64 dX2_mayWish_18 ?_
    refine r_iload_n hJ dX2_mayWish_21 rfl jg2 ?_
    refine r_ialdO hJ (by omega) (alP7 ho (by omega)) rfl dX2_mayWish_22 ?_
    refine r_iconst hJ (v := nI 3) dX2_mayWish_23 (by decide) ?_
    refine r_icmp_ge hJ (tgt := 51) dX2_mayWish_24 (by decide) (fun c24 => ?_) (fun c24 => ?_)
    · refine r_iconst hJ (v := nI 0) dX2_mayWish_51 (by decide) ?_
      exact ret_z hF dX2_mayWish_52 (by decide) (by simp [mayW, bI, nI0, nI1, c7, c24]) rfl
    · refine r_aload_n hJ dX2_mayWish_27 rfl jg0 ?_
      refine r_g2_5 hJ ho m58 dX2_mayWish_28 ?_
      refine r_iload_n hJ dX2_mayWish_31 rfl jg2 ?_
      refine r_ialdO hJ (by omega) (alP2 ho (by omega)) rfl dX2_mayWish_32 ?_
      refine r_iload_n hJ dX2_mayWish_33 rfl jg1 ?_
      refine r_icmp_eq hJ (tgt := 51) dX2_mayWish_34 (by decide) (fun c34 => ?_) (fun c34 => ?_)
      · rw [c34] at c7
        refine r_iconst hJ (v := nI 0) dX2_mayWish_51 (by decide) ?_
        exact ret_z hF dX2_mayWish_52 (by decide) (by simp [mayW, bI, nI0, nI1, c7, c24, c34]) rfl
      · refine r_aload_n hJ dX2_mayWish_37 rfl jg0 ?_
        refine r_iload_n hJ dX2_mayWish_38 rfl jg1 ?_
        refine r_iload_n hJ dX2_mayWish_39 rfl jg2 ?_
        refine r_V2v hJ kX2_85 (rcv2 E ho) (c2_placeOfWish l E S x P ho h hn hw3 hw) dX2_mayWish_40 ⟨by decide, by decide⟩ (Nat.le_of_ble_eq_true rfl) ?_
        refine r_iconst hJ (v := (-1)) dX2_mayWish_43 (by decide) ?_
        refine r_icmp_ne hJ (tgt := 51) dX2_mayWish_44 (by decide) (fun c44 => ?_) (fun c44 => ?_)
        · rw [placeW_m1 hw3 hw] at c44
          have c44 := Option.isNone_eq_false_iff.mpr (Option.isSome_iff_ne_none.mpr c44)
          refine r_iconst hJ (v := nI 0) dX2_mayWish_51 (by decide) ?_
          exact ret_z hF dX2_mayWish_52 (by decide) (by simp [mayW, bI, nI0, nI1, c7, c24, c34, c44]) rfl
        · rw [placeW_m1 hw3 hw] at c44
          refine r_iconst hJ (v := nI 1) dX2_mayWish_47 (by decide) ?_
          refine r_goto hJ (tgt := 52) dX2_mayWish_48 (by decide) ?_
          exact ret_z hF dX2_mayWish_52 (by decide) (by simp [mayW, bI, nI0, nI1, c7, c24, c34, c44]) rfl
  · refine r_aload_n hJ dX2_mayWish_10 rfl jg0 ?_
    refine r_iload_n hJ dX2_mayWish_11 rfl jg1 ?_
    refine r_iconst hJ (v := nI 1) dX2_mayWish_12 (by decide) ?_
    refine r_V2v hJ kX2_77 (rcv2 E ho) (c2_hasRoom l E S x P ho h (nI 1)) dX2_mayWish_13 ⟨by decide, by decide⟩ (Nat.le_of_ble_eq_true rfl) ?_
    exact ret_z hF dX2_mayWish_16 (bI_nar _).1 (by simp [mayW, c7]) rfl

set_option maxRecDepth 100000 in
set_option maxHeartbeats 1000000 in
theorem c2_mayRenew (l : Launch) (E : jE) (S : jS) (x : jX) (P : jO) {o : Nat} (ho : o < 8) (h : Int32) {n : Nat} (hn : n < 64) : Ct l E yX2_mayRenew cX2_mayRenew 3 (some .boolean) 1 [.ref (ad E o 0), .int h, .int (nI n)] (setO S o P, x) (some (.int (bI (decide (P 2 n = h) && (decide (P 1 2 = 0) || decide (P 7 n = 0)))))) (setO S o P, x) := by
  refine Ct.of (by decide +kernel) (Nat.le_refl _) (Nat.le_of_ble_eq_true rfl) rfl (fun J hJ hF => ?_)
  refine r_aload_n hJ dX2_mayRenew_0 rfl jg0 ?_
  refine r_g2_5 hJ ho m58 dX2_mayRenew_1 ?_
  refine r_iload_n hJ dX2_mayRenew_4 rfl jg2 ?_
  refine r_ialdO hJ (by omega) (alP2 ho (by omega)) rfl dX2_mayRenew_5 ?_
  refine r_iload_n hJ dX2_mayRenew_6 rfl jg1 ?_
  refine r_icmp_ne hJ (tgt := 32) dX2_mayRenew_7 (by decide) (fun c7 => ?_) (fun c7 => ?_)
  · refine r_iconst hJ (v := nI 0) dX2_mayRenew_32 (by decide) ?_
    exact ret_z hF dX2_mayRenew_33 (by decide) (by simp [bI, nI0, nI1, *]) rfl
  · refine r_aload_n hJ dX2_mayRenew_10 rfl jg0 ?_
    refine r_g2_4 hJ ho m56 dX2_mayRenew_11 ?_
    refine r_iconst hJ (v := nI 2) dX2_mayRenew_14 (by decide) ?_
    refine r_ialdO hJ (by omega) (alP1 ho (by omega)) rfl dX2_mayRenew_15 ?_
    refine r_if_eq hJ (tgt := 28) dX2_mayRenew_16 (by decide) (fun c16 => ?_) (fun c16 => ?_)
    · refine r_iconst hJ (v := nI 1) dX2_mayRenew_28 (by decide) ?_
      refine r_goto hJ (tgt := 33) dX2_mayRenew_29 (by decide) ?_
      exact ret_z hF dX2_mayRenew_33 (by decide) (by simp [bI, nI0, nI1, *]) rfl
    · refine r_aload_n hJ dX2_mayRenew_19 rfl jg0 ?_
      refine r_g2_10 hJ ho m64 dX2_mayRenew_20 ?_
      refine r_iload_n hJ dX2_mayRenew_23 rfl jg2 ?_
      refine r_ialdO hJ (by omega) (alP7 ho (by omega)) rfl dX2_mayRenew_24 ?_
      refine r_if_ne hJ (tgt := 32) dX2_mayRenew_25 (by decide) (fun c25 => ?_) (fun c25 => ?_)
      · refine r_iconst hJ (v := nI 0) dX2_mayRenew_32 (by decide) ?_
        exact ret_z hF dX2_mayRenew_33 (by decide) (by simp [bI, nI0, nI1, *]) rfl
      · refine r_iconst hJ (v := nI 1) dX2_mayRenew_28 (by decide) ?_
        refine r_goto hJ (tgt := 33) dX2_mayRenew_29 (by decide) ?_
        exact ret_z hF dX2_mayRenew_33 (by decide) (by simp [bI, nI0, nI1, *]) rfl

set_option maxRecDepth 100000 in
set_option maxHeartbeats 1000000 in
theorem c2_lease (l : Launch) (E : jE) (S : jS) (x : jX) (P : jO) {o : Nat} (ho : o < 8) {h n : Nat} (hh : h < 8) (hn : n < 64) (t : Int32) : Ct l E yX2_lease cX2_lease 4 none 1 [.ref (ad E o 0), .int (nI h), .int (nI n), .int t] (setO S o P, x) none (setO S o (leaseP P h n t), x) := by
  refine Ct.of (by decide +kernel) (Nat.le_refl _) (Nat.le_of_ble_eq_true rfl) rfl (fun J hJ hF => ?_)
  refine r_aload_n hJ dX2_lease_0 rfl jg0 ?_
  refine r_g2_5 hJ ho m58 dX2_lease_1 ?_
  refine r_iload_n hJ dX2_lease_4 rfl jg2 ?_
  refine r_iload_n hJ dX2_lease_5 rfl jg1 ?_
  refine r_iast hJ (by omega) (alP2 ho (by omega)) rfl dX2_lease_6 ?_
  refine r_aload_n hJ dX2_lease_7 rfl jg0 ?_
  refine r_g2_6 hJ ho m60 dX2_lease_8 ?_
  refine r_iload_n hJ dX2_lease_11 rfl jg2 ?_
  refine r_aload_n hJ dX2_lease_12 rfl jg0 ?_
  refine r_g2_0O hJ ho m51 dX2_lease_13 ?_
  refine r_iast hJ (by omega) (alP3 ho (by omega)) rfl dX2_lease_16 ?_
  refine r_aload_n hJ dX2_lease_17 rfl jg0 ?_
  refine r_g2_7 hJ ho m61 dX2_lease_18 ?_
  refine r_iload_n hJ dX2_lease_21 rfl jg2 ?_
  refine r_aload_n hJ dX2_lease_22 rfl jg0 ?_
  refine r_g2_0O hJ ho m51 dX2_lease_23 ?_
  refine r_iload_n hJ dX2_lease_26 rfl jg3 ?_
  refine r_iadd hJ dX2_lease_27 ?_
  refine r_iast hJ (by omega) (alP4 ho (by omega)) rfl dX2_lease_28 ?_
  refine r_aload_n hJ dX2_lease_29 rfl jg0 ?_
  refine r_g2_8 hJ ho m62 dX2_lease_30 ?_
  refine r_iload_n hJ dX2_lease_33 rfl jg2 ?_
  refine r_aload_n hJ dX2_lease_34 rfl jg0 ?_
  refine r_g2_7 hJ ho m61 dX2_lease_35 ?_
  refine r_iload_n hJ dX2_lease_38 rfl jg2 ?_
  refine r_ialdO hJ (by omega) (alP4 ho (by omega)) rfl dX2_lease_39 ?_
  refine r_aload_n hJ dX2_lease_40 rfl jg0 ?_
  refine r_g2_4 hJ ho m56 dX2_lease_41 ?_
  refine r_iconst hJ (v := nI 0) dX2_lease_44 (by decide) ?_
  refine r_ialdO hJ (by omega) (alP1 ho (by omega)) rfl dX2_lease_45 ?_
  refine r_iadd hJ dX2_lease_46 ?_
  refine r_iast hJ (by omega) (alP5 ho (by omega)) rfl dX2_lease_47 ?_
  refine r_aload_n hJ dX2_lease_48 rfl jg0 ?_
  refine r_g2_9 hJ ho m63 dX2_lease_49 ?_
  refine r_iload_n hJ dX2_lease_52 rfl jg2 ?_
  refine r_dup2_11 hJ dX2_lease_53 rfl rfl ?_
  refine r_ialdO hJ (by omega) (alP6 ho (by omega)) rfl dX2_lease_54 ?_
  refine r_iconst hJ (v := nI 1) dX2_lease_55 (by decide) ?_
  refine r_iadd hJ dX2_lease_56 ?_
  refine r_iast hJ (by omega) (alP6 ho (by omega)) rfl dX2_lease_57 ?_
  refine r_aload_n hJ dX2_lease_58 rfl jg0 ?_
  refine r_g2_13 hJ ho m68 dX2_lease_59 ?_
  refine r_iload_n hJ dX2_lease_62 rfl jg1 ?_
  refine r_dup2_11 hJ dX2_lease_63 rfl rfl ?_
  refine r_ialdO hJ (by omega) (alP10 ho (by omega)) rfl dX2_lease_64 ?_
  refine r_iconst hJ (v := nI 1) dX2_lease_65 (by decide) ?_
  refine r_iadd hJ dX2_lease_66 ?_
  refine r_iast hJ (by omega) (alP10 ho (by omega)) rfl dX2_lease_67 ?_
  exact ret_v hF dX2_lease_68 rfl rfl

def leaseRowP (P : jO) (z h m : Nat) (t : Int32) : jO := match lowR P z (nI m) with
  | none => P
  | some f => leaseN h t m f P
theorem row_app (P : jO) (h n : Nat) (t : Int32) : leaseP P h n t 1 = P 1 := by
  funext i
  simp [leaseP_app]
set_option maxRecDepth 100000 in
set_option maxHeartbeats 1000000 in
theorem c2_leaseRow (l : Launch) (E : jE) (S : jS) (x : jX) (P : jO) {o : Nat} (ho : o < 8) {z : Nat} (hz : P 1 3 = nI z) (hz4 : z ≤ 64) {h m : Nat} (hh : h < 8) (hm : m < 2 ^ 31) (t : Int32) : Ct l E yX2_leaseRow cX2_leaseRow 6 (some .int) 3 [.ref (ad E o 0), .int (nI h), .int (nI m), .int t] (setO S o P, x) (some (.int (oI (lowR P z (nI m))))) (setO S o (leaseRowP P z h m t), x) := by
  refine Ct.of (by decide +kernel) (Nat.le_refl _) (Nat.le_of_ble_eq_true rfl) rfl (fun J hJ hF => ?_)
  have tail2 : ¬ lowR P z (nI m) = none → J (setO S o P, x) 15 [some (.ref (ad E o 0)), some (.int (nI h)), some (.int (nI m)), some (.int t), some (.int (oI (lowR P z (nI m)))), none] [] := by
    intro hne
    obtain ⟨f, ef⟩ := Option.ne_none_iff_exists'.mp hne
    obtain ⟨hf1, hf2⟩ := lowR_lt ef
    have hr := row_le (frP P) (z - f) f
    have hr2 : rowP P z f = row (frP P) (z - f) f := rfl
    rw [nI_leI (by omega) (by omega)] at hf2
    rw [ef]
    have loop : ∀ (k n : Nat) (P' : jO), n + k = f + m → leaseN h t k n P' = leaseN h t m f P → J (setO S o P', x) 19 [some (.ref (ad E o 0)), some (.int (nI h)), some (.int (nI m)), some (.int t), some (.int (nI f)), some (.int (nI n))] [] := by
      intro k
      induction k with
      | zero =>
        intro n P' hn he
        obtain rfl : n = f + m := by omega
        refine r_iload hJ dX2_leaseRow_19 jg5 ?_
        refine r_iload hJ dX2_leaseRow_21 jg4 ?_
        refine r_iload_n hJ dX2_leaseRow_23 rfl jg2 ?_
        refine r_iadd hJ dX2_leaseRow_24 ?_
        rw [nI_add]
        refine r_icmp_ge hJ (tgt := 42) dX2_leaseRow_25 (by decide) (fun c25 => ?_) (fun c25 => ?_)
        · refine r_iload hJ dX2_leaseRow_42 jg4 ?_
          exact ret_i hF dX2_leaseRow_44 (by rw [ef]; rfl) (by unfold leaseRowP; rw [ef]; show (setO S o (leaseN h t m f P), x) = _; rw [← he]; rfl)
        · exact absurd (nI_le (by omega) (by omega)) c25
      | succ k ih =>
        intro n P' hn he
        refine r_iload hJ dX2_leaseRow_19 jg5 ?_
        refine r_iload hJ dX2_leaseRow_21 jg4 ?_
        refine r_iload_n hJ dX2_leaseRow_23 rfl jg2 ?_
        refine r_iadd hJ dX2_leaseRow_24 ?_
        rw [nI_add]
        refine r_icmp_ge hJ (tgt := 42) dX2_leaseRow_25 (by decide) (fun c25 => ?_) (fun c25 => ?_)
        · exact absurd c25 (nI_ge (by omega) (by omega))
        · refine r_aload_n hJ dX2_leaseRow_28 rfl jg0 ?_
          refine r_iload_n hJ dX2_leaseRow_29 rfl jg1 ?_
          refine r_iload hJ dX2_leaseRow_30 jg5 ?_
          refine r_iload_n hJ dX2_leaseRow_32 rfl jg3 ?_
          refine r_V3u hJ kX2_91 (rcv2 E ho) (c2_lease l E S x P' ho hh (n := n) (by omega) t) dX2_leaseRow_33 ⟨by decide, by decide⟩ (Nat.le_of_ble_eq_true rfl) ?_
          refine r_iinc hJ dX2_leaseRow_36 jg5 (ii1 _) (jp5 rfl rfl) ?_
          refine r_goto hJ (tgt := 19) dX2_leaseRow_39 (by decide) ?_
          exact ih (n + 1) _ (by omega) he
    refine r_iload hJ dX2_leaseRow_15 jg4 ?_
    refine r_istore hJ dX2_leaseRow_17 (jp5 rfl rfl) ?_
    exact loop m f P rfl rfl
  have tail : J (setO S o P, x) 7 [some (.ref (ad E o 0)), some (.int (nI h)), some (.int (nI m)), some (.int t), some (.int (oI (lowR P z (nI m)))), none] [] := by
    refine r_iload hJ dX2_leaseRow_7 jg4 ?_
    refine r_iconst hJ (v := (-1)) dX2_leaseRow_9 (by decide) ?_
    refine r_icmp_ne hJ (tgt := 15) dX2_leaseRow_10 (by decide) (fun c10 => ?_) (fun c10 => ?_)
    · exact tail2 ((not_congr (lowR_m1 hz4)).mp c10)
    · rw [lowR_m1 hz4] at c10
      refine r_iconst hJ (v := (-1)) dX2_leaseRow_13 (by decide) ?_
      exact ret_i hF dX2_leaseRow_14 (by rw [c10]; rfl) (by unfold leaseRowP; rw [c10])
  refine r_aload_n hJ dX2_leaseRow_0 rfl jg0 ?_
  refine r_iload_n hJ dX2_leaseRow_1 rfl jg2 ?_
  refine r_V1v hJ kX2_81 (rcv2 E ho) (c2_lowestRow l E S x P ho hz hz4 (nI m)) dX2_leaseRow_2 ⟨by decide, by decide⟩ (Nat.le_of_ble_eq_true rfl) ?_
  refine r_istore hJ dX2_leaseRow_5 (jp4 rfl rfl) ?_
  exact tail

set_option maxRecDepth 100000 in
set_option maxHeartbeats 1000000 in
theorem c2_stateOf (l : Launch) (E : jE) (S : jS) (x : jX) (P : jO) {o : Nat} (ho : o < 8) {n : Nat} (hn : n < 64) : Ct l E yX2_stateOf cX2_stateOf 2 (some .int) 1 [.ref (ad E o 0), .int (nI n)] (setO S o P, x) (some (.int (stg P n))) (setO S o P, x) := by
  refine Ct.of (by decide +kernel) (Nat.le_refl _) (Nat.le_of_ble_eq_true rfl) rfl (fun J hJ hF => ?_)
  refine r_aload_n hJ dX2_stateOf_0 rfl jg0 ?_
  refine r_g2_5 hJ ho m58 dX2_stateOf_1 ?_
  refine r_iload_n hJ dX2_stateOf_4 rfl jg1 ?_
  refine r_ialdO hJ (by omega) (alP2 ho (by omega)) rfl dX2_stateOf_5 ?_
  refine r_iconst hJ (v := (-1)) dX2_stateOf_6 (by decide) ?_
  refine r_icmp_ne hJ (tgt := 12) dX2_stateOf_7 (by decide) (fun c7 => ?_) (fun c7 => ?_)
  · refine r_aload_n hJ dX2_stateOf_12 rfl jg0 ?_
    refine r_g2_0O hJ ho m51 dX2_stateOf_13 ?_
    refine r_aload_n hJ dX2_stateOf_16 rfl jg0 ?_
    refine r_g2_7 hJ ho m61 dX2_stateOf_17 ?_
    refine r_iload_n hJ dX2_stateOf_20 rfl jg1 ?_
    refine r_ialdO hJ (by omega) (alP4 ho (by omega)) rfl dX2_stateOf_21 ?_
    refine r_icmp_ge hJ (tgt := 29) dX2_stateOf_22 (by decide) (fun c22 => ?_) (fun c22 => ?_)
    · have c22 := Int32.not_lt.mpr c22
      refine r_iconst hJ (v := nI 2) dX2_stateOf_29 (by decide) ?_
      first | exact ret_i hF dX2_stateOf_30 (by simp [stg, *]; rfl) rfl | exact ret_i hF dX2_stateOf_30 (by simp [stg, nI0, nI1, *]) rfl
    · have c22 := Int32.not_le.mp c22
      refine r_iconst hJ (v := nI 1) dX2_stateOf_25 (by decide) ?_
      refine r_goto hJ (tgt := 30) dX2_stateOf_26 (by decide) ?_
      first | exact ret_i hF dX2_stateOf_30 (by simp [stg, *]; rfl) rfl | exact ret_i hF dX2_stateOf_30 (by simp [stg, nI0, nI1, *]) rfl
  · refine r_iconst hJ (v := nI 0) dX2_stateOf_10 (by decide) ?_
    exact ret_i hF dX2_stateOf_11 (by simp [stg, nI0, nI1, Int32.not_lt.mpr, *]) rfl
