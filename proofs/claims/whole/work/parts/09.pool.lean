set_option maxRecDepth 100000 in
set_option maxHeartbeats 4000000 in
theorem c2_numbersOf (l : Launch) (E : jE) (S : jS) (x : jX) (P : jO) {o : Nat} (ho : o < 8) (h : Int32) : Ct l E yX2_numbersOf cX2_numbersOf 4 (some .int) 1 [.ref (ad E o 0), .int h] (setO S o P, x) (some (.int (nI (cnt (fun n => decide (P 2 n = h)) 64)))) (setO S o P, x) := by
  refine Ct.of (by decide +kernel) (Nat.le_refl _) (Nat.le_of_ble_eq_true rfl) rfl (fun J hJ hF => ?_)
  have loop : ∀ k n : Nat, n + k = 64 → J (setO S o P, x) 4 [some (.ref (ad E o 0)), some (.int h), some (.int (nI (cnt (fun n => decide (P 2 n = h)) n))), some (.int (nI n))] [] := by
    intro k
    induction k with
    | zero =>
      intro n hn
      obtain rfl : n = 64 := by omega
      refine r_iload_n hJ dX2_numbersOf_4 rfl jg3 ?_
      refine r_bipush hJ (v := nI 64) dX2_numbersOf_5 (by decide) ?_
      refine r_icmp_ge hJ (tgt := 29) dX2_numbersOf_7 (by decide) (fun c7 => ?_) (fun c7 => ?_)
      · refine r_iload_n hJ dX2_numbersOf_29 rfl jg2 ?_
        exact ret_i hF dX2_numbersOf_30 rfl rfl
      · exact absurd (nI_le (by omega) (by omega)) c7
    | succ k ih =>
      intro n hn
      refine r_iload_n hJ dX2_numbersOf_4 rfl jg3 ?_
      refine r_bipush hJ (v := nI 64) dX2_numbersOf_5 (by decide) ?_
      refine r_icmp_ge hJ (tgt := 29) dX2_numbersOf_7 (by decide) (fun c7 => ?_) (fun c7 => ?_)
      · exact absurd c7 (nI_ge (by omega) (by omega))
      · refine r_aload_n hJ dX2_numbersOf_10 rfl jg0 ?_
        refine r_g2_5 hJ ho m101 dX2_numbersOf_11 ?_
        refine r_iload_n hJ dX2_numbersOf_14 rfl jg3 ?_
        refine r_ialdO hJ (by omega) (alP2 ho (by omega)) rfl dX2_numbersOf_15 ?_
        refine r_iload_n hJ dX2_numbersOf_16 rfl jg1 ?_
        refine r_icmp_ne hJ (tgt := 23) dX2_numbersOf_17 (by decide) (fun c17 => ?_) (fun c17 => ?_)
        · have e : cnt (fun n => decide (P 2 n = h)) (n + 1) = cnt (fun n => decide (P 2 n = h)) n := by simp [cnt, c17]
          rw [← e]
          refine r_iinc hJ dX2_numbersOf_23 jg3 (ii1 _) (jp3 rfl rfl) ?_
          refine r_goto hJ (tgt := 4) dX2_numbersOf_26 (by decide) ?_
          exact ih (n + 1) (by omega)
        · have e : cnt (fun n => decide (P 2 n = h)) (n + 1) = cnt (fun n => decide (P 2 n = h)) n + 1 := by simp [cnt, c17]
          refine r_iinc hJ dX2_numbersOf_20 jg2 (ii1 _) (jp2 rfl rfl) ?_
          rw [← e]
          refine r_iinc hJ dX2_numbersOf_23 jg3 (ii1 _) (jp3 rfl rfl) ?_
          refine r_goto hJ (tgt := 4) dX2_numbersOf_26 (by decide) ?_
          exact ih (n + 1) (by omega)
  refine r_iconst hJ (v := nI 0) dX2_numbersOf_0 (by decide) ?_
  refine r_istore_n hJ dX2_numbersOf_1 rfl (jp2 rfl rfl) ?_
  refine r_iconst hJ (v := nI 0) dX2_numbersOf_2 (by decide) ?_
  refine r_istore_n hJ dX2_numbersOf_3 rfl (jp3 rfl rfl) ?_
  exact loop 64 0 (by omega)
