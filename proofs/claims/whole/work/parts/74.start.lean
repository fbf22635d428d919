/-! THE STATE AFTER THE CONSTRUCTORS -/
def S0 : jS := fun o => if o < 8 then pool0 else if o = 10 then mod0 else obj0
def K0 : Nat → Nat := fun i => i + 2
theorem toN_zer (i : Nat) : toN (zer i) = 0 := rfl
theorem pool0_2 {n : Nat} (h : n < 64) : pool0 2 n = -1 := by
  show pW 64 n = -1
  unfold pW
  rw [if_pos h]
theorem mN_small {q : Nat} (h : q < 32) : mN 64 q = mB0 q := by
  unfold mN
  rw [if_neg (by omega)]
theorem mB0_z {q : Nat} (h : q = 0 ∨ q = 3 ∨ 5 ≤ q) : mB0 q = 0 := by
  unfold mB0 upd zer
  rw [if_neg (by omega), if_neg (by omega), if_neg (by omega)]
theorem CP_0 : CP pool0 (mN 64) := by
  rintro j i ⟨hd, hk⟩
  rcases hd with ⟨hj, hi⟩ | ⟨h1, h2, hi⟩ | ⟨h1, h2, hi⟩ | ⟨h1, h2, hi⟩
  · have h32 : pos j i < 32 := by
      unfold pos
      repeat' split
      all_goals omega
    rw [mN_small h32]
    rcases j with _ | _ | j
    · rcases i with _ | _ | _ | _ | i
      all_goals first | rfl | (exfalso; omega)
    · rcases i with _ | _ | _ | _ | i
      all_goals first | rfl | (exfalso; omega)
    · exfalso; omega
  · have e : pos j i = 32 + 12 * i + (j - 2) := by
      unfold pos
      rw [if_neg (by omega), if_neg (by omega), if_pos (by omega)]
    rw [e]
    by_cases hj : j = 2
    · subst hj
      rw [pool0_2 hi]
      unfold mN
      rw [if_pos (by omega)]
    · have e2 : pool0 j = zer := by
        unfold pool0
        rw [if_neg (by omega), if_neg hj]
      rw [e2]
      unfold mN
      rw [if_neg (by omega), mB0_z (by omega)]
      rfl
  · exfalso
    have h3 := hk (by omega) (by omega)
    have e : toN (pool0 7 (i / 3)) = 0 := rfl
    omega
  · have e : pos j i = 8 * (j - 9) + i := by
      unfold pos
      rw [if_neg (by omega), if_neg (by omega), if_neg (by omega), if_neg (by omega)]
    have e2 : pool0 j = zer := by
      unfold pool0
      rw [if_neg (by omega), if_neg (by omega)]
    rw [e, e2, mN_small (by omega), mB0_z (by omega)]
    rfl
theorem PI_0 : PI pool0 := by
  refine ⟨⟨32, by decide, by decide, rfl⟩, fun n hn => Or.inl (pool0_2 hn), fun n hn => ?_⟩
  exact ⟨0, by decide, rfl, fun k hk => absurd hk (Nat.not_lt_zero _)⟩
theorem COUP_0 : COUP S0 K0 0 := by
  refine ⟨⟨32, 0, CP_0, ⟨PI_0, ⟨rfl, ⟨rfl, by decide, by decide⟩, ⟨5, by decide, rfl⟩, ⟨16, by decide, by decide, rfl⟩, ⟨0, by decide, rfl⟩⟩, fun n hn => ⟨fun _ => rfl, fun k hk _ => ?_, fun h => absurd (pool0_2 hn) h⟩⟩, by decide, fun h _ => ⟨0, Nat.le_refl _, rfl⟩, fun h _ => ⟨0, Nat.zero_le _, rfl⟩⟩, ⟨⟨fun i hi => ⟨by show 2 ≤ i + 2; omega, by show i + 2 < 8; omega⟩, fun i j _ _ h => ?_⟩, 0, by decide, rfl, rfl, fun i hi => absurd hi (Nat.not_lt_zero _)⟩, ⟨⟨0, by decide, rfl⟩, 0, by decide, rfl⟩, 0, rfl, rfl, by decide, fun i hi => absurd hi (Nat.not_lt_zero _)⟩
  · exfalso
    have e : toN (S0 0 7 n) = 0 := rfl
    omega
  · have h1 : i + 2 = j + 2 := h
    omega
theorem lcs_len : lcs.length = 116 := by decide +kernel
theorem wE_lcs (E : jE) (G : jG) : wE E (lcs.map fun p => cel E G.2 p.1 (G.1 p.1) p.2) = wld E G := by
  apply List.ext_getElem?
  intro i
  rw [wE_get, List.getElem?_map]
  by_cases hi : i < 116
  · rw [wld_at E G hi]
    have h : lcs[i]? = some (loc i) := by
      unfold loc
      rw [List.getD_eq_getElem?_getD, List.getElem?_eq_getElem (by rw [lcs_len]; exact hi)]
      rfl
    rw [h]
    rfl
  · rw [List.getElem?_eq_none (by rw [lcs_len]; omega), List.getElem?_eq_none (by rw [wld_len]; omega)]
    rfl
theorem lcs_blk (E : jE) (G : jG) : (lcs.map fun p => cel E G.2 p.1 (G.1 p.1) p.2) = [11, 0, 1, 9, 2, 3, 4, 5, 6, 7, 8, 10, 12].flatMap fun o => blk E G.2 o (G.1 o) := by
  unfold lcs blk
  rw [List.map_flatMap]
  congr 1
  funext o
  rw [List.map_map]
  rfl
theorem wld_0 (E : jE) : wE E (blk E (K0, (0, 0)) 11 obj0 ++ blk E (K0, (0, 0)) 0 pool0 ++ blk E (K0, (0, 0)) 1 pool0 ++ (blk E (K0, (0, 0)) 9 obj0 ++ blk E (K0, (0, 0)) 2 pool0 ++ blk E (K0, (0, 0)) 3 pool0 ++ blk E (K0, (0, 0)) 4 pool0 ++ blk E (K0, (0, 0)) 5 pool0 ++ blk E (K0, (0, 0)) 6 pool0 ++ blk E (K0, (0, 0)) 7 pool0) ++ blk E (K0, (0, 0)) 8 obj0 ++ blk E (K0, (0, 0)) 10 mod0 ++ blk E (K0, (0, 0)) 12 obj0) = wld E (S0, (K0, (0, 0))) := by
  rw [← wE_lcs, lcs_blk]
  congr 1
