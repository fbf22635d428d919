/-! HOLDERS AND COUNTS ON BOTH SIDES -/
theorem hA_f {P : jO} {r : Nat → Int32} {z h : Nat} (hz : z ≤ 64) (hC : CP P r) (n : Nat) (v : Int32) (hn : n < z) : hA r (nI h) n v = v + nI (if inP P (nI h) (nI 1) n = true then 1 else 0) := by
  unfold hA inP
  rw [CP_who hC (by omega), stg_eq hC (by omega), if_nI]
  simp only [Bool.and_eq_true, decide_eq_true_eq]
theorem hB_f {P : jO} {r : Nat → Int32} {z h : Nat} (hz : z ≤ 64) (hC : CP P r) (n : Nat) (v : Int32) (hn : n < z) : hB r (nI h) n v = v + nI (if inP P (nI h) (nI 2) n = true then 1 else 0) := by
  unfold hB inP
  rw [CP_who hC (by omega), stg_eq hC (by omega), if_nI]
  simp only [Bool.and_eq_true, decide_eq_true_eq]
theorem hC_f {P : jO} {r : Nat → Int32} {z h : Nat} (hz : z ≤ 64) (hP : PI P) (hK : CP P r) (n : Nat) (v : Int32) (hn : n < z) : hC r (nI h) n v = v + nI (if (placeW P (nI h) n).isSome = true then 1 else 0) := by
  unfold hC
  rw [wish_eq (by omega) hK hP, if_nI]
theorem inP_tail {P : jO} {z h : Nat} (hh : h < 8) (hT : ∀ i, z ≤ i → i < 64 → P 2 i = -1) (s : Int32) : ∀ n, z ≤ n → n < 64 → inP P (nI h) s n = false := by
  intro n a b
  unfold inP
  rw [hT n a b, decide_eq_false (fun q => nI_m1 (n := h) (by omega) q.symm), Bool.false_and]
theorem placeW_0 {P : jO} {n : Nat} (h : P 7 n = nI 0) (g : Int32) : placeW P g n = none := by
  unfold placeW
  rw [h, toN_nI (by decide), fnd]
theorem fnd_snoc (p : Nat → Bool) : ∀ (k n : Nat), fnd p (k + 1) n = match fnd p k n with
    | some i => some i
    | none => if p (n + k) then some (n + k) else none
  | 0, n => by rw [fnd, fnd, fnd]; rfl
  | k + 1, n => by
    rw [fnd, fnd_snoc p k (n + 1), fnd]
    split
    · rfl
    · rw [show n + 1 + k = n + (k + 1) by omega]
theorem dwn_fnd {r : Nat → Int32} {h : Int32} : ∀ (k : Nat) (v : Int32), dwn (hD r h) k v = match fnd (fun n => decide (r (32 + 12 * n) = h)) k 0 with
    | some i => nI i
    | none => v
  | 0, _ => rfl
  | k + 1, v => by
    rw [dwn, dwn_fnd k, fnd_snoc]
    cases fnd (fun n => decide (r (32 + 12 * n) = h)) k 0 with
    | some i => rfl
    | none =>
      unfold hD
      simp only [Nat.zero_add]
      by_cases hc : r (32 + 12 * k) = h
      · rw [if_pos hc, if_pos (decide_eq_true hc)]
      · rw [if_neg hc, if_neg (fun q => hc (of_decide_eq_true q))]
theorem fnd_tail {p : Nat → Bool} : ∀ (k n j : Nat), (∀ i, n + k ≤ i → i < n + k + j → p i = false) → fnd p (k + j) n = fnd p k n
  | k, n, 0, _ => rfl
  | k, n, j + 1, h => by
    rw [show k + (j + 1) = (k + j) + 1 from rfl, fnd_snoc, fnd_tail k n j (fun i a b => h i a (by omega))]
    cases fnd p k n with
    | some i => rfl
    | none =>
      simp only
      rw [h (n + (k + j)) (by omega) (by omega)]
      rfl
/-- v is the least end of the numbers in S that h holds, -1 without one -/
def cand (P : jO) (h : Int32) (n : Nat) : Prop := P 2 n = h ∧ stg P n = nI 1
def MinE (P : jO) (h : Int32) (S : Nat → Prop) (v : Int32) : Prop := (v = -1 ∧ ∀ n, S n → ¬ cand P h n) ∨ (¬ v = -1 ∧ (∃ n, S n ∧ cand P h n ∧ v = P 4 n) ∧ ∀ n, S n → cand P h n → v ≤ P 4 n)
theorem MinE_uniq {P : jO} {h v v' : Int32} {S S' : Nat → Prop} (hS : ∀ n, cand P h n → (S n ↔ S' n)) (a : MinE P h S v) (b : MinE P h S' v') : v = v' := by
  rcases a with ⟨a1, a2⟩ | ⟨a1, ⟨n, a2, a3, a4⟩, a5⟩ <;> rcases b with ⟨b1, b2⟩ | ⟨b1, ⟨n', b2, b3, b4⟩, b5⟩
  · rw [a1, b1]
  · exact absurd b3 (a2 n' ((hS n' b3).mpr b2))
  · exact absurd a3 (b2 n ((hS n a3).mp a2))
  · refine Int32.le_antisymm ?_ ?_
    · rw [b4]
      exact a5 n' ((hS n' b3).mpr b2) b3
    · rw [a4]
      exact b5 n ((hS n a3).mp a2) a3
theorem MinE_step {P : jO} {h v : Int32} {S S' : Nat → Prop} {n : Nat} (hp : cand P h n → ¬ P 4 n = -1) (hS : ∀ i, S' i ↔ (S i ∨ i = n)) (a : MinE P h S v) :
    MinE P h S' (if P 2 n = h ∧ stg P n = nI 1 ∧ (v = -1 ∨ P 4 n < v) then P 4 n else v) := by
  by_cases hc : cand P h n
  · by_cases hv : v = -1 ∨ P 4 n < v
    · rw [if_pos ⟨hc.1, hc.2, hv⟩]
      refine Or.inr ⟨hp hc, ⟨n, (hS n).mpr (Or.inr rfl), hc, rfl⟩, fun i hi ci => ?_⟩
      rcases (hS i).mp hi with q | q
      · rcases a with ⟨a1, a2⟩ | ⟨a1, -, a5⟩
        · exact absurd ci (a2 i q)
        · rcases hv with hv | hv
          · exact absurd hv a1
          · exact Int32.le_of_lt (Int32.lt_of_lt_of_le hv (a5 i q ci))
      · rw [q]
        exact Int32.le_refl _
    · rw [if_neg (fun q => hv q.2.2)]
      rcases a with ⟨a1, a2⟩ | ⟨a1, ⟨m, a2, a3, a4⟩, a5⟩
      · exact absurd (Or.inl a1) hv
      · refine Or.inr ⟨a1, ⟨m, (hS m).mpr (Or.inl a2), a3, a4⟩, fun i hi ci => ?_⟩
        rcases (hS i).mp hi with q | q
        · exact a5 i q ci
        · rw [q]
          exact Int32.not_lt.mp (fun w => hv (Or.inr w))
  · rw [if_neg (fun q => hc ⟨q.1, q.2.1⟩)]
    rcases a with ⟨a1, a2⟩ | ⟨a1, ⟨m, a2, a3, a4⟩, a5⟩
    · refine Or.inl ⟨a1, fun i hi => ?_⟩
      rcases (hS i).mp hi with q | q
      · exact a2 i q
      · rw [q]
        exact hc
    · refine Or.inr ⟨a1, ⟨m, (hS m).mpr (Or.inl a2), a3, a4⟩, fun i hi ci => ?_⟩
      rcases (hS i).mp hi with q | q
      · exact a5 i q ci
      · rw [q] at ci
        exact absurd ci hc
theorem least_up {P : jO} {h : Int32} (hp : ∀ n, n < 64 → cand P h n → ¬ P 4 n = -1) : ∀ (k n : Nat) (v : Int32), n + k = 64 → MinE P h (fun i => i < n) v → MinE P h (fun i => i < 64) (leastE P h k n v)
  | 0, n, v, hk, a => by
    obtain rfl : n = 64 := by omega
    exact a
  | k + 1, n, v, hk, a => by
    rw [leastE]
    exact least_up hp k (n + 1) _ (by omega) (MinE_step (hp n (by omega)) (fun i => by omega) a)
theorem least_dn {P : jO} {r : Nat → Int32} {h : Int32} {z : Nat} (hz : z ≤ 64) (hC : CP P r) (hp : ∀ n, n < 64 → cand P h n → ¬ P 4 n = -1) : ∀ (k : Nat) (v : Int32), k ≤ z → MinE P h (fun i => k ≤ i ∧ i < z) v → MinE P h (fun i => i < z) (dwn (hE r h) k v)
  | 0, v, _, a => by
    have e : (fun i => 0 ≤ i ∧ i < z) = fun i => i < z := by
      funext i
      simp
    rw [e] at a
    exact a
  | k + 1, v, hk, a => by
    rw [dwn]
    unfold hE
    rw [CP_who hC (by omega), stg_eq hC (by omega), CP_end hC (by omega)]
    exact least_dn hz hC hp k _ (by omega) (MinE_step (hp k (by omega)) (fun i => by omega) a)
theorem V_end {P : jO} {z t m n : Nat} {h : Int32} (ht : t ≤ 20000) (hV : V P z t m) (hn : n < 64) (hc : cand P h n) : ¬ P 4 n = -1 := by
  have hf : ¬ P 2 n = -1 := by
    intro q
    have := hc.2
    unfold stg at this
    rw [if_pos q] at this
    exact absurd this (by decide)
  obtain ⟨⟨e, l, d1, d2, d3, d4, d5⟩, -⟩ := (hV.2.2 n hn).2.2 hf
  rw [d1]
  exact nI_m1 (by omega)
theorem hol_eq {P : jO} {r : Nat → Int32} {z t h q : Nat} (hh : h < 8) (ht : t ≤ 20000) (hq : q ≤ 7) (hK : CP P r) (hV : V P z t 64) : mHol r z h q = ofH P h q := by
  have hz := hV.2.1.2.1.2.2
  have hT := V_tail hV
  rcases le7 hq with e | e | e | e | e | e | e | e <;> subst e
  · show dwn (hA r (nI h)) z (nI 0) = nI (cnt (inP P (nI h) (nI 1)) 64)
    rw [dwn_cnt (fun n v a => hA_f hz hK n v a) z 0 (Nat.le_refl _), Nat.zero_add, cnt_64 hz (inP_tail hh hT _)]
  · show dwn (hB r (nI h)) z (nI 0) = nI (cnt (inP P (nI h) (nI 2)) 64)
    rw [dwn_cnt (fun n v a => hB_f hz hK n v a) z 0 (Nat.le_refl _), Nat.zero_add, cnt_64 hz (inP_tail hh hT _)]
  · show dwn (hC r (nI h)) z (nI 0) = nI (cnt (fun n => (placeW P (nI h) n).isSome) 64)
    rw [dwn_cnt (p := fun n => (placeW P (nI h) n).isSome) (fun n v a => hC_f hz hV.1 hK n v a) z 0 (Nat.le_refl _), Nat.zero_add, cnt_64 hz (fun n a b => by rw [placeW_0 ((hV.2.2 n b).1 (hT n a b))]; rfl)]
  · show dwn (hD r (nI h)) z (-1) = oI (fnd (fun n => decide (P 2 n = nI h)) 64 0)
    rw [dwn_fnd, fnd_congr (q := fun n => decide (P 2 n = nI h)) (fun i _ b => by rw [CP_who hK (by omega)])]
    have e := fnd_tail (p := fun n => decide (P 2 n = nI h)) z 0 (64 - z) (fun i a b => by rw [hT i (by omega) (by omega)]; exact decide_eq_false (fun q => nI_m1 (n := h) (by omega) q.symm))
    rw [show z + (64 - z) = 64 by omega] at e
    rw [e]
    cases fnd (fun n => decide (P 2 n = nI h)) z 0 <;> rfl
  · show dwn (hE r (nI h)) z (-1) = leastE P (nI h) 64 0 (-1)
    have hp : ∀ n, n < 64 → cand P (nI h) n → ¬ P 4 n = -1 := fun n a b => V_end ht hV a b
    refine MinE_uniq (fun n hc => ?_) (least_dn hz hK hp z (-1) (Nat.le_refl _) (Or.inl ⟨rfl, fun n a => absurd a (by omega)⟩)) (least_up hp 64 0 (-1) (by omega) (Or.inl ⟨rfl, fun n a => absurd a (by omega)⟩))
    constructor
    · intro a
      omega
    · intro a
      rcases Nat.lt_or_ge n z with b | b
      · exact b
      · have := hc.1
        rw [hT n b a] at this
        exact absurd this.symm (nI_m1 (by omega))
  · exact CP_k (j := 10) hK (by omega) (by omega) hh
  · exact CP_k (j := 11) hK (by omega) (by omega) hh
  · exact CP_k (j := 12) hK (by omega) (by omega) hh
/-! sums, counts, numbers -/
theorem sum_eq {f : Nat → Int32} {r : Nat → Int32} {a b : Nat} : ∀ (z : Nat), (∀ n, n < z → r (a + b * n) = f n) → mSum r a b z = sumA f z
  | 0, _ => rfl
  | z + 1, h => by rw [mSum, sumA, sum_eq z (fun n hn => h n (by omega)), h z (by omega)]
theorem sum_tail {f : Nat → Int32} {z : Nat} : ∀ (k : Nat), (∀ n, z ≤ n → n < z + k → f n = nI 0) → sumA f (z + k) = sumA f z
  | 0, _ => rfl
  | k + 1, h => by
    rw [show z + (k + 1) = (z + k) + 1 from rfl, sumA, sum_tail k (fun n a b => h n a (by omega)), h (z + k) (by omega) (by omega), nI0, Int32.add_zero]
theorem stage_eq {P : jO} {r : Nat → Int32} {z : Nat} (hz : z ≤ 64) (hC : CP P r) (s : Int32) : cnt (fun n => decide (mStg r n = s)) z = cnt (fun n => decide (stg P n = s)) z :=
  cnt_congr (fun n hn => by rw [stg_eq hC (by omega)])
theorem k_sum {P : jO} {r : Nat → Int32} {j : Nat} (hj : 10 ≤ j) (hj2 : j < 13) (hC : CP P r) : mSum r (8 * (j - 9)) 1 8 = sumA (P j) 8 :=
  sum_eq 8 (fun n hn => by rw [Nat.one_mul]; exact CP_k hC hj hj2 hn)
theorem num_eq {P : jO} {r : Nat → Int32} {n q : Nat} (hn : n < 64) (hq : q ≤ 8) (hP : PI P) (hC : CP P r) : mNum r n q = ofN P n q := by
  obtain ⟨h3, he⟩ := PI_w hP hn
  have fq : (mFree r n = true) ↔ P 2 n = -1 := by unfold mFree; rw [CP_who hC hn, decide_eq_true_eq]
  have e0 : ∀ (a b : Int32), (if r (32 + 12 * n + 5) = 0 then -1 else a) = (if 0 < P 7 n then a else -1) := by
    intro a b
    rw [CP_wait hC hn, he]
    by_cases h : toN (P 7 n) = 0
    · rw [h, if_pos (show nI 0 = 0 from rfl), if_neg (by decide)]
    · rw [if_neg (nI_ne0 (by omega) (by omega)), if_pos ((nI_0lt (by omega)).mpr (by omega))]
  rcases le8 hq with e | e | e | e | e | e | e | e | e <;> subst e
  · exact stg_eq hC hn
  · show (if mFree r n = true then -1 else r (32 + 12 * n)) = P 2 n
    rw [CP_who hC hn]
    split
    · exact (fq.mp ‹_›).symm
    · rfl
  · show (if mFree r n = true then -1 else r (32 + 12 * n + 1)) = (if P 2 n = -1 then -1 else P 3 n)
    rw [show r (32 + 12 * n + 1) = P 3 n from CP_n (j := 3) hC (by omega) (by omega) hn]
    simp only [fq]
  · show (if mFree r n = true then -1 else r (32 + 12 * n + 2)) = (if P 2 n = -1 then -1 else P 4 n)
    rw [CP_end hC hn]
    simp only [fq]
  · show (if mFree r n = true then -1 else r (32 + 12 * n + 3)) = (if P 2 n = -1 then -1 else P 5 n)
    rw [CP_last hC hn]
    simp only [fq]
  · exact CP_wait hC hn
  · show (if r (32 + 12 * n + 5) = 0 then -1 else r (32 + 12 * n + 6)) = (if 0 < P 7 n then P 8 (n * 3) else -1)
    rw [e0 _ 0]
    by_cases h : 0 < P 7 n
    · rw [if_pos h, if_pos h]
      exact (CP_w (k := 0) hC hn (PI_pos hP hn h).1 h3).1
    · rw [if_neg h, if_neg h]
  · show (if r (32 + 12 * n + 5) = 0 then -1 else r (32 + 12 * n + 7)) = (if 0 < P 7 n then P 9 (n * 3) else -1)
    rw [e0 _ 0]
    by_cases h : 0 < P 7 n
    · rw [if_pos h, if_pos h]
      exact (CP_w (k := 0) hC hn (PI_pos hP hn h).1 h3).2
    · rw [if_neg h, if_neg h]
  · exact CP_n (j := 6) hC (by omega) (by omega) hn
theorem cnt_eq {T P : jO} {z t q : Nat} (hq : q ≤ 11) (hC : CP P (T 1)) (hV : V P z t 64) : mCnt T z q = ofA P z q := by
  have hz := hV.2.1.2.1.2.2
  have hz4 := hV.2.1.2.1.2.1
  rcases le11 hq with e | e | e | e | e | e | e | e | e | e | e | e <;> subst e
  · show T 1 0 = P 0 0
    exact CP_t hC
  · exact congrArg nI (stage_eq hz hC _)
  · exact congrArg nI (stage_eq hz hC _)
  · exact congrArg nI (stage_eq hz hC _)
  · show mSum (T 1) 37 12 z = sumA (P 7) 64
    have e := sum_tail (f := P 7) (z := z) (64 - z) (fun n a b => (hV.2.2 n (by omega)).1 (V_tail hV n a (by omega)))
    rw [show z + (64 - z) = 64 by omega] at e
    rw [e]
    exact sum_eq z (fun n hn => by rw [show 37 + 12 * n = 32 + 12 * n + 5 by omega]; exact CP_wait hC (by omega))
  · exact k_sum (j := 10) (by omega) (by omega) hC
  · exact CP_h (i := 1) hC (by omega) (by omega)
  · exact CP_h (i := 2) hC (by omega) (by omega)
  · exact CP_h (i := 3) hC (by omega) (by omega)
  · exact k_sum (j := 11) (by omega) (by omega) hC
  · exact many_eq hz hC
  · exact long_eq hz (by omega) hC
