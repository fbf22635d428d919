/-! WHAT IS COUPLED: a pool and a row, with all that holds of them -/
def SV (P : jO) (r : Nat → Int32) (z t C : Nat) : Prop := CP P r ∧ V P z t 64 ∧ t ≤ 9999 ∧ B10 P C ∧ B12 P (64 * t)
theorem MI_of_CP {P : jO} {r : Nat → Int32} {z t m : Nat} (hC : CP P r) (hV : V P z t m) : MI r z := by
  obtain ⟨z1, z2, z3⟩ := hV.2.1.2.1
  refine ⟨⟨(CP_s (i := 3) hC (by omega)).trans z1, z2, z3⟩, fun n hn => ⟨?_, ?_⟩⟩
  · rw [CP_who hC hn]
    exact hV.1.2.1 n hn
  · obtain ⟨w, w1, w2, w3⟩ := hV.1.2.2 n hn
    refine ⟨w, w1, (CP_wait hC hn).trans w2, fun k hk => ?_⟩
    obtain ⟨h, h1, h2⟩ := w3 k hk
    have ht : toN (P 7 n) = w := by rw [w2, toN_nI (by omega)]
    exact ⟨h, h1, ((CP_w hC hn (by omega) (by omega)).1).trans h2⟩
theorem row_cnF (p : Nat → Bool) : ∀ (k n : Nat), row p k n ≤ cnF p k n
  | 0, _ => Nat.le_refl _
  | k + 1, n => by
    have := row_cnF p k (n + 1)
    rw [row, cnF]
    split <;> omega
theorem frees_eq (P : jO) (z : Nat) : freesP P z = cnt (frP P) z := by
  unfold freesP
  refine cnt_congr (fun n _ => ?_)
  unfold stg frP
  by_cases h : P 2 n = -1
  · rw [if_pos h, decide_eq_true h]
    rfl
  · rw [if_neg h, decide_eq_false h]
    split <;> rfl
theorem longN_le {P : jO} {z B : Nat} (hB : ∀ n, n < z → rowP P z n ≤ B) : ∀ (k n v : Nat), n + k ≤ z → v ≤ B → longN P z k n v ≤ B
  | 0, _, _, _, h => h
  | k + 1, n, v, hk, h => by
    rw [longN]
    refine longN_le hB k (n + 1) _ (by omega) ?_
    have := hB n (by omega)
    split <;> omega
theorem long_le (P : jO) (z : Nat) : longN P z z 0 0 ≤ freesP P z := by
  rw [frees_eq]
  refine longN_le (fun n hn => ?_) z 0 0 (by omega) (Nat.zero_le _)
  unfold rowP
  have a := row_cnF (frP P) (z - n) n
  have b := cnF_cnt (frP P) (z - n) n
  rw [show n + (z - n) = z by omega] at b
  omega
theorem sum_b {f : Nat → Int32} {C : Nat} : ∀ (n : Nat), (∀ h, h < n → ∃ x, x ≤ C ∧ f h = nI x) → ∃ s, s ≤ n * C ∧ sumA f n = nI s
  | 0, _ => ⟨0, by omega, rfl⟩
  | n + 1, h => by
    obtain ⟨s, a, b⟩ := sum_b n (fun i hi => h i (by omega))
    obtain ⟨x, c, d⟩ := h n (by omega)
    exact ⟨s + x, by rw [Nat.add_mul]; omega, by rw [sumA, b, d, nI_add]⟩
theorem b4 {a b c d : Bool} (h : (a && b && c && d) = true) : a = true ∧ b = true ∧ c = true ∧ d = true := by
  cases a <;> cases b <;> cases c <;> cases d <;> simp_all
theorem b5 {a b c d e : Bool} (h : (a && b && c && d && e) = true) : a = true ∧ b = true ∧ c = true ∧ d = true ∧ e = true := by
  cases a <;> cases b <;> cases c <;> cases d <;> cases e <;> simp_all
theorem float_all {S : jS} {r : Nat → Int32} {z t C : Nat} (h : SV (S 0) r z t C) (hC9 : C ≤ 250000000) :
    fOK S z ∧ mfOK r z ∧ okD (meaV S) = true ∧ FP.dcmp (mMea r) (mMea r) = some .eq ∧ fulV S z = (mFul r z).toInt32 ∧ scaV S z = (mSca r z).toInt32 ∧ meaV S = mMea r ∧ ofD (meaV S) = (mMea r).toInt64 := by
  obtain ⟨hC, hV, ht, hB, hU⟩ := h
  have hz6 := hV.2.1.2.1.2.2
  have hz4 := hV.2.1.2.1.2.1
  have hfz : freesP (S 0) z ≤ z := cnt_le _ z
  have hlf := long_le (S 0) z
  have eF : mFr r z = freesP (S 0) z := stage_eq hz6 hC _
  have eL : mSpans r z (nI 0) (nI 1) = nI (longN (S 0) z z 0 0) := long_eq hz6 (by omega) hC
  have e8 : mSum r 8 1 8 = sumA (S 0 10) 8 := k_sum (j := 10) (by omega) (by omega) hC
  have e24 : mSum r 24 1 8 = sumA (S 0 12) 8 := k_sum (j := 12) (by omega) (by omega) hC
  obtain ⟨a, a1, a2⟩ := sum_b 8 (fun h hh => hB h hh)
  obtain ⟨u, u1, u2⟩ := sum_b 8 (fun h hh => hU h hh)
  obtain ⟨A1, A2, A3, A4⟩ := b4 (chkA_all hz4 hz6 hfz)
  have A3 := of_decide_eq_true A3
  have A4 := of_decide_eq_true A4
  have hBk : ¬ freesP (S 0) z = 0 → chkB (longN (S 0) z z 0 0) (freesP (S 0) z) = true := fun q => chkB_all (by omega) (by omega) hlf
  have hm0 : ¬ sumA (S 0 10) 8 = 0 → nn64 (meaQ (sumA (S 0 12) 8) (sumA (S 0 10) 8)) = true ∧ okD (meaQ (sumA (S 0 12) 8) (sumA (S 0 10) 8)) = true ∧ ofD (meaQ (sumA (S 0 12) 8) (sumA (S 0 10) 8)) = (meaQ (sumA (S 0 12) 8) (sumA (S 0 10) 8)).toInt64 ∧ FP.dcmp (meaQ (sumA (S 0 12) 8) (sumA (S 0 10) 8)) (meaQ (sumA (S 0 12) 8) (sumA (S 0 10) 8)) = some .eq := by
    intro q
    rw [a2] at q ⊢
    rw [u2]
    have ha0 : 0 < a := by
      rcases Nat.eq_zero_or_pos a with w | w
      · subst w
        exact absurd rfl q
      · exact w
    exact mea_all (by omega) ha0 (by omega)
  have eM : meaV S = mMea r := by
    unfold meaV mMea
    rw [e8, e24]
  have emF : mFul r z = fulQ z (nI (freesP (S 0) z)) := by unfold mFul; rw [eF]
  have emS : mSca r z = if freesP (S 0) z = 0 then FP.fconst0 else scaQ (nI (longN (S 0) z z 0 0)) (nI (freesP (S 0) z)) := by unfold mSca; rw [eF, eL]
  refine ⟨⟨⟨A1, A2⟩, fun q => ?_, fun q => (hm0 q).1⟩, ⟨⟨by rw [emF]; exact A1, by rw [emF]; exact A4⟩, fun q => ?_, ?_, fun q => ?_⟩, ?_, ?_, by rw [emF]; exact A3, ?_, eM, ?_⟩
  · obtain ⟨b1, b2, b3, -, -⟩ := b5 (hBk q)
    exact ⟨b1, b2, b3⟩
  · rw [eF] at q
    rw [eL, eF]
    obtain ⟨b1, b2, b3, -, -⟩ := b5 (hBk q)
    exact ⟨b1, b2⟩
  · rw [emS]
    by_cases q : freesP (S 0) z = 0
    · rw [if_pos q]
      decide +kernel
    · rw [if_neg q]
      obtain ⟨-, -, -, -, b⟩ := b5 (hBk q)
      exact of_decide_eq_true b
  · rw [e8] at q
    rw [e8, e24]
    exact (hm0 q).1
  · unfold meaV
    by_cases q : sumA (S 0 10) 8 = 0
    · rw [if_pos q]
      exact mea_z.1
    · rw [if_neg q]
      exact (hm0 q).2.1
  · rw [← eM]
    unfold meaV
    by_cases q : sumA (S 0 10) 8 = 0
    · rw [if_pos q]
      exact mea_z.2.2
    · rw [if_neg q]
      exact (hm0 q).2.2.2
  · unfold scaV
    rw [emS]
    by_cases q : freesP (S 0) z = 0
    · rw [if_pos q, if_pos q]
      decide +kernel
    · rw [if_neg q, if_neg q]
      obtain ⟨-, -, -, b, -⟩ := b5 (hBk q)
      exact of_decide_eq_true b
  · rw [← eM]
    unfold meaV
    by_cases q : sumA (S 0 10) 8 = 0
    · rw [if_pos q]
      exact mea_z.2.1
    · rw [if_neg q]
      exact (hm0 q).2.2.1
/-! the digest -/
theorem dgL_congr {f g : Nat → Int32} : ∀ (k i : Nat) (h : Int64), (∀ j, i ≤ j → j < i + k → f j = g j) → dgL f k i h = dgL g k i h
  | 0, _, _, _ => rfl
  | k + 1, i, h, e => by rw [dgL, dgL, e i (by omega) (by omega), dgL_congr k (i + 1) _ (fun j a b => e j (by omega) (by omega))]
theorem dgO_congr {f g : Nat → Int64 → Int64} : ∀ (k i : Nat) (h : Int64), (∀ j v, i ≤ j → j < i + k → f j v = g j v) → dgO f k i h = dgO g k i h
  | 0, _, _, _ => rfl
  | k + 1, i, h, e => by rw [dgO, dgO, e i h (by omega) (by omega), dgO_congr k (i + 1) _ (fun j v a b => e j v (by omega) (by omega))]
theorem dig_eq {S : jS} {T : jO} {z t C w : Nat} (h : SV (S 0) (T 1) z t C) (hC9 : C ≤ 250000000) (hs : S 9 0 0 = T 0 0) (hX : TX (S 8) T w) :
    digV S z = mdV T z (cnt (stS (S 0)) z) w (fun k => (wishT S k 0).1) (leapN (S 0 0 0 + nI 20) 20 (S 0) 2 0) (freeT S z (nI 4)).1 := by
  obtain ⟨-, -, -, -, g1, g2, -, g3⟩ := float_all h hC9
  obtain ⟨hC, hV, ht, hB, hU⟩ := h
  have hz6 := hV.2.1.2.1.2.2
  have hz4 := hV.2.1.2.1.2.1
  have e0 : dgL (cntA S z) 13 0 2579 = dgL (mCnt T z) 13 0 2579 := dgL_congr 13 0 _ (fun j _ b => by
    unfold cntA
    by_cases q : j = 12
    · subst q
      rw [if_pos rfl]
      exact hs
    · rw [if_neg q, cnt_eq (by omega) hC hV])
  have e1 : ∀ v, dgL (S 0 1) 4 0 v = dgL (fun k => T 1 (1 + k)) 4 0 v := fun v => dgL_congr 4 0 v (fun j _ b => (CP_s hC (by omega)).symm)
  have e2 : ∀ v, dgN S z v = mdN (T 1) z v := fun v => dgO_congr z 0 v (fun j u _ b => dgL_congr 9 0 u (fun i _ c => (num_eq (by omega) (by omega) hV.1 hC).symm))
  have e3 : ∀ v, dgH S v = mdH (T 1) z (fun k => (wishT S k 0).1) v := fun v => dgO_congr 8 0 v (fun j u _ b => by
    rw [dgL_congr 8 0 u (fun i _ c => (hol_eq (by omega) (by omega : t ≤ 20000) (by omega) hC hV).symm)])
  have e4 : ∀ v, dgS S z v = mdS (T 1) z (cnt (stS (S 0)) z) v := fun v => dgO_congr _ 0 v (fun j u _ b => by
    rw [show nI 2 = nI (0 + 2) from rfl, show nI 3 = nI (1 + 2) from rfl, ofSp_eq hz6 hC (nI j) (w := 0) (by omega), ofSp_eq hz6 hC (nI j) (w := 1) (by omega)])
  have e5 : ∀ v, dgB S v = dgL (T 4) w 0 (dg1 v (nI w)) := fun v => by
    obtain ⟨x1, x2, x3, x4⟩ := hX
    unfold dgB lenQ
    rw [x1, toN_nI (by omega)]
    refine dgL_congr w 0 _ (fun j _ b => ?_)
    unfold sgA lenQ
    rw [x1, toN_nI (by omega), if_pos (by omega)]
    exact (x4 j (by omega)).symm
  unfold digV mdV
  simp only
  rw [e5, e0, e1, e2, e3, e4, g1, g2, g3]
