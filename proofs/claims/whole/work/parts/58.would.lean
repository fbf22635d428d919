/-! WHAT WOULD BE, ON BOTH SIDES -/
theorem V_U {P : jO} {z t m : Nat} (f : Nat → Int32) (h : V P z t m) : V (wU P f) z t m := by
  obtain ⟨a, b, c⟩ := h
  refine ⟨PI_of (by rw [wU_ne (by decide)]) (fun n _ => by rw [wU_ne (by decide)]) (fun n _ => by rw [wU_ne (by decide)]) (fun n _ => by rw [wU_ne (by decide)]) a, ?_, fun n hn => ?_⟩
  · unfold VH
    rw [wU_ne (by decide), wU_ne (by decide)]
    exact b
  · unfold VL VT VO
    rw [wU_ne (by decide), wU_ne (by decide), wU_ne (by decide), wU_ne (by decide), wU_ne (by decide)]
    exact c n hn
theorem wU_two (P : jO) (f g : Nat → Int32) : wU (wU P f) g = wU P g := putA_two P 12 f g
theorem wU_self (P : jO) : wU P (P 12) = P := putA_self P 12
/-- coupled, but for the units -/
def CU (P : jO) (r : Nat → Int32) : Prop := ∃ f, CP (wU P f) r
theorem CU_of {P : jO} {r : Nat → Int32} (h : CP P r) : CU P r := ⟨P 12, by rw [wU_self]; exact h⟩
theorem CU_tock {P : jO} {r : Nat → Int32} {z t : Nat} (ht : t < 20000) (hC : CU P r) (hV : V P z t 64) : CU (tock P) (mTick r z) := by
  obtain ⟨f, hf⟩ := hC
  have a := (tick_all ht hf (V_U f hV)).1
  obtain ⟨g, e⟩ := tick_U (wU P f)
  rw [e, tock_U, wU_two] at a
  exact ⟨g, a⟩
theorem CU_who {P : jO} {r : Nat → Int32} (h : CU P r) {n : Nat} (hn : n < 64) : r (32 + 12 * n) = P 2 n := by
  obtain ⟨f, hf⟩ := h
  rw [CP_who hf hn, wU_ne (by decide)]
theorem stg_U (P : jO) (f : Nat → Int32) (n : Nat) : stg (wU P f) n = stg P n := by
  unfold stg
  rw [wU_ne (by decide), wU_ne (by decide), wU_ne (by decide)]
theorem CU_frees {P : jO} {r : Nat → Int32} {z : Nat} (hz : z ≤ 64) (h : CU P r) : cnt (fun n => decide (mStg r n = nI 0)) z = freesP P z := by
  obtain ⟨f, hf⟩ := h
  rw [stage_eq hz hf]
  exact cnt_congr (fun n hn => by rw [stg_U])
theorem CU_tks {z : Nat} : ∀ (k t : Nat) (P : jO) (r : Nat → Int32), t + k ≤ 20000 → CU P r → V P z t 64 → CU (tockN k P) (mTks z k r)
  | 0, _, _, _, _, h, _ => h
  | k + 1, t, P, r, ht, hC, hV => by
    rw [tockN, mTks]
    exact CU_tks k (t + 1) _ _ (by omega) (CU_tock (by omega) hC hV) (tock_V (by omega) hV)
theorem CP_cpy {P : jO} {p r : Nat → Int32} (h : CP P r) : CP P (cpy p r 800) := by
  intro j i hk
  unfold cpy
  rw [if_pos (pos_lt hk.1)]
  exact h j i hk
theorem who_then {P : jO} {p r : Nat → Int32} {z t n b : Nat} (hn : n < 64) (hb : t + b < 20000) (hC : CP P r) (hV : V P z t 64) : mTks z b (cpy p r 800) (32 + 12 * n) = leapN (P 0 0 + nI b) b P 2 n := by
  rw [CU_who (CU_tks b t P _ (by omega) (CU_of (CP_cpy hC)) hV) hn, hV.2.1.1, nI_add]
  obtain ⟨t', e, -⟩ := leapN_all (U := t + b) hb b t P hV (by omega) (by omega)
  rw [e, show t + b - t = b by omega]
def cF (z : Nat) (m : Int32) (P : jO) : Bool := !decide (nI (freesP P z) < m)
def cW (h : Int32) (n : Nat) (P : jO) : Bool := decide (P 2 n = h)
theorem cF_inv (z : Nat) (m : Int32) (P : jO) (v : Int32) : cF z m (put P 0 0 v) = cF z m P := by
  unfold cF freesP
  rw [cnt_congr (q := fun n => decide (stg P n = nI 0)) (fun n _ => ?_)]
  unfold stg
  rw [put_ne (by decide : (2 : Nat) ≠ 0)]
  by_cases h : P 2 n = -1
  · rw [if_pos h, if_pos h]
  · rw [if_neg h, if_neg h]
    split <;> split <;> rfl
theorem cW_inv (h : Int32) (n : Nat) (P : jO) (v : Int32) : cW h n (put P 0 0 v) = cW h n P := by
  unfold cW
  rw [put_ne (by decide)]
theorem freeL_gL (z : Nat) (m u t0 : Int32) : ∀ (k : Nat) (P : jO), (freeL z m u t0 k P).1 = gL (cF z m) u t0 k P
  | 0, _ => rfl
  | k + 1, P => by
    rw [freeL, gL]
    split
    · rfl
    · by_cases h : nI (freesP (leapP P u) z) < m
      · rw [if_pos h, if_neg (by unfold cF; rw [decide_eq_true h]; decide), freeL_gL z m u t0 k]
      · rw [if_neg h, if_pos (by unfold cF; rw [decide_eq_false h]; decide)]
theorem wishL_gL (h : Int32) (n : Nat) (u t0 : Int32) : ∀ (k : Nat) (P : jO), (wishL h n u t0 k P).1 = gL (cW h n) u t0 k P
  | 0, _ => rfl
  | k + 1, P => by
    rw [wishL, gL]
    split
    · rfl
    · by_cases hc : leapP P u 2 n = h
      · rw [if_pos hc, if_pos (show cW h n (leapP P u) = true from decide_eq_true hc)]
      · rw [if_neg hc, if_neg (show ¬ cW h n (leapP P u) = true from fun q => hc (of_decide_eq_true q)), wishL_gL h n u t0 k]
theorem frL_gT {z : Nat} (hz : z ≤ 64) (m : Int32) : ∀ (k i t : Nat) (P : jO) (r : Nat → Int32), t + k ≤ 20000 → CU P r → V P z t 64 → mFrV z m (mFrL z m k i r) = gT (cF z m) k i P
  | 0, i, t, P, r, _, hC, _ => by
    rw [mFrL, gT]
    unfold mFrV cF
    simp only
    rw [CU_frees hz hC]
    by_cases h : nI (freesP P z) < m
    · rw [if_pos h, if_neg (by rw [decide_eq_true h]; decide)]
    · rw [if_neg h, if_pos (by rw [decide_eq_false h]; decide)]
  | k + 1, i, t, P, r, ht, hC, hV => by
    rw [mFrL, gT, CU_frees hz hC]
    by_cases h : nI (freesP P z) < m
    · rw [if_pos h, if_neg (by unfold cF; rw [decide_eq_true h]; decide)]
      exact frL_gT hz m k (i + 1) (t + 1) _ _ (by omega) (CU_tock (by omega) hC hV) (tock_V (by omega) hV)
    · rw [if_neg h, if_pos (by unfold cF; rw [decide_eq_false h]; decide)]
      unfold mFrV
      simp only
      rw [CU_frees hz hC, if_neg h]
theorem wiL_gT {z : Nat} {n : Nat} (hn : n < 64) (h : Int32) : ∀ (k i t : Nat) (P : jO) (r : Nat → Int32), t + k ≤ 20000 → CU P r → V P z t 64 → (if (mWiL z h n k i r).1 (32 + 12 * n) = h then nI (mWiL z h n k i r).2 else -1) = gT (cW h n) k i P
  | 0, i, t, P, r, _, hC, _ => by
    have e := CU_who hC hn
    rw [mWiL, gT]
    simp only
    by_cases hc : P 2 n = h
    · rw [if_pos (e.trans hc), if_pos (show cW h n P = true from decide_eq_true hc)]
    · rw [if_neg (fun q => hc (e.symm.trans q)), if_neg (show ¬ cW h n P = true from fun q => hc (of_decide_eq_true q))]
  | k + 1, i, t, P, r, ht, hC, hV => by
    have e := CU_who hC hn
    rw [mWiL, gT]
    by_cases hc : P 2 n = h
    · rw [if_pos (e.trans hc), if_pos (show cW h n P = true from decide_eq_true hc)]
      simp only
      rw [if_pos (e.trans hc)]
    · rw [if_neg (fun q => hc (e.symm.trans q)), if_neg (show ¬ cW h n P = true from fun q => hc (of_decide_eq_true q))]
      exact wiL_gT hn h k (i + 1) (t + 1) _ _ (by omega) (CU_tock (by omega) hC hV) (tock_V (by omega) hV)
theorem free_then {S : jS} {p r : Nat → Int32} {z t : Nat} (ht : t < 19000) (m : Int32) (hC : CP (S 0) r) (hV : V (S 0) z t 64) : mFrV z m (mFrL z m 500 0 (cpy p r 800)) = (freeT S z m).1 := by
  rw [frL_gT hV.2.1.2.1.2.2 m 500 0 t (S 0) _ (by omega) (CU_of (CP_cpy hC)) hV]
  unfold freeT
  by_cases h : nI (freesP (S 0) z) < m
  · rw [if_pos h, freeL_gL, hV.2.1.1, nI_add, gL_all (cF_inv z m) (U := t + 500) (t0 := t) (by omega) 500 t (S 0) hV (by omega) (Nat.le_refl _) (by omega) (by unfold cF; rw [decide_eq_true h]; decide), show t + 500 - t = 500 by omega, Nat.sub_self]
  · rw [if_neg h, gT, if_pos (by unfold cF; rw [decide_eq_false h]; decide)]
theorem addW_2 {P : jO} {h n : Nat} {u : Int32} (hf : ¬ P 2 n = -1) : addW P h n u 2 = P 2 := by
  unfold addW
  rw [if_neg hf]
  split
  · simp only
    rw [put_ne (by decide), put_ne (by decide), put_ne (by decide)]
  · rfl
theorem wish_then {S : jS} {T : jO} {z t h n C : Nat} (hn : n < z) (hh : h < 8) (ht : t < 19000) (hC : CP (S 0) (T 1)) (hV : V (S 0) z t 64) (hB : B10 (S 0) C) : (mWisV T z (nI h) n).1 = (wishT S h n).1 := by
  have hz6 := hV.2.1.2.1.2.2
  have hn6 : n < 64 := by omega
  unfold mWisV wishT
  rw [CP_who hC hn6, mayW_eq hn6 hh hC hV]
  by_cases h1 : S 0 2 n = nI h
  · rw [if_pos h1, if_pos h1]
  · rw [if_neg h1, if_neg h1]
    by_cases h2 : mayW (S 0) (nI h) n = true
    · rw [if_pos h2, if_pos h2, free_eq hn6 hC]
      by_cases h3 : S 0 2 n = -1
      · rw [if_pos (show frP (S 0) n = true from decide_eq_true h3), if_pos h3]
      · rw [if_neg (show ¬ frP (S 0) n = true from fun q => h3 (of_decide_eq_true q)), if_neg h3]
        have hw := mayW_w hn6 hV.1 h2 h3
        obtain ⟨a1, a2, -, -, -⟩ := addW_all (u := 1) hn hh (by omega) (by omega) (by omega) (CP_cpy (p := T 2) hC) hV (fun _ => hw) hB
        have e5 : cpy (T 2) (T 1) 800 (32 + 12 * n + 5) = T 1 (32 + 12 * n + 5) := by unfold cpy; rw [if_pos (by omega)]
        have ew : (mWishes (cpy (T 2) (T 1) 800) h n (nI 1)).1 = mWaits (thn T) n (toN (T 1 (32 + 12 * n + 5))) (toN (nI h)) (nI 1) := by
          unfold mWishes
          rw [free_eq hn6 (CP_cpy hC), if_neg (show ¬ frP (S 0) n = true from fun q => h3 (of_decide_eq_true q)), e5, toN_nI (n := h) (by omega)]
          rfl
        rw [ew] at a1
        have g := wiL_gT (z := z) hn6 (nI h) 500 0 t (addW (S 0) h n (nI 1)) _ (by omega) (CU_of a1) a2
        have gl := gL_all (cW_inv (nI h) n) (U := t + 500) (t0 := t) (by omega) 500 t (addW (S 0) h n (nI 1)) a2 (by omega) (Nat.le_refl _) (by omega) (decide_eq_false (by rw [addW_2 h3]; exact h1))
        rw [show t + 500 - t = 500 by omega, Nat.sub_self] at gl
        rw [wishL_gL, hV.2.1.1, nI_add, gl]
        exact g
    · rw [if_neg h2, if_neg h2]
