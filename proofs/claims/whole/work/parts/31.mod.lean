theorem h5_isFree (l : Launch) (E : jE) (S : jS) (x : jX) (T : jO) {t : Nat} (ht : t = 1 ∨ t = 2) {n : Nat} (hn : n < 64) : Ct l E yX5_isFree cX5_isFree 2 (some .boolean) 2 [.ref (ad E 10 t), .int (nI n)] (setO S 10 T, x) (some (.int (bI (mFree (T t) n)))) (setO S 10 T, x) := by
  have h := c5_isFree l E S x T ht (T t) (n := n) hn
  rwa [putA_self] at h
theorem h5_stageOf (l : Launch) (E : jE) (S : jS) (x : jX) (T : jO) {t : Nat} (ht : t = 1 ∨ t = 2) {n : Nat} (hn : n < 64) : Ct l E yX5_stageOf cX5_stageOf 2 (some .int) 3 [.ref (ad E 10 t), .int (nI n)] (setO S 10 T, x) (some (.int (mStg (T t) n))) (setO S 10 T, x) := by
  have h := c5_stageOf l E S x T ht (T t) (n := n) hn
  rwa [putA_self] at h
theorem h5_has (l : Launch) (E : jE) (S : jS) (x : jX) (T : jO) {t : Nat} (ht : t = 1 ∨ t = 2) {z : Nat} (hz : (T t) 4 = nI z) (hz4 : z ≤ 64) (h : Int32) : Ct l E yX5_has cX5_has 4 (some .int) 2 [.ref (ad E 10 t), .int h] (setO S 10 T, x) (some (.int (nI (mHas (T t) h z)))) (setO S 10 T, x) := by
  have h := c5_has l E S x T ht (T t) hz hz4 h
  rwa [putA_self] at h
theorem h5_hasRoom (l : Launch) (E : jE) (S : jS) (x : jX) (T : jO) {t : Nat} (ht : t = 1 ∨ t = 2) {z : Nat} (hz : (T t) 4 = nI z) (hz4 : z ≤ 64) (h m : Int32) : Ct l E yX5_hasRoom cX5_hasRoom 3 (some .boolean) 3 [.ref (ad E 10 t), .int h, .int m] (setO S 10 T, x) (some (.int (bI (mRoom (T t) z h m)))) (setO S 10 T, x) := by
  have h := c5_hasRoom l E S x T ht (T t) hz hz4 h m
  rwa [putA_self] at h
theorem h5_atStage (l : Launch) (E : jE) (S : jS) (x : jX) (T : jO) {t : Nat} (ht : t = 1 ∨ t = 2) {z : Nat} (hz : (T t) 4 = nI z) (hz4 : z ≤ 64) (s : Int32) : Ct l E yX5_atStage cX5_atStage 4 (some .int) 4 [.ref (ad E 10 t), .int s] (setO S 10 T, x) (some (.int (nI (cnt (fun n => decide (mStg (T t) n = s)) z)))) (setO S 10 T, x) := by
  have h := c5_atStage l E S x T ht (T t) hz hz4 s
  rwa [putA_self] at h
theorem h5_gives (l : Launch) (E : jE) (S : jS) (x : jX) (T : jO) {t : Nat} (ht : t = 1 ∨ t = 2) {n h : Nat} (hn : n < 64) (hh : h < 8) (u : Int32) : Ct l E yX5_gives cX5_gives 5 none 2 [.ref (ad E 10 t), .int (nI n), .int (nI h), .int u] (setO S 10 T, x) none (setO S 10 (putA T t (mGives (T t) n h u)), x) := by
  have h := c5_gives l E S x T ht (T t) (n := n) (h := h) hn hh u
  rwa [putA_self] at h
theorem h5_drops (l : Launch) (E : jE) (S : jS) (x : jX) (T : jO) {t : Nat} (ht : t = 1 ∨ t = 2) {n : Nat} (hn : n < 64) {q : Nat} (hq : q ≤ 2) : Ct l E yX5_drops cX5_drops 5 none 2 [.ref (ad E 10 t), .int (nI n), .int (nI q)] (setO S 10 T, x) none (setO S 10 (putA T t (mDrop (T t) n q)), x) := by
  have h := c5_drops l E S x T ht (T t) (n := n) hn (q := q) hq
  rwa [putA_self] at h
theorem h5_waits (l : Launch) (E : jE) (S : jS) (x : jX) (T : jO) {t : Nat} (ht : t = 1 ∨ t = 2) {n h w : Nat} (hn : n < 64) (hw3 : w < 3) (hw : (T t) ((32 + 12 * n) + 5) = nI w) (u : Int32) : Ct l E yX5_waits cX5_waits 5 none 2 [.ref (ad E 10 t), .int (nI n), .int (nI h), .int u] (setO S 10 T, x) none (setO S 10 (putA T t (mWaits (T t) n w h u)), x) := by
  have h := c5_waits l E S x T ht (T t) (n := n) (h := h) (w := w) hn hw3 hw u
  rwa [putA_self] at h
theorem h5_firstFree (l : Launch) (E : jE) (S : jS) (x : jX) (T : jO) {t : Nat} (ht : t = 1 ∨ t = 2) {z : Nat} (hz : (T t) 4 = nI z) (hz4 : z ≤ 64) (m : Int32) : Ct l E yX5_firstFree cX5_firstFree 4 (some .int) 3 [.ref (ad E 10 t), .int m] (setO S 10 T, x) (some (.int (mFirst (T t) m z 0 0))) (setO S 10 T, x) := by
  have h := c5_firstFree l E S x T ht (T t) hz hz4 m
  rwa [putA_self] at h
theorem h5_wishOf (l : Launch) (E : jE) (S : jS) (x : jX) (T : jO) {t : Nat} (ht : t = 1 ∨ t = 2) {n w : Nat} (hn : n < 64) (hw3 : w ≤ 3) (hw : (T t) ((32 + 12 * n) + 5) = nI w) (h : Int32) : Ct l E yX5_wishOf cX5_wishOf 4 (some .int) 3 [.ref (ad E 10 t), .int (nI n), .int h] (setO S 10 T, x) (some (.int (oI (mWish (T t) n h w)))) (setO S 10 T, x) := by
  have h := c5_wishOf l E S x T ht (T t) (n := n) (w := w) hn hw3 hw h
  rwa [putA_self] at h
theorem h5_frees (l : Launch) (E : jE) (S : jS) (x : jX) (T : jO) {t : Nat} (ht : t = 1 ∨ t = 2) {n : Nat} (hn : n < 64) {z : Nat} (hM : MI (T t) z) : Ct l E yX5_frees cX5_frees 5 none 4 [.ref (ad E 10 t), .int (nI n)] (setO S 10 T, x) none (setO S 10 (putA T t (mFreeR (T t) n z)), x) := by
  have h := c5_frees l E S x T ht (T t) (n := n) hn hM
  rwa [putA_self] at h
theorem h5_passes (l : Launch) (E : jE) (S : jS) (x : jX) (T : jO) {t : Nat} (ht : t = 1 ∨ t = 2) {z : Nat} (hM : MI (T t) z) : Ct l E yX5_passes cX5_passes 3 (some .int) 5 [.ref (ad E 10 t)] (setO S 10 T, x) (some (.int (mTick (T t) z 7 - (T t) 7))) (setO S 10 (putA T t (mTick (T t) z)), x) := by
  have h := c5_passes l E S x T ht (T t) hM
  rwa [putA_self] at h
theorem wit_N {v : Int32} {c : Nat} (hc : c < 2 ^ 31) (h : witQ v (nI 0) (nI c) = true) : v = nI (toN v) ∧ toN v ≤ c := by
  unfold witQ at h
  rw [Bool.and_eq_true, decide_eq_true_iff, decide_eq_true_iff] at h
  obtain ⟨j, hj, rfl⟩ := nI_of (Int32.not_lt.mpr h.1)
  rw [toN_nI hj]
  exact ⟨rfl, (nI_leI hj hc).mp h.2⟩
theorem sub_s (a : Int32) : a - (a + 1) + 1 = 0 := by grind
theorem mF_lt {r : Nat → Int32} {m : Nat} (hm0 : 0 < m) (hm : m ≤ 64) : ∀ (k n c : Nat), n + k ≤ 64 → c ≤ n → mFirst r (nI m) k n c = -1 ∨ ∃ g, g + m ≤ n + k ∧ mFirst r (nI m) k n c = nI g
  | 0, _, _, _, _ => Or.inl rfl
  | k + 1, n, c, h, hc => by
    rw [mFirst]
    generalize hc2 : (if mFree r n = true then c + 1 else 0) = c2
    have h3 : c2 ≤ n + 1 := by rw [← hc2]; split <;> omega
    by_cases h1 : nI c2 = nI m
    · rw [if_pos h1]
      have h2 : c2 = m := by rwa [nI_eq (by omega) (by omega)] at h1
      right
      refine ⟨n + 1 - m, by omega, ?_⟩
      by_cases h5 : m = n + 1
      · rw [h5, nI_succ, Nat.sub_self]
        exact sub_s (nI n)
      · rw [pk_sub (by omega), nI_add]
        congr 1
        omega
    · rw [if_neg h1]
      have h6 := mF_lt (r := r) hm0 hm k (n + 1) c2 (by omega) h3
      rcases h6 with h6 | ⟨g, g1, g2⟩
      · exact Or.inl h6
      · exact Or.inr ⟨g, by omega, g2⟩
def mMayT (r : Nat → Int32) (z : Nat) (h : Int32) : Bool := !decide (mFirst r (nI 1) z 0 0 = -1) && mRoom r z h (nI 1)
set_option maxRecDepth 100000 in
set_option maxHeartbeats 1000000 in
theorem c5_mayTake (l : Launch) (E : jE) (S : jS) (x : jX) (T : jO) {z : Nat} (hM : MI (T 1) z) (h : Int32) : Ct l E yX5_mayTake cX5_mayTake 2 (some .boolean) 4 [.ref (ad E 10 0), .int h] (setO S 10 T, x) (some (.int (bI (mMayT (T 1) z h)))) (setO S 10 T, x) := by
  refine Ct.of (by decide +kernel) (Nat.le_refl _) (Nat.le_of_ble_eq_true rfl) rfl (fun J hJ hF => ?_)
  have hz := hM.1.1
  have hz6 := hM.1.2.2
  have hz4 := hM.1.2.1
  refine r_aload_n hJ dX5_mayTake_0 rfl jg0 ?_
  refine r_g5_0 hJ m791 dX5_mayTake_1 ?_
  refine r_iconst hJ (v := nI 1) dX5_mayTake_4 (by decide) ?_
  refine r_S2v hJ kX5_70 (h5_firstFree l E S x T (Or.inl rfl) hz (by omega) (nI 1)) dX5_mayTake_5 ⟨by decide, by decide⟩ (Nat.le_of_ble_eq_true rfl) ?_
  refine r_iconst hJ (v := (-1)) dX5_mayTake_8 (by decide) ?_
  refine r_icmp_eq hJ (tgt := 28) dX5_mayTake_9 (by decide) (fun c9 => ?_) (fun c9 => ?_)
  · refine r_iconst hJ (v := nI 0) dX5_mayTake_28 (by decide) ?_
    exact ret_z hF dX5_mayTake_29 (by decide) (by simp [mMayT, bI, c9] <;> rfl) rfl
  · refine r_aload_n hJ dX5_mayTake_12 rfl jg0 ?_
    refine r_g5_0 hJ m791 dX5_mayTake_13 ?_
    refine r_iload_n hJ dX5_mayTake_16 rfl jg1 ?_
    refine r_iconst hJ (v := nI 1) dX5_mayTake_17 (by decide) ?_
    refine r_S3v hJ kX5_58 (h5_hasRoom l E S x T (Or.inl rfl) hz (by omega) h (nI 1)) dX5_mayTake_18 ⟨by decide, by decide⟩ (Nat.le_of_ble_eq_true rfl) ?_
    refine r_if_eq hJ (tgt := 28) dX5_mayTake_21 (by decide) (fun c21 => ?_) (fun c21 => ?_)
    · have c21 : mRoom (T 1) z h (nI 1) = false := bI_0.mp c21
      refine r_iconst hJ (v := nI 0) dX5_mayTake_28 (by decide) ?_
      exact ret_z hF dX5_mayTake_29 (by decide) (by simp [mMayT, bI, c9, c21] <;> rfl) rfl
    · have c21 : mRoom (T 1) z h (nI 1) = true := bI_ne c21
      refine r_iconst hJ (v := nI 1) dX5_mayTake_24 (by decide) ?_
      refine r_goto hJ (tgt := 29) dX5_mayTake_25 (by decide) ?_
      exact ret_z hF dX5_mayTake_29 (by decide) (by simp [mMayT, bI, c9, c21] <;> rfl) rfl

set_option maxRecDepth 100000 in
set_option maxHeartbeats 1000000 in
theorem c5_takes (l : Launch) (E : jE) (S : jS) (x : jX) (T : jO) {z : Nat} (hM : MI (T 1) z) {h g : Nat} (hh : h < 8) (hg : g < 64) (hf : mFirst (T 1) (nI 1) z 0 0 = nI g) (u : Int32) : Ct l E yX5_takes cX5_takes 4 (some .int) 4 [.ref (ad E 10 0), .int (nI h), .int u] (setO S 10 T, x) (some (.int (nI g))) (setO S 10 (putA T 1 (mGives (T 1) g h u)), x) := by
  refine Ct.of (by decide +kernel) (Nat.le_refl _) (Nat.le_of_ble_eq_true rfl) rfl (fun J hJ hF => ?_)
  have hz := hM.1.1
  have hz6 := hM.1.2.2
  have hz4 := hM.1.2.1
  refine r_aload_n hJ dX5_takes_0 rfl jg0 ?_
  refine r_g5_0 hJ m791 dX5_takes_1 ?_
  refine r_iconst hJ (v := nI 1) dX5_takes_4 (by decide) ?_
  refine r_S2v hJ kX5_70 (h5_firstFree l E S x T (Or.inl rfl) hz (by omega) (nI 1)) dX5_takes_5 ⟨by decide, by decide⟩ (Nat.le_of_ble_eq_true rfl) ?_
  rw [hf]
  refine r_istore_n hJ dX5_takes_8 rfl (jp3 rfl rfl) ?_
  refine r_aload_n hJ dX5_takes_9 rfl jg0 ?_
  refine r_g5_0 hJ m791 dX5_takes_10 ?_
  refine r_iload_n hJ dX5_takes_13 rfl jg3 ?_
  refine r_iload_n hJ dX5_takes_14 rfl jg1 ?_
  refine r_iload_n hJ dX5_takes_15 rfl jg2 ?_
  refine r_S4u hJ kX5_62 (h5_gives l E S x T (Or.inl rfl) (n := g) (h := h) (by omega) hh u) dX5_takes_16 ⟨by decide, by decide⟩ (Nat.le_of_ble_eq_true rfl) ?_
  refine r_iload_n hJ dX5_takes_19 rfl jg3 ?_
  exact ret_i hF dX5_takes_20 rfl rfl

def mMayW (r : Nat → Int32) (z : Nat) (h : Int32) (n : Nat) : Bool := if mFree r n = true then mRoom r z h (nI 1) else !decide (nI 3 ≤ r ((32 + 12 * n) + 5)) && !decide (r ((32 + 12 * n)) = h) && (mWish r n h (toN (r ((32 + 12 * n) + 5)))).isNone
set_option maxRecDepth 100000 in
set_option maxHeartbeats 1000000 in
theorem c5_mayWish (l : Launch) (E : jE) (S : jS) (x : jX) (T : jO) {z : Nat} (hM : MI (T 1) z) {n : Nat} (hn : n < 64) (h : Int32) : Ct l E yX5_mayWish cX5_mayWish 3 (some .boolean) 4 [.ref (ad E 10 0), .int h, .int (nI n)] (setO S 10 T, x) (some (.int (bI (mMayW (T 1) z h n)))) (setO S 10 T, x) := by
  refine Ct.of (by decide +kernel) (Nat.le_refl _) (Nat.le_of_ble_eq_true rfl) rfl (fun J hJ hF => ?_)
  have hz := hM.1.1
  have hz6 := hM.1.2.2
  have hz4 := hM.1.2.1
  refine r_aload_n hJ dX5_mayWish_0 rfl jg0 ?_
  refine r_g5_0 hJ m791 dX5_mayWish_1 ?_
  refine r_iload_n hJ dX5_mayWish_4 rfl jg2 ?_
  refine r_S2v hJ kX5_43 (h5_isFree l E S x T (Or.inl rfl) (n := n) hn) dX5_mayWish_5 ⟨by decide, by decide⟩ (Nat.le_of_ble_eq_true rfl) ?_
  refine r_if_eq hJ (tgt := 21) dX5_mayWish_8 (by decide) (fun c8 => ?_) (fun c8 => ?_)
  · have c8 : mFree (T 1) n = false := bI_0.mp c8
    refine r_aload_n hJ dX5_mayWish_21 rfl jg0 ?_
    refine r_g5_0 hJ m791 dX5_mayWish_22 ?_
    refine r_iload_n hJ dX5_mayWish_25 rfl jg2 ?_
    refine r_S1v hJ kX5_40 (c5_row l E _ x n) dX5_mayWish_26 ⟨by decide, by decide⟩ (Nat.le_of_ble_eq_true rfl) ?_
    refine r_iconst hJ (v := nI 5) dX5_mayWish_29 (by decide) ?_
    refine r_iaddN hJ dX5_mayWish_30 ?_
    refine r_ialdO hJ (by omega) (alM1 (by omega)) rfl dX5_mayWish_31 ?_
    refine r_iconst hJ (v := nI 3) dX5_mayWish_32 (by decide) ?_
    refine r_icmp_ge hJ (tgt := 66) dX5_mayWish_33 (by decide) (fun c33 => ?_) (fun c33 => ?_)
    · refine r_iconst hJ (v := nI 0) dX5_mayWish_66 (by decide) ?_
      exact ret_z hF dX5_mayWish_67 (by decide) (by simp [mMayW, bI, nI0, nI1, c8, c33]) rfl
    · refine r_aload_n hJ dX5_mayWish_36 rfl jg0 ?_
      refine r_g5_0 hJ m791 dX5_mayWish_37 ?_
      refine r_iload_n hJ dX5_mayWish_40 rfl jg2 ?_
      refine r_S1v hJ kX5_40 (c5_row l E _ x n) dX5_mayWish_41 ⟨by decide, by decide⟩ (Nat.le_of_ble_eq_true rfl) ?_
      refine r_ialdO hJ (by omega) (alM1 (by omega)) rfl dX5_mayWish_44 ?_
      refine r_iload_n hJ dX5_mayWish_45 rfl jg1 ?_
      refine r_icmp_eq hJ (tgt := 66) dX5_mayWish_46 (by decide) (fun c46 => ?_) (fun c46 => ?_)
      · refine r_iconst hJ (v := nI 0) dX5_mayWish_66 (by decide) ?_
        exact ret_z hF dX5_mayWish_67 (by decide) (by simp [mMayW, bI, nI0, nI1, c8, c33, c46]) rfl
      · refine r_aload_n hJ dX5_mayWish_49 rfl jg0 ?_
        refine r_g5_0 hJ m791 dX5_mayWish_50 ?_
        refine r_iload_n hJ dX5_mayWish_53 rfl jg2 ?_
        refine r_iload_n hJ dX5_mayWish_54 rfl jg1 ?_
        obtain ⟨-, w, hw, hQ⟩ := hM.2 n hn
        refine r_S3v hJ kX5_90 (h5_wishOf l E S x T (Or.inl rfl) (n := n) hn hw hQ.1 h) dX5_mayWish_55 ⟨by decide, by decide⟩ (Nat.le_of_ble_eq_true rfl) ?_
        refine r_iconst hJ (v := (-1)) dX5_mayWish_58 (by decide) ?_
        refine r_icmp_ne hJ (tgt := 66) dX5_mayWish_59 (by decide) (fun c59 => ?_) (fun c59 => ?_)
        · rw [mWish_m1 hw] at c59
          have c59 := Option.isNone_eq_false_iff.mpr (Option.isSome_iff_ne_none.mpr c59)
          rw [← mQ_uniq hw hQ] at c59
          refine r_iconst hJ (v := nI 0) dX5_mayWish_66 (by decide) ?_
          exact ret_z hF dX5_mayWish_67 (by decide) (by simp [mMayW, bI, nI0, nI1, c8, c33, c46, c59]) rfl
        · rw [mWish_m1 hw] at c59
          rw [← mQ_uniq hw hQ] at c59
          refine r_iconst hJ (v := nI 1) dX5_mayWish_62 (by decide) ?_
          refine r_goto hJ (tgt := 67) dX5_mayWish_63 (by decide) ?_
          exact ret_z hF dX5_mayWish_67 (by decide) (by simp [mMayW, bI, nI0, nI1, c8, c33, c46, c59]) rfl
  · have c8 : mFree (T 1) n = true := bI_ne c8
    refine r_aload_n hJ dX5_mayWish_11 rfl jg0 ?_
    refine r_g5_0 hJ m791 dX5_mayWish_12 ?_
    refine r_iload_n hJ dX5_mayWish_15 rfl jg1 ?_
    refine r_iconst hJ (v := nI 1) dX5_mayWish_16 (by decide) ?_
    refine r_S3v hJ kX5_58 (h5_hasRoom l E S x T (Or.inl rfl) hz (by omega) h (nI 1)) dX5_mayWish_17 ⟨by decide, by decide⟩ (Nat.le_of_ble_eq_true rfl) ?_
    exact ret_z hF dX5_mayWish_20 (bI_nar _).1 (by simp [mMayW, c8]) rfl

def mWishes (r : Nat → Int32) (h n : Nat) (u : Int32) : (Nat → Int32) × Int32 := if mFree r n = true then (mGives r n h u, nI 0) else (mWaits r n (toN (r ((32 + 12 * n) + 5))) h u, mWaits r n (toN (r ((32 + 12 * n) + 5))) h u ((32 + 12 * n) + 5))
set_option maxRecDepth 100000 in
set_option maxHeartbeats 1000000 in
theorem c5_wishes (l : Launch) (E : jE) (S : jS) (x : jX) (T : jO) {z : Nat} (hM : MI (T 1) z) {n h : Nat} (hn : n < 64) (hh : h < 8) (hmw : mFree (T 1) n = false → toN (T 1 ((32 + 12 * n) + 5)) < 3) (u : Int32) : Ct l E yX5_wishes cX5_wishes 4 (some .int) 4 [.ref (ad E 10 0), .int (nI h), .int (nI n), .int u] (setO S 10 T, x) (some (.int (mWishes (T 1) h n u).2)) (setO S 10 (putA T 1 (mWishes (T 1) h n u).1), x) := by
  refine Ct.of (by decide +kernel) (Nat.le_refl _) (Nat.le_of_ble_eq_true rfl) rfl (fun J hJ hF => ?_)
  have hz := hM.1.1
  have hz6 := hM.1.2.2
  have hz4 := hM.1.2.1
  refine r_aload_n hJ dX5_wishes_0 rfl jg0 ?_
  refine r_g5_0 hJ m791 dX5_wishes_1 ?_
  refine r_iload_n hJ dX5_wishes_4 rfl jg2 ?_
  refine r_S2v hJ kX5_43 (h5_isFree l E S x T (Or.inl rfl) (n := n) hn) dX5_wishes_5 ⟨by decide, by decide⟩ (Nat.le_of_ble_eq_true rfl) ?_
  refine r_if_eq hJ (tgt := 23) dX5_wishes_8 (by decide) (fun c8 => ?_) (fun c8 => ?_)
  · have c8 : mFree (T 1) n = false := bI_0.mp c8
    refine r_aload_n hJ dX5_wishes_23 rfl jg0 ?_
    refine r_g5_0 hJ m791 dX5_wishes_24 ?_
    refine r_iload_n hJ dX5_wishes_27 rfl jg2 ?_
    refine r_iload_n hJ dX5_wishes_28 rfl jg1 ?_
    refine r_iload_n hJ dX5_wishes_29 rfl jg3 ?_
    obtain ⟨-, w, hw, hQ⟩ := hM.2 n hn
    have hwq := mQ_uniq hw hQ
    have hw3 := hmw c8
    rw [hwq] at hw3
    refine r_S4u hJ kX5_94 (h5_waits l E S x T (Or.inl rfl) (n := n) (h := h) hn hw3 hQ.1 u) dX5_wishes_30 ⟨by decide, by decide⟩ (Nat.le_of_ble_eq_true rfl) ?_
    rw [← hwq]
    refine r_aload_n hJ dX5_wishes_33 rfl jg0 ?_
    refine r_g5_0 hJ m791 dX5_wishes_34 ?_
    refine r_iload_n hJ dX5_wishes_37 rfl jg2 ?_
    refine r_S1v hJ kX5_40 (c5_row l E _ x n) dX5_wishes_38 ⟨by decide, by decide⟩ (Nat.le_of_ble_eq_true rfl) ?_
    refine r_iconst hJ (v := nI 5) dX5_wishes_41 (by decide) ?_
    refine r_iaddN hJ dX5_wishes_42 ?_
    refine r_ialdA hJ (alM1 (by omega)) rfl dX5_wishes_43 ?_
    exact ret_i hF dX5_wishes_44 (by simp [mWishes, c8]) (by simp [mWishes, c8])
  · have c8 : mFree (T 1) n = true := bI_ne c8
    refine r_aload_n hJ dX5_wishes_11 rfl jg0 ?_
    refine r_g5_0 hJ m791 dX5_wishes_12 ?_
    refine r_iload_n hJ dX5_wishes_15 rfl jg2 ?_
    refine r_iload_n hJ dX5_wishes_16 rfl jg1 ?_
    refine r_iload_n hJ dX5_wishes_17 rfl jg3 ?_
    refine r_S4u hJ kX5_62 (h5_gives l E S x T (Or.inl rfl) (n := n) (h := h) hn hh u) dX5_wishes_18 ⟨by decide, by decide⟩ (Nat.le_of_ble_eq_true rfl) ?_
    refine r_iconst hJ (v := nI 0) dX5_wishes_21 (by decide) ?_
    exact ret_i hF dX5_wishes_22 (by simp [mWishes, c8]) (by simp [mWishes, c8])
