/-! THE FLOATS AND THE DIGEST OF THE CLASS -/
def fulQ (z : Nat) (f : Int32) : UInt32 := FP.fdiv (FP.i2f (nI z - f)) (FP.i2f (nI z))
def scaD (lo f : Int32) : UInt32 := FP.fdiv (FP.i2f lo) (FP.i2f f)
def scaQ (lo f : Int32) : UInt32 := FP.fsub FP.fconst1 (scaD lo f)
def meaQ (u a : Int32) : UInt64 := FP.ddiv (FP.i2d u) (FP.i2d a)
def fulV (S : jS) (z : Nat) : Int32 := ofF (fulQ z (nI (freesP (S 0) z)))
def scaV (S : jS) (z : Nat) : Int32 := if freesP (S 0) z = 0 then nI 0 else ofF (scaQ (nI (longN (S 0) z z 0 0)) (nI (freesP (S 0) z)))
def meaV (S : jS) : UInt64 := if sumA (S 0 10) 8 = 0 then FP.dconst0 else meaQ (sumA (S 0 12) 8) (sumA (S 0 10) 8)
/-- the floats can be worked out -/
def fOK (S : jS) (z : Nat) : Prop :=
  (nn32 (fulQ z (nI (freesP (S 0) z))) = true ∧ okF (fulQ z (nI (freesP (S 0) z))) = true) ∧
  (¬ freesP (S 0) z = 0 → nn32 (scaD (nI (longN (S 0) z z 0 0)) (nI (freesP (S 0) z))) = true ∧ nn32 (scaQ (nI (longN (S 0) z z 0 0)) (nI (freesP (S 0) z))) = true ∧ okF (scaQ (nI (longN (S 0) z z 0 0)) (nI (freesP (S 0) z))) = true) ∧
  (¬ sumA (S 0 10) 8 = 0 → nn64 (meaQ (sumA (S 0 12) 8) (sumA (S 0 10) 8)) = true)
theorem nI_pos0 {n : Nat} (h0 : 0 < n) (h : n < 2 ^ 31) : (0 : Int32) < nI n := by
  rw [show (0 : Int32) = nI 0 from rfl]
  exact nI_lt h0 h
set_option maxRecDepth 100000 in
set_option maxHeartbeats 1000000 in
theorem c4_fullnessBits (l : Launch) (E : jE) (S : jS) (x : jX) {z : Nat} (hz : S 0 1 3 = nI z) (hz4 : z ≤ 64) (hz0 : 0 < z) (hf : fOK S z) : Ct l E yX4_fullnessBits cX4_fullnessBits 2 (some .int) 4 [.ref (ad E 11 0)] (S, x) (some (.int (fulV S z))) (S, x) := by
  refine Ct.of (by decide +kernel) (Nat.le_refl _) (Nat.le_of_ble_eq_true rfl) rfl (fun J hJ hF => ?_)
  refine r_aload_n hJ dX4_fullnessBits_0 rfl jg0 ?_
  refine r_g4_0 hJ m204 dX4_fullnessBits_1 ?_
  refine r_g2_4 hJ (by decide) m100 dX4_fullnessBits_4 ?_
  refine r_iconst hJ (v := nI 3) dX4_fullnessBits_7 (by decide) ?_
  refine r_iald hJ (by omega) (alP1 (by decide) (by omega)) rfl dX4_fullnessBits_8 ?_
  rw [hz]
  refine r_istore_n hJ dX4_fullnessBits_9 rfl (jp1 rfl rfl) ?_
  refine r_iload_n hJ dX4_fullnessBits_10 rfl jg1 ?_
  refine r_if_gt hJ (tgt := 16) dX4_fullnessBits_11 (by decide) (fun c11 => ?_) (fun c11 => ?_)
  · refine r_iload_n hJ dX4_fullnessBits_16 rfl jg1 ?_
    refine r_aload_n hJ dX4_fullnessBits_17 rfl jg0 ?_
    refine r_g4_0 hJ m204 dX4_fullnessBits_18 ?_
    refine r_V0v hJ kX4_236 (rcv2 E (by decide)) (g2_freeNumbers l E S x (o := 0) (by decide) hz hz4) dX4_fullnessBits_21 ⟨by decide, by decide⟩ (Nat.le_of_ble_eq_true rfl) ?_
    refine r_isub hJ dX4_fullnessBits_24 ?_
    refine r_i2f hJ dX4_fullnessBits_25 ?_
    refine r_iload_n hJ dX4_fullnessBits_26 rfl jg1 ?_
    refine r_i2f hJ dX4_fullnessBits_27 ?_
    refine r_fdiv hJ (nn_32 hf.1.1) dX4_fullnessBits_28 ?_
    refine r_S1o hJ koF (c0_ofFloat l E (S, x) _ hf.1.2) dX4_fullnessBits_29 ⟨by decide, by decide⟩ (Nat.le_of_ble_eq_true rfl) ?_
    exact ret_i hF dX4_fullnessBits_32 rfl rfl
  · exact absurd (show (0 : Int32) < nI z from nI_pos0 hz0 (by omega)) c11

set_option maxRecDepth 100000 in
set_option maxHeartbeats 1000000 in
theorem c4_scatterBits (l : Launch) (E : jE) (S : jS) (x : jX) {z : Nat} (hz : S 0 1 3 = nI z) (hz4 : z ≤ 64) (hf : fOK S z) : Ct l E yX4_scatterBits cX4_scatterBits 2 (some .int) 4 [.ref (ad E 11 0)] (S, x) (some (.int (scaV S z))) (S, x) := by
  refine Ct.of (by decide +kernel) (Nat.le_refl _) (Nat.le_of_ble_eq_true rfl) rfl (fun J hJ hF => ?_)
  refine r_aload_n hJ dX4_scatterBits_0 rfl jg0 ?_
  refine r_g4_0 hJ m204 dX4_scatterBits_1 ?_
  refine r_V0v hJ kX4_236 (rcv2 E (by decide)) (g2_freeNumbers l E S x (o := 0) (by decide) hz hz4) dX4_scatterBits_4 ⟨by decide, by decide⟩ (Nat.le_of_ble_eq_true rfl) ?_
  refine r_istore_n hJ dX4_scatterBits_7 rfl (jp1 rfl rfl) ?_
  refine r_iload_n hJ dX4_scatterBits_8 rfl jg1 ?_
  refine r_if_gt hJ (tgt := 17) dX4_scatterBits_9 (by decide) (fun c9 => ?_) (fun c9 => ?_)
  · have h0 : ¬ freesP (S 0) z = 0 := fun q => absurd (show (0 : Int32) < nI (freesP (S 0) z) from c9) (by rw [q]; decide)
    refine r_fconst1 hJ dX4_scatterBits_17 ?_
    refine r_aload_n hJ dX4_scatterBits_18 rfl jg0 ?_
    refine r_g4_0 hJ m204 dX4_scatterBits_19 ?_
    refine r_V0v hJ kX4_243 (rcv2 E (by decide)) (g2_longestRow l E S x (o := 0) (by decide) hz hz4) dX4_scatterBits_22 ⟨by decide, by decide⟩ (Nat.le_of_ble_eq_true rfl) ?_
    refine r_i2f hJ dX4_scatterBits_25 ?_
    refine r_iload_n hJ dX4_scatterBits_26 rfl jg1 ?_
    refine r_i2f hJ dX4_scatterBits_27 ?_
    refine r_fdiv hJ (nn_32 (hf.2.1 h0).1) dX4_scatterBits_28 ?_
    refine r_fsub hJ (nn_32 (hf.2.1 h0).2.1) dX4_scatterBits_29 ?_
    refine r_S1o hJ koF (c0_ofFloat l E (S, x) _ (hf.2.1 h0).2.2) dX4_scatterBits_30 ⟨by decide, by decide⟩ (Nat.le_of_ble_eq_true rfl) ?_
    exact ret_i hF dX4_scatterBits_33 (by unfold scaV; rw [if_neg h0]; rfl) rfl
  · have h0 : freesP (S 0) z = 0 := by
      rcases Nat.eq_zero_or_pos (freesP (S 0) z) with q | q
      · exact q
      · have h3 : freesP (S 0) z ≤ z := cnt_le _ z
        exact absurd (show (0 : Int32) < nI (freesP (S 0) z) from nI_pos0 q (by omega)) c9
    refine r_fconst0 hJ dX4_scatterBits_12 ?_
    refine r_S1o hJ koF (c0_ofFloat l E (S, x) FP.fconst0 (by decide +kernel)) dX4_scatterBits_13 ⟨by decide, by decide⟩ (Nat.le_of_ble_eq_true rfl) ?_
    exact ret_i hF dX4_scatterBits_16 (by unfold scaV; rw [if_pos h0, show ofF FP.fconst0 = nI 0 from by decide +kernel]) rfl

set_option maxRecDepth 100000 in
set_option maxHeartbeats 1000000 in
theorem c4_meanUnits (l : Launch) (E : jE) (S : jS) (x : jX) {z : Nat} (hf : fOK S z) : Ct l E yX4_meanUnits cX4_meanUnits 2 (some .double) 4 [.ref (ad E 11 0)] (S, x) (some (.double (meaV S))) (S, x) := by
  refine Ct.of (by decide +kernel) (Nat.le_refl _) (Nat.le_of_ble_eq_true rfl) rfl (fun J hJ hF => ?_)
  refine r_aload_n hJ dX4_meanUnits_0 rfl jg0 ?_
  refine r_g4_0 hJ m204 dX4_meanUnits_1 ?_
  refine r_g2_13 hJ (by decide) m112 dX4_meanUnits_4 ?_
  refine r_S1v hJ kX4_249 (c4_sum l E S x (o := 0) (j := 10) (n := 8) (by decide) (by decide) rfl) dX4_meanUnits_7 ⟨by decide, by decide⟩ (Nat.le_of_ble_eq_true rfl) ?_
  refine r_istore_n hJ dX4_meanUnits_10 rfl (jp1 rfl rfl) ?_
  refine r_iload_n hJ dX4_meanUnits_11 rfl jg1 ?_
  refine r_if_ne hJ (tgt := 17) dX4_meanUnits_12 (by decide) (fun c12 => ?_) (fun c12 => ?_)
  · refine r_aload_n hJ dX4_meanUnits_17 rfl jg0 ?_
    refine r_g4_0 hJ m204 dX4_meanUnits_18 ?_
    refine r_g2_15 hJ (by decide) m115 dX4_meanUnits_21 ?_
    refine r_S1v hJ kX4_249 (c4_sum l E S x (o := 0) (j := 12) (n := 8) (by decide) (by decide) rfl) dX4_meanUnits_24 ⟨by decide, by decide⟩ (Nat.le_of_ble_eq_true rfl) ?_
    refine r_i2d hJ dX4_meanUnits_27 ?_
    refine r_iload_n hJ dX4_meanUnits_28 rfl jg1 ?_
    refine r_i2d hJ dX4_meanUnits_29 ?_
    refine r_ddiv hJ (nn_64 (hf.2.2 c12)) dX4_meanUnits_30 ?_
    exact ret_d hF dX4_meanUnits_31 (by unfold meaV; rw [if_neg c12]; rfl) rfl
  · refine r_dconst0 hJ dX4_meanUnits_15 ?_
    exact ret_d hF dX4_meanUnits_16 (by unfold meaV; rw [if_pos c12]) rfl

set_option maxRecDepth 100000 in
set_option maxHeartbeats 1000000 in
theorem c4_fullness (l : Launch) (E : jE) (S : jS) (x : jX) {z : Nat} (hz : S 0 1 3 = nI z) (hz4 : z ≤ 64) (hz0 : 0 < z) (hf : fOK S z) : Ct l E yX4_fullness cX4_fullness 1 (some .int) 5 [.ref (ad E 11 0)] (S, x) (some (.int (fulV S z))) (S, x) := by
  refine Ct.of (by decide +kernel) (Nat.le_refl _) (Nat.le_of_ble_eq_true rfl) rfl (fun J hJ hF => ?_)
  refine r_aload_n hJ dX4_fullness_0 rfl jg0 ?_
  refine r_V0v hJ kX4_160 (rcv4 E) (c4_fullnessBits l E S x hz hz4 hz0 hf) dX4_fullness_1 ⟨by decide, by decide⟩ (Nat.le_of_ble_eq_true rfl) ?_
  exact ret_i hF dX4_fullness_4 rfl rfl

set_option maxRecDepth 100000 in
set_option maxHeartbeats 1000000 in
theorem c4_scatter (l : Launch) (E : jE) (S : jS) (x : jX) {z : Nat} (hz : S 0 1 3 = nI z) (hz4 : z ≤ 64) (hf : fOK S z) : Ct l E yX4_scatter cX4_scatter 1 (some .int) 5 [.ref (ad E 11 0)] (S, x) (some (.int (scaV S z))) (S, x) := by
  refine Ct.of (by decide +kernel) (Nat.le_refl _) (Nat.le_of_ble_eq_true rfl) rfl (fun J hJ hF => ?_)
  refine r_aload_n hJ dX4_scatter_0 rfl jg0 ?_
  refine r_V0v hJ kX4_164 (rcv4 E) (c4_scatterBits l E S x hz hz4 hf) dX4_scatter_1 ⟨by decide, by decide⟩ (Nat.le_of_ble_eq_true rfl) ?_
  exact ret_i hF dX4_scatter_4 rfl rfl

set_option maxRecDepth 100000 in
set_option maxHeartbeats 1000000 in
theorem c4_meanHeld (l : Launch) (E : jE) (S : jS) (x : jX) {z : Nat} (hf : fOK S z) : Ct l E yX4_meanHeld cX4_meanHeld 1 (some .double) 5 [.ref (ad E 11 0)] (S, x) (some (.double (meaV S))) (S, x) := by
  refine Ct.of (by decide +kernel) (Nat.le_refl _) (Nat.le_of_ble_eq_true rfl) rfl (fun J hJ hF => ?_)
  refine r_aload_n hJ dX4_meanHeld_0 rfl jg0 ?_
  refine r_V0v hJ kX4_167 (rcv4 E) (c4_meanUnits l E S x  hf) dX4_meanHeld_1 ⟨by decide, by decide⟩ (Nat.le_of_ble_eq_true rfl) ?_
  exact ret_d hF dX4_meanHeld_4 rfl rfl

def dg1 (h : Int64) (v : Int32) : Int64 := 31 * h + v.toInt64
def dgL (f : Nat → Int32) : Nat → Nat → Int64 → Int64
  | 0, _, h => h
  | k + 1, i, h => dgL f k (i + 1) (dg1 h (f i))
def dgO (g : Nat → Int64 → Int64) : Nat → Nat → Int64 → Int64
  | 0, _, h => h
  | k + 1, i, h => dgO g k (i + 1) (g i h)
def ahA (S : jS) : Nat → Nat → jO → jO
  | 0, _, A => A
  | k + 1, i, A => ahA S k (i + 1) (wishT (setO S 1 A) i 0).2
def dgN (S : jS) (z : Nat) (h : Int64) : Int64 := dgO (fun n h => dgL (ofN (S 0) n) 9 0 h) z 0 h
def dgH (S : jS) (h : Int64) : Int64 := dgO (fun k h => dg1 (dgL (ofH (S 0) k) 8 0 h) (wishT S k 0).1) 8 0 h
def dgS (S : jS) (z : Nat) (h : Int64) : Int64 := dgO (fun k h => dg1 (dg1 h (ofSp (S 0) z (nI k) (nI 0))) (ofSp (S 0) z (nI k) (nI 1))) (cnt (stS (S 0)) z) 0 h
def dgB (S : jS) (h : Int64) : Int64 := dgL (sgA (S 8)) (lenQ (S 8)) 0 (dg1 h (S 8 0 0))
def dgA (S : jS) (z : Nat) : jO := (freeT (setO S 1 (leapN (S 0 0 0 + nI 20) 20 (S 0))) z (nI 4)).2
def digV (S : jS) (z : Nat) : Int64 :=
  let h1 := dgL (S 0 1) 4 0 (dgL (cntA S z) 13 0 2579)
  let h2 := dgS S z (dgH S (dgN S z h1))
  let h3 := dg1 (dg1 h2 (leapN (S 0 0 0 + nI 20) 20 (S 0) 2 0)) (freeT S z (nI 4)).1
  dgB S (31 * dg1 (dg1 h3 (fulV S z)) (scaV S z) + ofD (meaV S))
theorem wishT_0 (S : jS) (A : jO) (h n : Nat) : (wishT (setO S 1 A) h n).1 = (wishT S h n).1 := by
  have e : setO S 1 A 0 = S 0 := setO_ne (by decide)
  unfold wishT
  rw [e]
  split
  · rfl
  · split
    · split <;> rfl
    · rfl
theorem freeT_0 (S : jS) (A : jO) (z : Nat) (m : Int32) : (freeT (setO S 1 A) z m).1 = (freeT S z m).1 := by
  have e : setO S 1 A 0 = S 0 := setO_ne (by decide)
  unfold freeT
  rw [e]
  split <;> rfl
set_option maxRecDepth 100000 in
set_option maxHeartbeats 1000000 in
theorem c4_addNumbers (l : Launch) (E : jE) (S : jS) (x : jX) {z : Nat} (hz : S 0 1 3 = nI z) (hz4 : z ≤ 64) (s : Int64) : Ct l E yX4_addNumbers cX4_addNumbers 7 (some .long) 4 [.ref (ad E 11 0), .long s] (S, x) (some (.long (dgN S z s))) (S, x) := by
  refine Ct.of (by decide +kernel) (Nat.le_refl _) (Nat.le_of_ble_eq_true rfl) rfl (fun J hJ hF => ?_)
  have inn : ∀ (n : Nat) (h0 : Int64), n < z → (∀ (hE : Int64) (v6 : Option Value), nc2 v6 = true → hE = dgL (ofN (S 0) n) 9 0 h0 → J (S, x) 54 [some (.ref (ad E 11 0)), some (.long s), none, some (.long hE), none, some (.int (nI n)), v6] []) → ∀ (k q : Nat) (h : Int64), q + k = 9 → dgL (ofN (S 0) n) k q h = dgL (ofN (S 0) n) 9 0 h0 → J (S, x) 22 [some (.ref (ad E 11 0)), some (.long s), none, some (.long h), none, some (.int (nI n)), some (.int (nI q))] [] := by
    intro n h0 hn hk k
    induction k with
    | zero =>
      intro q h hi he
      obtain rfl : q = 9 := by omega
      refine r_iload hJ dX4_addNumbers_22 jg6 ?_
      refine r_bipush hJ (v := nI 8) dX4_addNumbers_24 (by decide) ?_
      refine r_icmp_gt hJ (tgt := 54) dX4_addNumbers_26 (by decide) (fun c26 => ?_) (fun c26 => ?_)
      · exact hk h _ rfl he
      · exact absurd (show nI 8 < nI 9 from by decide) c26
    | succ k ih =>
      intro q h hi he
      refine r_iload hJ dX4_addNumbers_22 jg6 ?_
      refine r_bipush hJ (v := nI 8) dX4_addNumbers_24 (by decide) ?_
      refine r_icmp_gt hJ (tgt := 54) dX4_addNumbers_26 (by decide) (fun c26 => ?_) (fun c26 => ?_)
      · exact absurd (show nI 8 < nI q from c26) (nI_nlt (by omega) (by decide))
      · refine r_ldc2 hJ m322 dX4_addNumbers_29 ?_
        refine r_lload_n hJ dX4_addNumbers_32 rfl jg3 ?_
        refine r_lmul hJ dX4_addNumbers_33 ?_
        refine r_aload_n hJ dX4_addNumbers_34 rfl jg0 ?_
        refine r_g4_0 hJ m204 dX4_addNumbers_35 ?_
        refine r_iload hJ dX4_addNumbers_38 jg5 ?_
        refine r_iload hJ dX4_addNumbers_40 jg6 ?_
        refine r_V2v hJ kX4_139 (rcv2 E (by decide)) (g2_ofNumber l E S x (o := 0) (by decide) (n := n) (by omega) (q := q) (by omega)) dX4_addNumbers_42 ⟨by decide, by decide⟩ (Nat.le_of_ble_eq_true rfl) ?_
        refine r_i2l hJ dX4_addNumbers_45 rfl ?_
        refine r_ladd hJ dX4_addNumbers_46 ?_
        refine r_lstore_n hJ dX4_addNumbers_47 rfl (jq3 rfl rfl) ?_
        refine r_iinc hJ dX4_addNumbers_48 jg6 (ii1 _) (jp6 rfl rfl) ?_
        refine r_goto hJ (tgt := 22) dX4_addNumbers_51 (by decide) ?_
        exact ih (q + 1) _ (by omega) (by rw [← he]; rfl)
  have loop : ∀ (k n : Nat) (h : Int64) (v6 : Option Value), n + k = z → nc2 v6 = true → dgO (fun n h => dgL (ofN (S 0) n) 9 0 h) k n h = dgN S z s → J (S, x) 5 [some (.ref (ad E 11 0)), some (.long s), none, some (.long h), none, some (.int (nI n)), v6] [] := by
    intro k
    induction k with
    | zero =>
      intro n h v6 hi h6 he
      obtain rfl : n = z := by omega
      refine r_iload hJ dX4_addNumbers_5 jg5 ?_
      refine r_aload_n hJ dX4_addNumbers_7 rfl jg0 ?_
      refine r_g4_0 hJ m204 dX4_addNumbers_8 ?_
      refine r_g2_4 hJ (by decide) m100 dX4_addNumbers_11 ?_
      refine r_iconst hJ (v := nI 3) dX4_addNumbers_14 (by decide) ?_
      refine r_iald hJ (by omega) (alP1 (by decide) (by omega)) rfl dX4_addNumbers_15 ?_
      rw [hz]
      refine r_icmp_ge hJ (tgt := 60) dX4_addNumbers_16 (by decide) (fun c16 => ?_) (fun c16 => ?_)
      · refine r_lload_n hJ dX4_addNumbers_60 rfl jg3 ?_
        exact ret_l hF dX4_addNumbers_61 (by rw [← he]; rfl) rfl
      · exact absurd (nI_le (by omega) (by omega)) c16
    | succ k ih =>
      intro n h v6 hi h6 he
      refine r_iload hJ dX4_addNumbers_5 jg5 ?_
      refine r_aload_n hJ dX4_addNumbers_7 rfl jg0 ?_
      refine r_g4_0 hJ m204 dX4_addNumbers_8 ?_
      refine r_g2_4 hJ (by decide) m100 dX4_addNumbers_11 ?_
      refine r_iconst hJ (v := nI 3) dX4_addNumbers_14 (by decide) ?_
      refine r_iald hJ (by omega) (alP1 (by decide) (by omega)) rfl dX4_addNumbers_15 ?_
      rw [hz]
      refine r_icmp_ge hJ (tgt := 60) dX4_addNumbers_16 (by decide) (fun c16 => ?_) (fun c16 => ?_)
      · exact absurd c16 (nI_ge (by omega) (by omega))
      · refine r_iconst hJ (v := nI 0) dX4_addNumbers_19 (by decide) ?_
        refine r_istore hJ dX4_addNumbers_20 (jp6 rfl rfl) ?_
        exact inn n h (by omega) (fun hE v6 h6 hEe => by
          refine r_iinc hJ dX4_addNumbers_54 jg5 (ii1 _) (jp5 rfl rfl) ?_
          refine r_goto hJ (tgt := 5) dX4_addNumbers_57 (by decide) ?_
          exact ih (n + 1) hE v6 (by omega) h6 (by rw [← he, hEe]; rfl)) 9 0 h rfl rfl
  refine r_lload_n hJ dX4_addNumbers_0 rfl jg1 ?_
  refine r_lstore_n hJ dX4_addNumbers_1 rfl (jq3 rfl rfl) ?_
  refine r_iconst hJ (v := nI 0) dX4_addNumbers_2 (by decide) ?_
  refine r_istore hJ dX4_addNumbers_3 (jp5 rfl rfl) ?_
  exact loop z 0 s none (by omega) rfl rfl

set_option maxRecDepth 100000 in
set_option maxHeartbeats 1000000 in
theorem c4_addHolders (l : Launch) (E : jE) (S : jS) (x : jX) (hP : PI (S 0)) (s : Int64) : Ct l E yX4_addHolders cX4_addHolders 7 (some .long) 7 [.ref (ad E 11 0), .long s] (S, x) (some (.long (dgH S s))) (setO S 1 (ahA S 8 0 (S 1)), x) := by
  refine Ct.of (by decide +kernel) (Nat.le_refl _) (Nat.le_of_ble_eq_true rfl) rfl (fun J hJ hF => ?_)
  obtain ⟨w, hw3, hw, -⟩ := hP.2.2 0 (by decide)
  have inn : ∀ (n : Nat) (A : jO) (h0 : Int64), n < 8 → (∀ (hE : Int64) (v6 : Option Value), nc2 v6 = true → hE = dgL (ofH (S 0) n) 8 0 h0 → J (setO S 1 A, x) 47 [some (.ref (ad E 11 0)), some (.long s), none, some (.long hE), none, some (.int (nI n)), v6] []) → ∀ (k q : Nat) (h : Int64), q + k = 8 → dgL (ofH (S 0) n) k q h = dgL (ofH (S 0) n) 8 0 h0 → J (setO S 1 A, x) 15 [some (.ref (ad E 11 0)), some (.long s), none, some (.long h), none, some (.int (nI n)), some (.int (nI q))] [] := by
    intro n A h0 hn hk k
    induction k with
    | zero =>
      intro q h hi he
      obtain rfl : q = 8 := by omega
      refine r_iload hJ dX4_addHolders_15 jg6 ?_
      refine r_bipush hJ (v := nI 7) dX4_addHolders_17 (by decide) ?_
      refine r_icmp_gt hJ (tgt := 47) dX4_addHolders_19 (by decide) (fun c19 => ?_) (fun c19 => ?_)
      · exact hk h _ rfl he
      · exact absurd (show nI 7 < nI 8 from by decide) c19
    | succ k ih =>
      intro q h hi he
      refine r_iload hJ dX4_addHolders_15 jg6 ?_
      refine r_bipush hJ (v := nI 7) dX4_addHolders_17 (by decide) ?_
      refine r_icmp_gt hJ (tgt := 47) dX4_addHolders_19 (by decide) (fun c19 => ?_) (fun c19 => ?_)
      · exact absurd (show nI 7 < nI q from c19) (nI_nlt (by omega) (by decide))
      · refine r_ldc2 hJ m322 dX4_addHolders_22 ?_
        refine r_lload_n hJ dX4_addHolders_25 rfl jg3 ?_
        refine r_lmul hJ dX4_addHolders_26 ?_
        refine r_aload_n hJ dX4_addHolders_27 rfl jg0 ?_
        refine r_g4_0 hJ m204 dX4_addHolders_28 ?_
        refine r_iload hJ dX4_addHolders_31 jg5 ?_
        refine r_iload hJ dX4_addHolders_33 jg6 ?_
        have hoh := g2_ofHolder l E (setO S 1 A) x (o := 0) (by decide) (by rw [setO_ne (by decide)]; exact hP) (h := n) hn (q := q) (by omega)
        rw [show setO S 1 A 0 = S 0 from setO_ne (by decide)] at hoh
        refine r_V2v hJ kX4_142 (rcv2 E (by decide)) (hoh) dX4_addHolders_35 ⟨by decide, by decide⟩ (Nat.le_of_ble_eq_true rfl) ?_
        refine r_i2l hJ dX4_addHolders_38 rfl ?_
        refine r_ladd hJ dX4_addHolders_39 ?_
        refine r_lstore_n hJ dX4_addHolders_40 rfl (jq3 rfl rfl) ?_
        refine r_iinc hJ dX4_addHolders_41 jg6 (ii1 _) (jp6 rfl rfl) ?_
        refine r_goto hJ (tgt := 15) dX4_addHolders_44 (by decide) ?_
        exact ih (q + 1) _ (by omega) (by rw [← he]; rfl)
  have loop : ∀ (k n : Nat) (A : jO) (h : Int64) (v6 : Option Value), n + k = 8 → nc2 v6 = true → dgO (fun k h => dg1 (dgL (ofH (S 0) k) 8 0 h) (wishT S k 0).1) k n h = dgH S s → ahA S k n A = ahA S 8 0 (S 1) → J (setO S 1 A, x) 5 [some (.ref (ad E 11 0)), some (.long s), none, some (.long h), none, some (.int (nI n)), v6] [] := by
    intro k
    induction k with
    | zero =>
      intro n A h v6 hi h6 he hA
      obtain rfl : n = 8 := by omega
      refine r_iload hJ dX4_addHolders_5 jg5 ?_
      refine r_bipush hJ (v := nI 8) dX4_addHolders_7 (by decide) ?_
      refine r_icmp_ge hJ (tgt := 68) dX4_addHolders_9 (by decide) (fun c9 => ?_) (fun c9 => ?_)
      · refine r_lload_n hJ dX4_addHolders_68 rfl jg3 ?_
        exact ret_l hF dX4_addHolders_69 (by rw [← he]; rfl) (by rw [← hA]; rfl)
      · exact absurd (nI_le (by omega) (by omega)) c9
    | succ k ih =>
      intro n A h v6 hi h6 he hA
      refine r_iload hJ dX4_addHolders_5 jg5 ?_
      refine r_bipush hJ (v := nI 8) dX4_addHolders_7 (by decide) ?_
      refine r_icmp_ge hJ (tgt := 68) dX4_addHolders_9 (by decide) (fun c9 => ?_) (fun c9 => ?_)
      · exact absurd c9 (nI_ge (by omega) (by omega))
      · refine r_iconst hJ (v := nI 0) dX4_addHolders_12 (by decide) ?_
        refine r_istore hJ dX4_addHolders_13 (jp6 rfl rfl) ?_
        exact inn n A h (by omega) (fun hE v6 h6 hEe => by
          refine r_ldc2 hJ m322 dX4_addHolders_47 ?_
          refine r_lload_n hJ dX4_addHolders_50 rfl jg3 ?_
          refine r_lmul hJ dX4_addHolders_51 ?_
          refine r_aload_n hJ dX4_addHolders_52 rfl jg0 ?_
          refine r_iload hJ dX4_addHolders_53 jg5 ?_
          refine r_iconst hJ (v := nI 0) dX4_addHolders_55 (by decide) ?_
          have e0 : setO S 1 A 0 = S 0 := setO_ne (by decide)
          have htw := c4_timeToWished l E (setO S 1 A) x (by rw [e0]; exact hP) (h := n) (by omega) (n := 0) (by decide) hw3 (by rw [e0]; exact hw)
          rw [wishT_0, setO_two] at htw
          refine r_V2v hJ kX4_157 (rcv4 E) (htw) dX4_addHolders_56 ⟨by decide, by decide⟩ (Nat.le_of_ble_eq_true rfl) ?_
          refine r_i2l hJ dX4_addHolders_59 rfl ?_
          refine r_ladd hJ dX4_addHolders_60 ?_
          refine r_lstore_n hJ dX4_addHolders_61 rfl (jq3 rfl rfl) ?_
          refine r_iinc hJ dX4_addHolders_62 jg5 (ii1 _) (jp5 rfl rfl) ?_
          refine r_goto hJ (tgt := 5) dX4_addHolders_65 (by decide) ?_
          exact ih (n + 1) _ _ _ (by omega) h6 (by rw [← he, hEe]; rfl) (by rw [← hA]; rfl)) 8 0 h rfl rfl
  refine r_lload_n hJ dX4_addHolders_0 rfl jg1 ?_
  refine r_lstore_n hJ dX4_addHolders_1 rfl (jq3 rfl rfl) ?_
  refine r_iconst hJ (v := nI 0) dX4_addHolders_2 (by decide) ?_
  refine r_istore hJ dX4_addHolders_3 (jp5 rfl rfl) ?_
  have hl := loop 8 0 (S 1) s none rfl rfl rfl rfl
  rw [setO_self] at hl
  exact hl

set_option maxRecDepth 100000 in
set_option maxHeartbeats 1000000 in
theorem c4_addSpans (l : Launch) (E : jE) (S : jS) (x : jX) {z : Nat} (hz : S 0 1 3 = nI z) (hz4 : z ≤ 64) (s : Int64) : Ct l E yX4_addSpans cX4_addSpans 7 (some .long) 4 [.ref (ad E 11 0), .long s] (S, x) (some (.long (dgS S z s))) (S, x) := by
  refine Ct.of (by decide +kernel) (Nat.le_refl _) (Nat.le_of_ble_eq_true rfl) rfl (fun J hJ hF => ?_)
  obtain ⟨m, hm⟩ : ∃ m, cnt (stS (S 0)) z = m := ⟨_, rfl⟩
  have hm4 : m ≤ z := by rw [← hm]; exact cnt_le _ z
  have loop : ∀ (k i : Nat) (h : Int64), i + k = m → dgO (fun k h => dg1 (dg1 h (ofSp (S 0) z (nI k) (nI 0))) (ofSp (S 0) z (nI k) (nI 1))) k i h = dgS S z s → J (S, x) 14 [some (.ref (ad E 11 0)), some (.long s), none, some (.long h), none, some (.int (nI m)), some (.int (nI i))] [] := by
    intro k
    induction k with
    | zero =>
      intro i h hi he
      obtain rfl : i = m := by omega
      refine r_iload hJ dX4_addSpans_14 jg6 ?_
      refine r_iload hJ dX4_addSpans_16 jg5 ?_
      refine r_icmp_ge hJ (tgt := 63) dX4_addSpans_18 (by decide) (fun c18 => ?_) (fun c18 => ?_)
      · refine r_lload_n hJ dX4_addSpans_63 rfl jg3 ?_
        exact ret_l hF dX4_addSpans_64 (by rw [← he]; rfl) rfl
      · exact absurd (nI_le (by omega) (by omega)) c18
    | succ k ih =>
      intro i h hi he
      refine r_iload hJ dX4_addSpans_14 jg6 ?_
      refine r_iload hJ dX4_addSpans_16 jg5 ?_
      refine r_icmp_ge hJ (tgt := 63) dX4_addSpans_18 (by decide) (fun c18 => ?_) (fun c18 => ?_)
      · exact absurd c18 (nI_ge (by omega) (by omega))
      · refine r_ldc2 hJ m322 dX4_addSpans_21 ?_
        refine r_lload_n hJ dX4_addSpans_24 rfl jg3 ?_
        refine r_lmul hJ dX4_addSpans_25 ?_
        refine r_aload_n hJ dX4_addSpans_26 rfl jg0 ?_
        refine r_g4_0 hJ m204 dX4_addSpans_27 ?_
        refine r_iload hJ dX4_addSpans_30 jg6 ?_
        refine r_iconst hJ (v := nI 0) dX4_addSpans_32 (by decide) ?_
        refine r_V2v hJ kX4_145 (rcv2 E (by decide)) (g2_ofSpan l E S x (o := 0) (by decide) hz hz4 (nI i) (nI 0)) dX4_addSpans_33 ⟨by decide, by decide⟩ (Nat.le_of_ble_eq_true rfl) ?_
        refine r_i2l hJ dX4_addSpans_36 rfl ?_
        refine r_ladd hJ dX4_addSpans_37 ?_
        refine r_lstore_n hJ dX4_addSpans_38 rfl (jq3 rfl rfl) ?_
        refine r_ldc2 hJ m322 dX4_addSpans_39 ?_
        refine r_lload_n hJ dX4_addSpans_42 rfl jg3 ?_
        refine r_lmul hJ dX4_addSpans_43 ?_
        refine r_aload_n hJ dX4_addSpans_44 rfl jg0 ?_
        refine r_g4_0 hJ m204 dX4_addSpans_45 ?_
        refine r_iload hJ dX4_addSpans_48 jg6 ?_
        refine r_iconst hJ (v := nI 1) dX4_addSpans_50 (by decide) ?_
        refine r_V2v hJ kX4_145 (rcv2 E (by decide)) (g2_ofSpan l E S x (o := 0) (by decide) hz hz4 (nI i) (nI 1)) dX4_addSpans_51 ⟨by decide, by decide⟩ (Nat.le_of_ble_eq_true rfl) ?_
        refine r_i2l hJ dX4_addSpans_54 rfl ?_
        refine r_ladd hJ dX4_addSpans_55 ?_
        refine r_lstore_n hJ dX4_addSpans_56 rfl (jq3 rfl rfl) ?_
        refine r_iinc hJ dX4_addSpans_57 jg6 (ii1 _) (jp6 rfl rfl) ?_
        refine r_goto hJ (tgt := 14) dX4_addSpans_60 (by decide) ?_
        exact ih (i + 1) _ (by omega) (by rw [← he]; rfl)
  refine r_lload_n hJ dX4_addSpans_0 rfl jg1 ?_
  refine r_lstore_n hJ dX4_addSpans_1 rfl (jq3 rfl rfl) ?_
  refine r_aload_n hJ dX4_addSpans_2 rfl jg0 ?_
  refine r_g4_0 hJ m204 dX4_addSpans_3 ?_
  refine r_V0v hJ kX4_256 (rcv2 E (by decide)) (g2_spans l E S x (o := 0) (by decide) hz hz4) dX4_addSpans_6 ⟨by decide, by decide⟩ (Nat.le_of_ble_eq_true rfl) ?_
  rw [hm]
  refine r_istore hJ dX4_addSpans_9 (jp5 rfl rfl) ?_
  refine r_iconst hJ (v := nI 0) dX4_addSpans_11 (by decide) ?_
  refine r_istore hJ dX4_addSpans_12 (jp6 rfl rfl) ?_
  exact loop m 0 s (by omega) (by unfold dgS; rw [hm])

set_option maxRecDepth 100000 in
set_option maxHeartbeats 1000000 in
theorem c4_addBuffer (l : Launch) (E : jE) (S : jS) (x : jX) (hQ : OI (S 8)) (s : Int64) : Ct l E yX4_addBuffer cX4_addBuffer 6 (some .long) 2 [.ref (ad E 11 0), .long s] (S, x) (some (.long (dgB S s))) (S, x) := by
  refine Ct.of (by decide +kernel) (Nat.le_refl _) (Nat.le_of_ble_eq_true rfl) rfl (fun J hJ hF => ?_)
  obtain ⟨hl1, hl2⟩ := OI_len hQ
  obtain ⟨m, hm⟩ : ∃ m, lenQ (S 8) = m := ⟨_, rfl⟩
  rw [hm] at hl1 hl2
  have loop : ∀ (k i : Nat) (h : Int64), i + k = m → dgL (sgA (S 8)) k i h = dgB S s → J (S, x) 18 [some (.ref (ad E 11 0)), some (.long s), none, some (.long h), none, some (.int (nI i))] [] := by
    intro k
    induction k with
    | zero =>
      intro i h hi he
      obtain rfl : i = m := by omega
      refine r_iload hJ dX4_addBuffer_18 jg5 ?_
      refine r_aload_n hJ dX4_addBuffer_20 rfl jg0 ?_
      refine r_g4_3 hJ m207 dX4_addBuffer_21 ?_
      refine r_g1_1 hJ m175 dX4_addBuffer_24 ?_
      rw [hl2]
      refine r_icmp_ge hJ (tgt := 53) dX4_addBuffer_27 (by decide) (fun c27 => ?_) (fun c27 => ?_)
      · refine r_lload_n hJ dX4_addBuffer_53 rfl jg3 ?_
        exact ret_l hF dX4_addBuffer_54 (by rw [← he]; rfl) rfl
      · exact absurd (nI_le (by omega) (by omega)) c27
    | succ k ih =>
      intro i h hi he
      refine r_iload hJ dX4_addBuffer_18 jg5 ?_
      refine r_aload_n hJ dX4_addBuffer_20 rfl jg0 ?_
      refine r_g4_3 hJ m207 dX4_addBuffer_21 ?_
      refine r_g1_1 hJ m175 dX4_addBuffer_24 ?_
      rw [hl2]
      refine r_icmp_ge hJ (tgt := 53) dX4_addBuffer_27 (by decide) (fun c27 => ?_) (fun c27 => ?_)
      · exact absurd c27 (nI_ge (by omega) (by omega))
      · refine r_ldc2 hJ m322 dX4_addBuffer_30 ?_
        refine r_lload_n hJ dX4_addBuffer_33 rfl jg3 ?_
        refine r_lmul hJ dX4_addBuffer_34 ?_
        refine r_aload_n hJ dX4_addBuffer_35 rfl jg0 ?_
        refine r_g4_3 hJ m207 dX4_addBuffer_36 ?_
        refine r_iload hJ dX4_addBuffer_39 jg5 ?_
        refine r_V1v hJ kX4_259 (rcv1 E) (g1_signAt l E S x hQ (i := i) (by omega)) dX4_addBuffer_41 ⟨by decide, by decide⟩ (Nat.le_of_ble_eq_true rfl) ?_
        refine r_i2l hJ dX4_addBuffer_44 rfl ?_
        refine r_ladd hJ dX4_addBuffer_45 ?_
        refine r_lstore_n hJ dX4_addBuffer_46 rfl (jq3 rfl rfl) ?_
        refine r_iinc hJ dX4_addBuffer_47 jg5 (ii1 _) (jp5 rfl rfl) ?_
        refine r_goto hJ (tgt := 18) dX4_addBuffer_50 (by decide) ?_
        exact ih (i + 1) _ (by omega) (by rw [← he]; rfl)
  refine r_ldc2 hJ m322 dX4_addBuffer_0 ?_
  refine r_lload_n hJ dX4_addBuffer_3 rfl jg1 ?_
  refine r_lmul hJ dX4_addBuffer_4 ?_
  refine r_aload_n hJ dX4_addBuffer_5 rfl jg0 ?_
  refine r_g4_3 hJ m207 dX4_addBuffer_6 ?_
  refine r_g1_1 hJ m175 dX4_addBuffer_9 ?_
  refine r_i2l hJ dX4_addBuffer_12 rfl ?_
  refine r_ladd hJ dX4_addBuffer_13 ?_
  refine r_lstore_n hJ dX4_addBuffer_14 rfl (jq3 rfl rfl) ?_
  refine r_iconst hJ (v := nI 0) dX4_addBuffer_15 (by decide) ?_
  refine r_istore hJ dX4_addBuffer_16 (jp5 rfl rfl) ?_
  exact loop m 0 _ (by omega) (by unfold dgB; rw [hm]; rfl)
