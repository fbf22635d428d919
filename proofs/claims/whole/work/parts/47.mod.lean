/-! THE FLOATS AND THE DIGEST OF THE MODEL -/
def mFr (r : Nat → Int32) (z : Nat) : Nat := cnt (fun n => decide (mStg r n = nI 0)) z
def mFul (r : Nat → Int32) (z : Nat) : UInt32 := fulQ z (nI (mFr r z))
def mSca (r : Nat → Int32) (z : Nat) : UInt32 := if mFr r z = 0 then FP.fconst0 else scaQ (mSpans r z (nI 0) (nI 1)) (nI (mFr r z))
def mMea (r : Nat → Int32) : UInt64 := if mSum r 8 1 8 = 0 then FP.dconst0 else meaQ (mSum r 24 1 8) (mSum r 8 1 8)
def mfOK (r : Nat → Int32) (z : Nat) : Prop :=
  (nn32 (mFul r z) = true ∧ FP.fcmp (mFul r z) (mFul r z) = some .eq) ∧
  (¬ mFr r z = 0 → nn32 (scaD (mSpans r z (nI 0) (nI 1)) (nI (mFr r z))) = true ∧ nn32 (scaQ (mSpans r z (nI 0) (nI 1)) (nI (mFr r z))) = true) ∧ FP.fcmp (mSca r z) (mSca r z) = some .eq ∧
  (¬ mSum r 8 1 8 = 0 → nn64 (meaQ (mSum r 24 1 8) (mSum r 8 1 8)) = true)
theorem nI_eq0 {n : Nat} (h : n < 2 ^ 31) : nI n = 0 ↔ n = 0 := by
  rw [show (0 : Int32) = nI 0 from rfl]
  exact nI_eq h (by decide)
theorem mFr_le (r : Nat → Int32) (z : Nat) : mFr r z ≤ z := cnt_le _ z
set_option maxRecDepth 100000 in
set_option maxHeartbeats 1000000 in
theorem c5_fullness (l : Launch) (E : jE) (S : jS) (x : jX) (T : jO) {z : Nat} (hM : MI (T 1) z) (hf : mfOK (T 1) z) : Ct l E yX5_fullness cX5_fullness 2 (some .int) 5 [.ref (ad E 10 0)] (setO S 10 T, x) (some (.int (mFul (T 1) z).toInt32)) (setO S 10 (thr T (nI 0)), x) := by
  refine Ct.of (by decide +kernel) (Nat.le_refl _) (Nat.le_of_ble_eq_true rfl) rfl (fun J hJ hF => ?_)
  have hz := hM.1.1
  have hz6 := hM.1.2.2
  have hz4 := hM.1.2.1
  refine r_aload_n hJ dX5_fullness_0 rfl jg0 ?_
  refine r_iconst hJ (v := nI 0) dX5_fullness_1 (by decide) ?_
  refine r_p5_6 hJ m797 dX5_fullness_2 ?_
  refine r_aload_n hJ dX5_fullness_5 rfl jg0 ?_
  refine r_g5_0 hJ m791 dX5_fullness_6 ?_
  refine r_iconst hJ (v := nI 4) dX5_fullness_9 (by decide) ?_
  refine r_ialdO hJ (by omega) (alM1 (by omega)) rfl dX5_fullness_10 ?_
  rw [show (put T 0 2 (nI 0)) 1 4 = nI z from hz]
  refine r_aload_n hJ dX5_fullness_11 rfl jg0 ?_
  refine r_g5_0 hJ m791 dX5_fullness_12 ?_
  refine r_iconst hJ (v := nI 0) dX5_fullness_15 (by decide) ?_
  refine r_S2v hJ kX5_174 (h5_atStage l E S x (thr T (nI 0)) (Or.inl rfl) hz hz6 (nI 0)) dX5_fullness_16 ⟨by decide, by decide⟩ (Nat.le_of_ble_eq_true rfl) ?_
  refine r_isub hJ dX5_fullness_19 ?_
  refine r_istore_n hJ dX5_fullness_20 rfl (jp1 rfl rfl) ?_
  refine r_iload_n hJ dX5_fullness_21 rfl jg1 ?_
  refine r_i2f hJ dX5_fullness_22 ?_
  refine r_aload_n hJ dX5_fullness_23 rfl jg0 ?_
  refine r_g5_0 hJ m791 dX5_fullness_24 ?_
  refine r_iconst hJ (v := nI 4) dX5_fullness_27 (by decide) ?_
  refine r_ialdO hJ (by omega) (alM1 (by omega)) rfl dX5_fullness_28 ?_
  rw [show (thr T (nI 0)) 1 4 = nI z from hz]
  refine r_i2f hJ dX5_fullness_29 ?_
  refine r_fdiv hJ (nn_32 hf.1.1) dX5_fullness_30 ?_
  refine r_S1o hJ kjF (cJ_bitsfloat l E _ x (mFul (T 1) z) hf.1.2) dX5_fullness_31 ⟨by decide, by decide⟩ (Nat.le_of_ble_eq_true rfl) ?_
  exact ret_i hF dX5_fullness_34 rfl rfl

set_option maxRecDepth 100000 in
set_option maxHeartbeats 1000000 in
theorem c5_scatter (l : Launch) (E : jE) (S : jS) (x : jX) (T : jO) {z : Nat} (hM : MI (T 1) z) (hf : mfOK (T 1) z) : Ct l E yX5_scatter cX5_scatter 2 (some .int) 5 [.ref (ad E 10 0)] (setO S 10 T, x) (some (.int (mSca (T 1) z).toInt32)) (setO S 10 (thr T (nI 0)), x) := by
  refine Ct.of (by decide +kernel) (Nat.le_refl _) (Nat.le_of_ble_eq_true rfl) rfl (fun J hJ hF => ?_)
  have hz := hM.1.1
  have hz6 := hM.1.2.2
  have hz4 := hM.1.2.1
  refine r_aload_n hJ dX5_scatter_0 rfl jg0 ?_
  refine r_iconst hJ (v := nI 0) dX5_scatter_1 (by decide) ?_
  refine r_p5_6 hJ m797 dX5_scatter_2 ?_
  refine r_aload_n hJ dX5_scatter_5 rfl jg0 ?_
  refine r_g5_0 hJ m791 dX5_scatter_6 ?_
  refine r_iconst hJ (v := nI 0) dX5_scatter_9 (by decide) ?_
  refine r_S2v hJ kX5_174 (h5_atStage l E S x (thr T (nI 0)) (Or.inl rfl) hz hz6 (nI 0)) dX5_scatter_10 ⟨by decide, by decide⟩ (Nat.le_of_ble_eq_true rfl) ?_
  rw [show (cnt (fun n => decide (mStg ((thr T (nI 0)) 1) n = nI 0)) z) = mFr (T 1) z from rfl]
  refine r_istore_n hJ dX5_scatter_13 rfl (jp1 rfl rfl) ?_
  refine r_iload_n hJ dX5_scatter_14 rfl jg1 ?_
  refine r_if_ne hJ (tgt := 22) dX5_scatter_15 (by decide) (fun c15 => ?_) (fun c15 => ?_)
  · have h0 : ¬ mFr (T 1) z = 0 := fun q => c15 (by rw [q]; rfl)
    have hsc : mSca (T 1) z = scaQ (mSpans (T 1) z (nI 0) (nI 1)) (nI (mFr (T 1) z)) := if_neg h0
    refine r_fconst1 hJ dX5_scatter_22 ?_
    refine r_aload_n hJ dX5_scatter_23 rfl jg0 ?_
    refine r_iconst hJ (v := nI 0) dX5_scatter_24 (by decide) ?_
    refine r_iconst hJ (v := nI 1) dX5_scatter_25 (by decide) ?_
    refine r_V2v hJ kX5_171 (rcv5 E) (c5_spans l E S x (thr T (nI 0)) hM (nI 0) (nI 1)) dX5_scatter_26 ⟨by decide, by decide⟩ (Nat.le_of_ble_eq_true rfl) ?_
    refine r_i2f hJ dX5_scatter_29 ?_
    refine r_iload_n hJ dX5_scatter_30 rfl jg1 ?_
    refine r_i2f hJ dX5_scatter_31 ?_
    refine r_fdiv hJ (nn_32 (hf.2.1 h0).1) dX5_scatter_32 ?_
    refine r_fsub hJ (nn_32 (hf.2.1 h0).2) dX5_scatter_33 ?_
    have hb := cJ_bitsfloat l E (setO S 10 (thr T (nI 0))) x (mSca (T 1) z) hf.2.2.1
    rw [hsc] at hb
    refine r_S1o hJ kjF (hb) dX5_scatter_34 ⟨by decide, by decide⟩ (Nat.le_of_ble_eq_true rfl) ?_
    exact ret_i hF dX5_scatter_37 (by rw [hsc]) rfl
  · have h0 : mFr (T 1) z = 0 := by
      have := mFr_le (T 1) z
      exact (nI_eq0 (by omega)).mp c15
    have hsc : mSca (T 1) z = FP.fconst0 := if_pos h0
    refine r_fconst0 hJ dX5_scatter_18 ?_
    refine r_goto hJ (tgt := 34) dX5_scatter_19 (by decide) ?_
    have hb := cJ_bitsfloat l E (setO S 10 (thr T (nI 0))) x (mSca (T 1) z) hf.2.2.1
    rw [hsc] at hb
    refine r_S1o hJ kjF (hb) dX5_scatter_34 ⟨by decide, by decide⟩ (Nat.le_of_ble_eq_true rfl) ?_
    exact ret_i hF dX5_scatter_37 (by rw [hsc]) rfl

set_option maxRecDepth 100000 in
set_option maxHeartbeats 1000000 in
theorem c5_meanHeld (l : Launch) (E : jE) (S : jS) (x : jX) (T : jO) {z : Nat} (hM : MI (T 1) z) (hf : mfOK (T 1) z) : Ct l E yX5_meanHeld cX5_meanHeld 2 (some .double) 6 [.ref (ad E 10 0)] (setO S 10 T, x) (some (.double (mMea (T 1)))) (setO S 10 (thr T (nI 0)), x) := by
  refine Ct.of (by decide +kernel) (Nat.le_refl _) (Nat.le_of_ble_eq_true rfl) rfl (fun J hJ hF => ?_)
  have hz := hM.1.1
  have hz6 := hM.1.2.2
  have hz4 := hM.1.2.1
  refine r_aload_n hJ dX5_meanHeld_0 rfl jg0 ?_
  refine r_iconst hJ (v := nI 0) dX5_meanHeld_1 (by decide) ?_
  refine r_p5_6 hJ m797 dX5_meanHeld_2 ?_
  refine r_aload_n hJ dX5_meanHeld_5 rfl jg0 ?_
  refine r_iconst hJ (v := nI 5) dX5_meanHeld_6 (by decide) ?_
  refine r_V1v hJ kX5_180 (rcv5 E) (c5_counted l E S x (thr T (nI 0)) hM (q := 5) (by decide)) dX5_meanHeld_7 ⟨by decide, by decide⟩ (Nat.le_of_ble_eq_true rfl) ?_
  refine r_istore_n hJ dX5_meanHeld_10 rfl (jp1 rfl rfl) ?_
  refine r_iload_n hJ dX5_meanHeld_11 rfl jg1 ?_
  refine r_if_ne hJ (tgt := 19) dX5_meanHeld_12 (by decide) (fun c12 => ?_) (fun c12 => ?_)
  · have c12 : ¬ mSum (T 1) 8 1 8 = 0 := c12
    refine r_aload_n hJ dX5_meanHeld_19 rfl jg0 ?_
    refine r_bipush hJ (v := nI 24) dX5_meanHeld_20 (by decide) ?_
    refine r_iconst hJ (v := nI 1) dX5_meanHeld_22 (by decide) ?_
    refine r_bipush hJ (v := nI 8) dX5_meanHeld_23 (by decide) ?_
    refine r_V3v hJ kX5_177 (rcv5 E) (c5_sumOf l E S x (thr T (nI 0)) (a := 24) (b := 1) (m := 8) (by omega) (fun k hk => alM1 (by omega))) dX5_meanHeld_25 ⟨by decide, by decide⟩ (Nat.le_of_ble_eq_true rfl) ?_
    refine r_i2d hJ dX5_meanHeld_28 ?_
    refine r_iload_n hJ dX5_meanHeld_29 rfl jg1 ?_
    refine r_i2d hJ dX5_meanHeld_30 ?_
    refine r_ddiv hJ (nn_64 (hf.2.2.2 c12)) dX5_meanHeld_31 ?_
    exact ret_d hF dX5_meanHeld_32 (by unfold mMea; rw [if_neg c12]; rfl) rfl
  · have c12 : mSum (T 1) 8 1 8 = 0 := c12
    refine r_dconst0 hJ dX5_meanHeld_15 ?_
    refine r_goto hJ (tgt := 32) dX5_meanHeld_16 (by decide) ?_
    exact ret_d hF dX5_meanHeld_32 (by unfold mMea; rw [if_pos c12]) rfl

def mhA (T : jO) (z : Nat) : Nat → Nat → (Nat → Int32) → (Nat → Int32)
  | 0, _, B => B
  | k + 1, i, B => mhA T z k (i + 1) ((mWisV (putA T 2 B) z (nI i) 0).2 2)
theorem mWisV_2 (T : jO) (B : Nat → Int32) (z : Nat) (h : Int32) (n : Nat) : (mWisV (putA T 2 B) z h n).2 = putA T 2 ((mWisV (putA T 2 B) z h n).2 2) := by
  have e : putA T 2 B = putA T 2 (putA T 2 B 2) := by rw [putA_at]
  unfold mWisV
  split
  · exact e
  · split
    · split
      · exact e
      · dsimp only
        rw [putA_two, putA_at]
    · exact e
theorem putA_thr (T : jO) (B : Nat → Int32) : thr (putA (thr T (nI 0)) 2 B) (nI 0) = putA (thr T (nI 0)) 2 B := by
  unfold thr
  have e : (putA (put T 0 2 (nI 0)) 2 B) 0 2 = nI 0 := by rw [putA_ne (by decide), put_at, if_pos rfl]
  exact (by rw [e] : put (putA (put T 0 2 (nI 0)) 2 B) 0 2 (nI 0) = put (putA (put T 0 2 (nI 0)) 2 B) 0 2 ((putA (put T 0 2 (nI 0)) 2 B) 0 2)).trans (put_self _ 2)
def mdN (r : Nat → Int32) (z : Nat) (h : Int64) : Int64 := dgO (fun n h => dgL (mNum r n) 9 0 h) z 0 h
def mdH (r : Nat → Int32) (z : Nat) (wi : Nat → Int32) (h : Int64) : Int64 := dgO (fun k h => dg1 (dgL (mHol r z k) 8 0 h) (wi k)) 8 0 h
def mdS (r : Nat → Int32) (z m : Nat) (h : Int64) : Int64 := dgO (fun k h => dg1 (dg1 h (mSpans r z (nI k) (nI 2))) (mSpans r z (nI k) (nI 3))) m 0 h
def mdV (T : jO) (z m w : Nat) (wi : Nat → Int32) (wh fr : Int32) : Int64 :=
  let h1 := dgL (fun k => T 1 (1 + k)) 4 0 (dgL (mCnt T z) 13 0 2579)
  let h2 := mdS (T 1) z m (mdH (T 1) z wi (mdN (T 1) z h1))
  let h3 := dg1 (dg1 h2 wh) fr
  dgL (T 4) w 0 (dg1 (31 * dg1 (dg1 h3 (mFul (T 1) z).toInt32) (mSca (T 1) z).toInt32 + (mMea (T 1)).toInt64) (nI w))
def mdA (T : jO) (z : Nat) : Nat → Int32 := (mFrL z (nI 4) 500 0 (thn (putA (thr T (nI 0)) 2 (mTks z 20 (thn (putA (thr T (nI 0)) 2 (mhA (thr T (nI 0)) z 8 0 (T 2)))))))).1
theorem mCnt_thr (T : jO) (v : Int32) (z q : Nat) : mCnt (thr T v) z q = mCnt T z q := by
  have e0 : (thr T v) 0 0 = T 0 0 := pfa (by decide)
  unfold mCnt
  split <;> first | rfl | exact e0
theorem wit_q : ∀ i, i < 8 → witQ (nI i) (nI 0) (nI 7) = true := by decide +kernel
set_option maxRecDepth 100000 in
set_option maxHeartbeats 1000000 in
theorem c5_digest (l : Launch) (E : jE) (S : jS) (x : jX) (T : jO) {z : Nat} (hM : MI (T 1) z) (hf : mfOK (T 1) z) (hD : FP.dcmp (mMea (T 1)) (mMea (T 1)) = some .eq) {w : Nat} (hw6 : w ≤ 60) (hw : T 0 1 = nI w) {m : Nat} (hm4 : m ≤ 64) (hm : mSpans (T 1) z (nI 0) (nI 0) = nI m) (wi : Nat → Int32) (wh fr : Int32) (hwi : ∀ B k, k < 8 → (mWisV (putA (thr T (nI 0)) 2 B) z (nI k) 0).1 = wi k) (hwh : ∀ {B}, mTks z 20 (thn (putA (thr T (nI 0)) 2 B)) 32 = wh) (hfr : ∀ {B}, mFrV z (nI 4) (mFrL z (nI 4) 500 0 (thn (putA (thr T (nI 0)) 2 B))) = fr) : Ct l E yX5_digest cX5_digest 5 (some .long) 7 [.ref (ad E 10 0)] (setO S 10 T, x) (some (.long (mdV T z m w wi wh fr))) (setO S 10 (putA (thr T (nI 0)) 2 (mdA T z)), x) := by
  refine Ct.of (by decide +kernel) (Nat.le_refl _) (Nat.le_of_ble_eq_true rfl) rfl (fun J hJ hF => ?_)
  have hz := hM.1.1
  have hz6 := hM.1.2.2
  have hz4 := hM.1.2.1
  have hz1 : (thr T (nI 0)) 1 4 = nI z := hz
  have hw1 : (putA (thr T (nI 0)) 2 (mdA T z)) 0 1 = nI w := hw
  have hwq := wit_q
  obtain ⟨F, hFF⟩ : ∃ F, mdV T z m w wi wh fr = F := ⟨_, rfl⟩
  rw [hFF] at hF
  have l8 : ∀ (k i : Nat) (h : Int64) (v3 : Option Value), i + k = w → nc2 v3 = true → dgL (T 4) k i h = F → J (setO S 10 (putA (thr T (nI 0)) 2 (mdA T z)), x) 298 [some (.ref (ad E 10 0)), some (.long h), none, v3, some (.int (nI i))] [] := by
    intro k
    induction k with
    | zero =>
      intro i h v3 hi h3 he
      obtain rfl : i = w := by omega
      refine r_iload hJ dX5_digest_298 jg4 ?_
      refine r_aload_n hJ dX5_digest_300 rfl jg0 ?_
      refine r_g5_5O hJ m796 dX5_digest_301 ?_
      rw [hw1]
      refine r_icmp_ge hJ (tgt := 328) dX5_digest_304 (by decide) (fun c304 => ?_) (fun c304 => ?_)
      · refine r_lload_n hJ dX5_digest_328 rfl jg1 ?_
        exact ret_l hF dX5_digest_329 (by rw [← he]; rfl) rfl
      · exact absurd (nI_le (by omega) (by omega)) c304
    | succ k ih =>
      intro i h v3 hi h3 he
      refine r_iload hJ dX5_digest_298 jg4 ?_
      refine r_aload_n hJ dX5_digest_300 rfl jg0 ?_
      refine r_g5_5O hJ m796 dX5_digest_301 ?_
      rw [hw1]
      refine r_icmp_ge hJ (tgt := 328) dX5_digest_304 (by decide) (fun c304 => ?_) (fun c304 => ?_)
      · exact absurd c304 (nI_ge (by omega) (by omega))
      · refine r_ldc2 hJ m1102 dX5_digest_307 ?_
        refine r_lload_n hJ dX5_digest_310 rfl jg1 ?_
        refine r_lmul hJ dX5_digest_311 ?_
        refine r_aload_n hJ dX5_digest_312 rfl jg0 ?_
        refine r_g5_4 hJ m795 dX5_digest_313 ?_
        refine r_iload hJ dX5_digest_316 jg4 ?_
        refine r_ialdO hJ (by omega) (alM4 (by omega)) rfl dX5_digest_318 ?_
        rw [show (putA (thr T (nI 0)) 2 (mdA T z)) 4 i = T 4 i from rfl]
        refine r_i2l hJ dX5_digest_319 rfl ?_
        refine r_ladd hJ dX5_digest_320 ?_
        refine r_lstore_n hJ dX5_digest_321 rfl (jq1 rfl rfl) ?_
        refine r_iinc hJ dX5_digest_322 jg4 (ii1 _) (jp4 h3 rfl) ?_
        refine r_goto hJ (tgt := 298) dX5_digest_325 (by decide) ?_
        exact ih (i + 1) _ v3 (by omega) h3 (by rw [← he]; rfl)
  have t223 : ∀ (h : Int64) (v3 v4 : Option Value), nc2 v3 = true → nc2 v4 = true → h = mdS (T 1) z m (mdH (T 1) z wi (mdN (T 1) z (dgL (fun k => T 1 (1 + k)) 4 0 (dgL (mCnt T z) 13 0 2579)))) → J (setO S 10 (putA (thr T (nI 0)) 2 (mhA (thr T (nI 0)) z 8 0 (T 2))), x) 223 [some (.ref (ad E 10 0)), some (.long h), none, v3, v4] [] := by
    intro h v3 v4 h3 h4 he
    refine r_ldc2 hJ m1102 dX5_digest_223 ?_
    refine r_ldc2 hJ m1102 dX5_digest_226 ?_
    refine r_lload_n hJ dX5_digest_229 rfl jg1 ?_
    refine r_lmul hJ dX5_digest_230 ?_
    refine r_aload_n hJ dX5_digest_231 rfl jg0 ?_
    refine r_iconst hJ (v := nI 0) dX5_digest_232 (by decide) ?_
    refine r_bipush hJ (v := nI 20) dX5_digest_233 (by decide) ?_
    have hq := c5_whoThen l E S x (putA (thr T (nI 0)) 2 (mhA (thr T (nI 0)) z 8 0 (T 2))) (by show MI (T 1) z; exact hM) (n := 0) (b := 20) (by decide) (by decide)
    rw [putA_two, show (32 + 12 * 0) = 32 from rfl, hwh] at hq
    refine r_V2v hJ kX5_186 (rcv5 E) (hq) dX5_digest_235 ⟨by decide, by decide⟩ (Nat.le_of_ble_eq_true rfl) ?_
    refine r_i2l hJ dX5_digest_238 rfl ?_
    refine r_ladd hJ dX5_digest_239 ?_
    refine r_lmul hJ dX5_digest_240 ?_
    refine r_aload_n hJ dX5_digest_241 rfl jg0 ?_
    refine r_iconst hJ (v := nI 4) dX5_digest_242 (by decide) ?_
    have hr := c5_freeThen l E S x (putA (thr T (nI 0)) 2 (mTks z 20 (thn (putA (thr T (nI 0)) 2 (mhA (thr T (nI 0)) z 8 0 (T 2)))))) (by show MI (T 1) z; exact hM) (nI 4)
    rw [putA_two, hfr] at hr
    rw [show (mFrL z (nI 4) 500 0 (thn (putA (thr T (nI 0)) 2 (mTks z 20 (thn (putA (thr T (nI 0)) 2 (mhA (thr T (nI 0)) z 8 0 (T 2)))))))).1 = mdA T z from rfl] at hr
    refine r_V1v hJ kX5_189 (rcv5 E) (hr) dX5_digest_243 ⟨by decide, by decide⟩ (Nat.le_of_ble_eq_true rfl) ?_
    refine r_i2l hJ dX5_digest_246 rfl ?_
    refine r_ladd hJ dX5_digest_247 ?_
    refine r_lstore_n hJ dX5_digest_248 rfl (jq1 rfl rfl) ?_
    refine r_ldc2 hJ m1102 dX5_digest_249 ?_
    refine r_ldc2 hJ m1102 dX5_digest_252 ?_
    refine r_lload_n hJ dX5_digest_255 rfl jg1 ?_
    refine r_lmul hJ dX5_digest_256 ?_
    refine r_aload_n hJ dX5_digest_257 rfl jg0 ?_
    have hs := c5_fullness l E S x (putA (thr T (nI 0)) 2 (mdA T z)) (by show MI (T 1) z; exact hM) (by show mfOK (T 1) z; exact hf)
    rw [putA_thr, show (putA (thr T (nI 0)) 2 (mdA T z)) 1 = T 1 from rfl] at hs
    refine r_V0v hJ kX5_205 (rcv5 E) (hs) dX5_digest_258 ⟨by decide, by decide⟩ (Nat.le_of_ble_eq_true rfl) ?_
    refine r_i2l hJ dX5_digest_261 rfl ?_
    refine r_ladd hJ dX5_digest_262 ?_
    refine r_lmul hJ dX5_digest_263 ?_
    refine r_aload_n hJ dX5_digest_264 rfl jg0 ?_
    have ht := c5_scatter l E S x (putA (thr T (nI 0)) 2 (mdA T z)) (by show MI (T 1) z; exact hM) (by show mfOK (T 1) z; exact hf)
    rw [putA_thr, show (putA (thr T (nI 0)) 2 (mdA T z)) 1 = T 1 from rfl] at ht
    refine r_V0v hJ kX5_209 (rcv5 E) (ht) dX5_digest_265 ⟨by decide, by decide⟩ (Nat.le_of_ble_eq_true rfl) ?_
    refine r_i2l hJ dX5_digest_268 rfl ?_
    refine r_ladd hJ dX5_digest_269 ?_
    refine r_lstore_n hJ dX5_digest_270 rfl (jq1 rfl rfl) ?_
    refine r_ldc2 hJ m1102 dX5_digest_271 ?_
    refine r_ldc2 hJ m1102 dX5_digest_274 ?_
    refine r_lload_n hJ dX5_digest_277 rfl jg1 ?_
    refine r_lmul hJ dX5_digest_278 ?_
    refine r_aload_n hJ dX5_digest_279 rfl jg0 ?_
    have hu := c5_meanHeld l E S x (putA (thr T (nI 0)) 2 (mdA T z)) (by show MI (T 1) z; exact hM) (by show mfOK (T 1) z; exact hf)
    rw [putA_thr, show (putA (thr T (nI 0)) 2 (mdA T z)) 1 = T 1 from rfl] at hu
    refine r_V0v hJ kX5_212 (rcv5 E) (hu) dX5_digest_280 ⟨by decide, by decide⟩ (Nat.le_of_ble_eq_true rfl) ?_
    refine r_S1o hJ kjD (cJ_bitsdouble l E (setO S 10 (putA (thr T (nI 0)) 2 (mdA T z))) x (mMea (T 1)) hD) dX5_digest_283 ⟨by decide, by decide⟩ (Nat.le_of_ble_eq_true rfl) ?_
    refine r_ladd hJ dX5_digest_286 ?_
    refine r_lmul hJ dX5_digest_287 ?_
    refine r_aload_n hJ dX5_digest_288 rfl jg0 ?_
    refine r_g5_5O hJ m796 dX5_digest_289 ?_
    rw [hw1]
    refine r_i2l hJ dX5_digest_292 rfl ?_
    refine r_ladd hJ dX5_digest_293 ?_
    refine r_lstore_n hJ dX5_digest_294 rfl (jq1 rfl rfl) ?_
    refine r_iconst hJ (v := nI 0) dX5_digest_295 (by decide) ?_
    refine r_istore hJ dX5_digest_296 (jp4 h3 rfl) ?_
    exact l8 w 0 _ _ (by omega) h3 (by rw [← hFF]; subst he; rfl)
  have l7 : ∀ (k i : Nat) (h : Int64), i + k = m → dgO (fun k h => dg1 (dg1 h (mSpans (T 1) z (nI k) (nI 2))) (mSpans (T 1) z (nI k) (nI 3))) k i h = mdS (T 1) z m (mdH (T 1) z wi (mdN (T 1) z (dgL (fun k => T 1 (1 + k)) 4 0 (dgL (mCnt T z) 13 0 2579)))) → J (setO S 10 (putA (thr T (nI 0)) 2 (mhA (thr T (nI 0)) z 8 0 (T 2))), x) 183 [some (.ref (ad E 10 0)), some (.long h), none, some (.int (nI m)), some (.int (nI i))] [] := by
    intro k
    induction k with
    | zero =>
      intro i h hi he
      obtain rfl : i = m := by omega
      refine r_iload hJ dX5_digest_183 jg4 ?_
      refine r_iload_n hJ dX5_digest_185 rfl jg3 ?_
      refine r_icmp_ge hJ (tgt := 223) dX5_digest_186 (by decide) (fun c186 => ?_) (fun c186 => ?_)
      · exact t223 h _ _ rfl rfl (by rw [← he]; rfl)
      · exact absurd (nI_le (by omega) (by omega)) c186
    | succ k ih =>
      intro i h hi he
      refine r_iload hJ dX5_digest_183 jg4 ?_
      refine r_iload_n hJ dX5_digest_185 rfl jg3 ?_
      refine r_icmp_ge hJ (tgt := 223) dX5_digest_186 (by decide) (fun c186 => ?_) (fun c186 => ?_)
      · exact absurd c186 (nI_ge (by omega) (by omega))
      · refine r_ldc2 hJ m1102 dX5_digest_189 ?_
        refine r_ldc2 hJ m1102 dX5_digest_192 ?_
        refine r_lload_n hJ dX5_digest_195 rfl jg1 ?_
        refine r_lmul hJ dX5_digest_196 ?_
        refine r_aload_n hJ dX5_digest_197 rfl jg0 ?_
        refine r_iload hJ dX5_digest_198 jg4 ?_
        refine r_iconst hJ (v := nI 2) dX5_digest_200 (by decide) ?_
        have hq2 := c5_spans l E S x (putA (thr T (nI 0)) 2 (mhA (thr T (nI 0)) z 8 0 (T 2))) (by show MI (T 1) z; exact hM) (nI i) (nI 2)
        rw [show (putA (thr T (nI 0)) 2 (mhA (thr T (nI 0)) z 8 0 (T 2))) 1 = T 1 from rfl] at hq2
        refine r_V2v hJ kX5_171 (rcv5 E) (hq2) dX5_digest_201 ⟨by decide, by decide⟩ (Nat.le_of_ble_eq_true rfl) ?_
        refine r_i2l hJ dX5_digest_204 rfl ?_
        refine r_ladd hJ dX5_digest_205 ?_
        refine r_lmul hJ dX5_digest_206 ?_
        refine r_aload_n hJ dX5_digest_207 rfl jg0 ?_
        refine r_iload hJ dX5_digest_208 jg4 ?_
        refine r_iconst hJ (v := nI 3) dX5_digest_210 (by decide) ?_
        have hq3 := c5_spans l E S x (putA (thr T (nI 0)) 2 (mhA (thr T (nI 0)) z 8 0 (T 2))) (by show MI (T 1) z; exact hM) (nI i) (nI 3)
        rw [show (putA (thr T (nI 0)) 2 (mhA (thr T (nI 0)) z 8 0 (T 2))) 1 = T 1 from rfl] at hq3
        refine r_V2v hJ kX5_171 (rcv5 E) (hq3) dX5_digest_211 ⟨by decide, by decide⟩ (Nat.le_of_ble_eq_true rfl) ?_
        refine r_i2l hJ dX5_digest_214 rfl ?_
        refine r_ladd hJ dX5_digest_215 ?_
        refine r_lstore_n hJ dX5_digest_216 rfl (jq1 rfl rfl) ?_
        refine r_iinc hJ dX5_digest_217 jg4 (ii1 _) (jp4 rfl rfl) ?_
        refine r_goto hJ (tgt := 183) dX5_digest_220 (by decide) ?_
        exact ih (i + 1) _ (by omega) (by rw [← he]; rfl)
  have t173 : ∀ (h : Int64) (v3 v4 : Option Value), nc2 v3 = true → nc2 v4 = true → h = mdH (T 1) z wi (mdN (T 1) z (dgL (fun k => T 1 (1 + k)) 4 0 (dgL (mCnt T z) 13 0 2579))) → J (setO S 10 (putA (thr T (nI 0)) 2 (mhA (thr T (nI 0)) z 8 0 (T 2))), x) 173 [some (.ref (ad E 10 0)), some (.long h), none, v3, v4] [] := by
    intro h v3 v4 h3 h4 he
    refine r_aload_n hJ dX5_digest_173 rfl jg0 ?_
    refine r_bipush hJ (v := nI 10) dX5_digest_174 (by decide) ?_
    have hq := c5_counted l E S x (putA (thr T (nI 0)) 2 (mhA (thr T (nI 0)) z 8 0 (T 2))) (by show MI (T 1) z; exact hM) (q := 10) (by decide)
    rw [show mCnt (putA (thr T (nI 0)) 2 (mhA (thr T (nI 0)) z 8 0 (T 2))) z 10 = nI m from hm] at hq
    refine r_V1v hJ kX5_180 (rcv5 E) (hq) dX5_digest_176 ⟨by decide, by decide⟩ (Nat.le_of_ble_eq_true rfl) ?_
    refine r_istore_n hJ dX5_digest_179 rfl (jp3 rfl rfl) ?_
    refine r_iconst hJ (v := nI 0) dX5_digest_180 (by decide) ?_
    refine r_istore hJ dX5_digest_181 (jp4 rfl rfl) ?_
    exact l7 m 0 h (by omega) (by rw [he]; rfl)
  have inH : ∀ (n : Nat) (B : Nat → Int32) (h0 : Int64), n < 8 → (∀ (hE : Int64) (v4 : Option Value), nc2 v4 = true → hE = dgL (mHol (T 1) z n) 8 0 h0 → J (setO S 10 (putA (thr T (nI 0)) 2 B), x) 153 [some (.ref (ad E 10 0)), some (.long hE), none, some (.int (nI n)), v4] []) → ∀ (k i : Nat) (h : Int64), i + k = 8 → dgL (mHol (T 1) z n) k i h = dgL (mHol (T 1) z n) 8 0 h0 → J (setO S 10 (putA (thr T (nI 0)) 2 B), x) 125 [some (.ref (ad E 10 0)), some (.long h), none, some (.int (nI n)), some (.int (nI i))] [] := by
    intro n B h0 hn hk k
    induction k with
    | zero =>
      intro i h hi he
      obtain rfl : i = 8 := by omega
      refine r_iload hJ dX5_digest_125 jg4 ?_
      refine r_bipush hJ (v := nI 8) dX5_digest_127 (by decide) ?_
      refine r_icmp_ge hJ (tgt := 153) dX5_digest_129 (by decide) (fun c129 => ?_) (fun c129 => ?_)
      · exact hk h _ rfl he
      · exact absurd (nI_le (by omega) (by omega)) c129
    | succ k ih =>
      intro i h hi he
      refine r_iload hJ dX5_digest_125 jg4 ?_
      refine r_bipush hJ (v := nI 8) dX5_digest_127 (by decide) ?_
      refine r_icmp_ge hJ (tgt := 153) dX5_digest_129 (by decide) (fun c129 => ?_) (fun c129 => ?_)
      · exact absurd c129 (nI_ge (by omega) (by omega))
      · refine r_ldc2 hJ m1102 dX5_digest_132 ?_
        refine r_lload_n hJ dX5_digest_135 rfl jg1 ?_
        refine r_lmul hJ dX5_digest_136 ?_
        refine r_aload_n hJ dX5_digest_137 rfl jg0 ?_
        refine r_iload_n hJ dX5_digest_138 rfl jg3 ?_
        refine r_iload hJ dX5_digest_139 jg4 ?_
        have hoh := c5_ofHolder l E S x (putA (thr T (nI 0)) 2 B) (by show MI (T 1) z; exact hM) (h := n) (q := i) hn (by omega)
        rw [show (putA (thr T (nI 0)) 2 B) 1 = T 1 from rfl] at hoh
        refine r_V2v hJ kX5_168 (rcv5 E) (hoh) dX5_digest_141 ⟨by decide, by decide⟩ (Nat.le_of_ble_eq_true rfl) ?_
        refine r_i2l hJ dX5_digest_144 rfl ?_
        refine r_ladd hJ dX5_digest_145 ?_
        refine r_lstore_n hJ dX5_digest_146 rfl (jq1 rfl rfl) ?_
        refine r_iinc hJ dX5_digest_147 jg4 (ii1 _) (jp4 rfl rfl) ?_
        refine r_goto hJ (tgt := 125) dX5_digest_150 (by decide) ?_
        exact ih (i + 1) _ (by omega) (by rw [← he]; rfl)
  have l6 : ∀ (k i : Nat) (B : Nat → Int32) (h : Int64) (v4 : Option Value), i + k = 8 → nc2 v4 = true → dgO (fun k h => dg1 (dgL (mHol (T 1) z k) 8 0 h) (wi k)) k i h = mdH (T 1) z wi (mdN (T 1) z (dgL (fun k => T 1 (1 + k)) 4 0 (dgL (mCnt T z) 13 0 2579))) → mhA (thr T (nI 0)) z k i B = (mhA (thr T (nI 0)) z 8 0 (T 2)) → J (setO S 10 (putA (thr T (nI 0)) 2 B), x) 116 [some (.ref (ad E 10 0)), some (.long h), none, some (.int (nI i)), v4] [] := by
    intro k
    induction k with
    | zero =>
      intro i B h v4 hi h4 he hA
      obtain rfl : i = 8 := by omega
      refine r_iload_n hJ dX5_digest_116 rfl jg3 ?_
      refine r_bipush hJ (v := nI 8) dX5_digest_117 (by decide) ?_
      refine r_icmp_ge hJ (tgt := 173) dX5_digest_119 (by decide) (fun c119 => ?_) (fun c119 => ?_)
      · exact (show B = (mhA (thr T (nI 0)) z 8 0 (T 2)) from hA) ▸ t173 h _ _ rfl h4 (by rw [← he]; rfl)
      · exact absurd (nI_le (by omega) (by omega)) c119
    | succ k ih =>
      intro i B h v4 hi h4 he hA
      refine r_iload_n hJ dX5_digest_116 rfl jg3 ?_
      refine r_bipush hJ (v := nI 8) dX5_digest_117 (by decide) ?_
      refine r_icmp_ge hJ (tgt := 173) dX5_digest_119 (by decide) (fun c119 => ?_) (fun c119 => ?_)
      · exact absurd c119 (nI_ge (by omega) (by omega))
      · refine r_iconst hJ (v := nI 0) dX5_digest_122 (by decide) ?_
        refine r_istore hJ dX5_digest_123 (jp4 rfl rfl) ?_
        exact inH i B h (by omega) (fun hE v4 h4 hEe => by
          refine r_ldc2 hJ m1102 dX5_digest_153 ?_
          refine r_lload_n hJ dX5_digest_156 rfl jg1 ?_
          refine r_lmul hJ dX5_digest_157 ?_
          refine r_aload_n hJ dX5_digest_158 rfl jg0 ?_
          refine r_iload_n hJ dX5_digest_159 rfl jg3 ?_
          refine r_iconst hJ (v := nI 0) dX5_digest_160 (by decide) ?_
          have htw := c5_wishedThen l E S x (putA (thr T (nI 0)) 2 B) (by show MI (T 1) z; exact hM) (n := 0) (by decide) (nI i) (hwq i (by omega))
          rw [hwi B i (by omega), mWisV_2] at htw
          refine r_V2v hJ kX5_192 (rcv5 E) (htw) dX5_digest_161 ⟨by decide, by decide⟩ (Nat.le_of_ble_eq_true rfl) ?_
          refine r_i2l hJ dX5_digest_164 rfl ?_
          refine r_ladd hJ dX5_digest_165 ?_
          refine r_lstore_n hJ dX5_digest_166 rfl (jq1 rfl rfl) ?_
          refine r_iinc hJ dX5_digest_167 jg3 (ii1 _) (jp3 rfl rfl) ?_
          refine r_goto hJ (tgt := 116) dX5_digest_170 (by decide) ?_
          exact ih (i + 1) _ _ _ (by omega) h4 (by rw [← he, hEe]; rfl) (by rw [← hA]; rfl)) 8 0 h rfl rfl
  have t114 : ∀ (h : Int64) (v3 v4 : Option Value), nc2 v3 = true → nc2 v4 = true → h = mdN (T 1) z (dgL (fun k => T 1 (1 + k)) 4 0 (dgL (mCnt T z) 13 0 2579)) → J (setO S 10 (thr T (nI 0)), x) 114 [some (.ref (ad E 10 0)), some (.long h), none, v3, v4] [] := by
    intro h v3 v4 h3 h4 he
    refine r_iconst hJ (v := nI 0) dX5_digest_114 (by decide) ?_
    refine r_istore_n hJ dX5_digest_115 rfl (jp3 rfl rfl) ?_
    have q6 := l6 8 0 (T 2) h v4 rfl h4 (by rw [he]; rfl) rfl
    rw [show putA (thr T (nI 0)) 2 (T 2) = thr T (nI 0) from putA_self (thr T (nI 0)) 2] at q6
    exact q6
  have inN : ∀ (n : Nat) (h0 : Int64), n < z → (∀ (hE : Int64) (v4 : Option Value), nc2 v4 = true → hE = dgL (mNum (T 1) n) 9 0 h0 → J (setO S 10 (thr T (nI 0)), x) 108 [some (.ref (ad E 10 0)), some (.long hE), none, some (.int (nI n)), v4] []) → ∀ (k i : Nat) (h : Int64), i + k = 9 → dgL (mNum (T 1) n) k i h = dgL (mNum (T 1) n) 9 0 h0 → J (setO S 10 (thr T (nI 0)), x) 80 [some (.ref (ad E 10 0)), some (.long h), none, some (.int (nI n)), some (.int (nI i))] [] := by
    intro n h0 hn hk k
    induction k with
    | zero =>
      intro i h hi he
      obtain rfl : i = 9 := by omega
      refine r_iload hJ dX5_digest_80 jg4 ?_
      refine r_bipush hJ (v := nI 9) dX5_digest_82 (by decide) ?_
      refine r_icmp_ge hJ (tgt := 108) dX5_digest_84 (by decide) (fun c84 => ?_) (fun c84 => ?_)
      · exact hk h _ rfl he
      · exact absurd (nI_le (by omega) (by omega)) c84
    | succ k ih =>
      intro i h hi he
      refine r_iload hJ dX5_digest_80 jg4 ?_
      refine r_bipush hJ (v := nI 9) dX5_digest_82 (by decide) ?_
      refine r_icmp_ge hJ (tgt := 108) dX5_digest_84 (by decide) (fun c84 => ?_) (fun c84 => ?_)
      · exact absurd c84 (nI_ge (by omega) (by omega))
      · refine r_ldc2 hJ m1102 dX5_digest_87 ?_
        refine r_lload_n hJ dX5_digest_90 rfl jg1 ?_
        refine r_lmul hJ dX5_digest_91 ?_
        refine r_aload_n hJ dX5_digest_92 rfl jg0 ?_
        refine r_iload_n hJ dX5_digest_93 rfl jg3 ?_
        refine r_iload hJ dX5_digest_94 jg4 ?_
        refine r_V2v hJ kX5_165 (rcv5 E) (c5_ofNumber l E S x (thr T (nI 0)) (n := n) (q := i) (by omega) (by omega)) dX5_digest_96 ⟨by decide, by decide⟩ (Nat.le_of_ble_eq_true rfl) ?_
        refine r_i2l hJ dX5_digest_99 rfl ?_
        refine r_ladd hJ dX5_digest_100 ?_
        refine r_lstore_n hJ dX5_digest_101 rfl (jq1 rfl rfl) ?_
        refine r_iinc hJ dX5_digest_102 jg4 (ii1 _) (jp4 rfl rfl) ?_
        refine r_goto hJ (tgt := 80) dX5_digest_105 (by decide) ?_
        exact ih (i + 1) _ (by omega) (by rw [← he]; rfl)
  have l5 : ∀ (k i : Nat) (h : Int64) (v4 : Option Value), i + k = z → nc2 v4 = true → dgO (fun n h => dgL (mNum (T 1) n) 9 0 h) k i h = mdN (T 1) z (dgL (fun k => T 1 (1 + k)) 4 0 (dgL (mCnt T z) 13 0 2579)) → J (setO S 10 (thr T (nI 0)), x) 67 [some (.ref (ad E 10 0)), some (.long h), none, some (.int (nI i)), v4] [] := by
    intro k
    induction k with
    | zero =>
      intro i h v4 hi h4 he
      obtain rfl : i = z := by omega
      refine r_iload_n hJ dX5_digest_67 rfl jg3 ?_
      refine r_aload_n hJ dX5_digest_68 rfl jg0 ?_
      refine r_g5_0 hJ m791 dX5_digest_69 ?_
      refine r_iconst hJ (v := nI 4) dX5_digest_72 (by decide) ?_
      refine r_ialdO hJ (by omega) (alM1 (by omega)) rfl dX5_digest_73 ?_
      rw [hz1]
      refine r_icmp_ge hJ (tgt := 114) dX5_digest_74 (by decide) (fun c74 => ?_) (fun c74 => ?_)
      · exact t114 h _ _ rfl h4 (by rw [← he]; rfl)
      · exact absurd (nI_le (by omega) (by omega)) c74
    | succ k ih =>
      intro i h v4 hi h4 he
      refine r_iload_n hJ dX5_digest_67 rfl jg3 ?_
      refine r_aload_n hJ dX5_digest_68 rfl jg0 ?_
      refine r_g5_0 hJ m791 dX5_digest_69 ?_
      refine r_iconst hJ (v := nI 4) dX5_digest_72 (by decide) ?_
      refine r_ialdO hJ (by omega) (alM1 (by omega)) rfl dX5_digest_73 ?_
      rw [hz1]
      refine r_icmp_ge hJ (tgt := 114) dX5_digest_74 (by decide) (fun c74 => ?_) (fun c74 => ?_)
      · exact absurd c74 (nI_ge (by omega) (by omega))
      · refine r_iconst hJ (v := nI 0) dX5_digest_77 (by decide) ?_
        refine r_istore hJ dX5_digest_78 (jp4 rfl rfl) ?_
        exact inN i h (by omega) (fun hE v4 h4 hEe => by
          refine r_iinc hJ dX5_digest_108 jg3 (ii1 _) (jp3 rfl rfl) ?_
          refine r_goto hJ (tgt := 67) dX5_digest_111 (by decide) ?_
          exact ih (i + 1) _ _ (by omega) h4 (by rw [← he, hEe]; rfl)) 9 0 h rfl rfl
  have l4 : ∀ (k i : Nat) (h : Int64) (v4 : Option Value), i + k = 4 → nc2 v4 = true → dgL (fun k => T 1 (1 + k)) k i h = dgL (fun k => T 1 (1 + k)) 4 0 (dgL (mCnt T z) 13 0 2579) → J (setO S 10 (thr T (nI 0)), x) 38 [some (.ref (ad E 10 0)), some (.long h), none, some (.int (nI i)), v4] [] := by
    intro k
    induction k with
    | zero =>
      intro i h v4 hi h4 he
      obtain rfl : i = 4 := by omega
      refine r_iload_n hJ dX5_digest_38 rfl jg3 ?_
      refine r_iconst hJ (v := nI 4) dX5_digest_39 (by decide) ?_
      refine r_icmp_ge hJ (tgt := 65) dX5_digest_40 (by decide) (fun c40 => ?_) (fun c40 => ?_)
      · refine r_iconst hJ (v := nI 0) dX5_digest_65 (by decide) ?_
        refine r_istore_n hJ dX5_digest_66 rfl (jp3 rfl rfl) ?_
        exact l5 z 0 h _ (by omega) h4 (by rw [show h = dgL (fun k => T 1 (1 + k)) 4 0 (dgL (mCnt T z) 13 0 2579) from he]; rfl)
      · exact absurd (nI_le (by omega) (by omega)) c40
    | succ k ih =>
      intro i h v4 hi h4 he
      refine r_iload_n hJ dX5_digest_38 rfl jg3 ?_
      refine r_iconst hJ (v := nI 4) dX5_digest_39 (by decide) ?_
      refine r_icmp_ge hJ (tgt := 65) dX5_digest_40 (by decide) (fun c40 => ?_) (fun c40 => ?_)
      · exact absurd c40 (nI_ge (by omega) (by omega))
      · refine r_ldc2 hJ m1102 dX5_digest_43 ?_
        refine r_lload_n hJ dX5_digest_46 rfl jg1 ?_
        refine r_lmul hJ dX5_digest_47 ?_
        refine r_aload_n hJ dX5_digest_48 rfl jg0 ?_
        refine r_g5_0 hJ m791 dX5_digest_49 ?_
        refine r_iconst hJ (v := nI 1) dX5_digest_52 (by decide) ?_
        refine r_iload_n hJ dX5_digest_53 rfl jg3 ?_
        refine r_iaddN hJ dX5_digest_54 ?_
        refine r_ialdO hJ (by omega) (alM1 (by omega)) rfl dX5_digest_55 ?_
        rw [show (thr T (nI 0)) 1 (1 + i) = (fun k => T 1 (1 + k)) i from rfl]
        refine r_i2l hJ dX5_digest_56 rfl ?_
        refine r_ladd hJ dX5_digest_57 ?_
        refine r_lstore_n hJ dX5_digest_58 rfl (jq1 rfl rfl) ?_
        refine r_iinc hJ dX5_digest_59 jg3 (ii1 _) (jp3 rfl rfl) ?_
        refine r_goto hJ (tgt := 38) dX5_digest_62 (by decide) ?_
        exact ih (i + 1) _ _ (by omega) h4 (by rw [← he]; rfl)
  have l3 : ∀ (k i : Nat) (h : Int64) (v4 : Option Value), i + k = 13 → nc2 v4 = true → dgL (mCnt T z) k i h = dgL (mCnt T z) 13 0 2579 → J (setO S 10 (thr T (nI 0)), x) 11 [some (.ref (ad E 10 0)), some (.long h), none, some (.int (nI i)), v4] [] := by
    intro k
    induction k with
    | zero =>
      intro i h v4 hi h4 he
      obtain rfl : i = 13 := by omega
      refine r_iload_n hJ dX5_digest_11 rfl jg3 ?_
      refine r_bipush hJ (v := nI 13) dX5_digest_12 (by decide) ?_
      refine r_icmp_ge hJ (tgt := 36) dX5_digest_14 (by decide) (fun c14 => ?_) (fun c14 => ?_)
      · refine r_iconst hJ (v := nI 0) dX5_digest_36 (by decide) ?_
        refine r_istore_n hJ dX5_digest_37 rfl (jp3 rfl rfl) ?_
        exact l4 4 0 h _ rfl h4 (by rw [show h = dgL (mCnt T z) 13 0 2579 from he])
      · exact absurd (nI_le (by omega) (by omega)) c14
    | succ k ih =>
      intro i h v4 hi h4 he
      refine r_iload_n hJ dX5_digest_11 rfl jg3 ?_
      refine r_bipush hJ (v := nI 13) dX5_digest_12 (by decide) ?_
      refine r_icmp_ge hJ (tgt := 36) dX5_digest_14 (by decide) (fun c14 => ?_) (fun c14 => ?_)
      · exact absurd c14 (nI_ge (by omega) (by omega))
      · refine r_ldc2 hJ m1102 dX5_digest_17 ?_
        refine r_lload_n hJ dX5_digest_20 rfl jg1 ?_
        refine r_lmul hJ dX5_digest_21 ?_
        refine r_aload_n hJ dX5_digest_22 rfl jg0 ?_
        refine r_iload_n hJ dX5_digest_23 rfl jg3 ?_
        have hq := c5_counted l E S x (thr T (nI 0)) hM (q := i) (by omega)
        rw [mCnt_thr] at hq
        refine r_V1v hJ kX5_180 (rcv5 E) (hq) dX5_digest_24 ⟨by decide, by decide⟩ (Nat.le_of_ble_eq_true rfl) ?_
        refine r_i2l hJ dX5_digest_27 rfl ?_
        refine r_ladd hJ dX5_digest_28 ?_
        refine r_lstore_n hJ dX5_digest_29 rfl (jq1 rfl rfl) ?_
        refine r_iinc hJ dX5_digest_30 jg3 (ii1 _) (jp3 rfl rfl) ?_
        refine r_goto hJ (tgt := 11) dX5_digest_33 (by decide) ?_
        exact ih (i + 1) _ _ (by omega) h4 (by rw [← he]; rfl)
  refine r_aload_n hJ dX5_digest_0 rfl jg0 ?_
  refine r_iconst hJ (v := nI 0) dX5_digest_1 (by decide) ?_
  refine r_p5_6 hJ m797 dX5_digest_2 ?_
  refine r_ldc2 hJ m1101 dX5_digest_5 ?_
  refine r_lstore_n hJ dX5_digest_8 rfl (jq1 rfl rfl) ?_
  refine r_iconst hJ (v := nI 0) dX5_digest_9 (by decide) ?_
  refine r_istore_n hJ dX5_digest_10 rfl (jp3 rfl rfl) ?_
  exact l3 13 0 2579 none rfl rfl rfl
