set_option maxRecDepth 100000 in
set_option maxHeartbeats 1000000 in
theorem c4_leaseLowest (l : Launch) (E : jE) (S : jS) (K : Nat → Nat) (y : Int64 × Nat) {h : Nat} (hh : h < 8) {m : Nat} (hm1 : 1 ≤ m) (hm64 : m ≤ 64) {t : Int32} (ht1 : ¬ t < nI 1) (ht2 : t ≤ nI 999) {z : Nat} (hz : S 0 1 3 = nI z) (hz4 : z ≤ 64) (hSI : SI S K) (hml : (hasR (S 0) (nI h) (nI m) && (lowR (S 0) z (nI m)).isSome) = true) : Ct l E yX4_leaseLowest cX4_leaseLowest 4 (some .int) 7 [.ref (ad E 11 0), .int (nI h), .int (nI m), .int t] (S, (K, y)) (some (.int (oI (lowR (S 0) z (nI m))))) (setO (kpS S K) 0 (leaseRowP (S 0) z h m t), (kpK S K, y)) := by
  have e0 : kpS S K 0 = S 0 := kpS_ne hSI (by omega)
  refine Ct.of (by decide +kernel) (Nat.le_refl _) (Nat.le_of_ble_eq_true rfl) rfl (fun J hJ hF => ?_)
  refine r_iload_n hJ dX4_leaseLowest_0 rfl jg1 ?_
  refine r_S1u hJ kX4_37 (c4_needHolder l E S (K, y) (nI h) (nI_pos (by omega)) (nI_lt (by omega) (by decide))) dX4_leaseLowest_1 ⟨by decide, by decide⟩ (Nat.le_of_ble_eq_true rfl) ?_
  refine r_iload_n hJ dX4_leaseLowest_4 rfl jg2 ?_
  refine r_iconst hJ (v := nI 1) dX4_leaseLowest_5 (by decide) ?_
  refine r_bipush hJ (v := nI 64) dX4_leaseLowest_6 (by decide) ?_
  refine r_S3u hJ kX4_44 (c4_needRange l E S (K, y) (nI m) (nI 1) (nI 64) (nI_nlt (by omega) (by omega)) (nI_le (by omega) (by omega))) dX4_leaseLowest_8 ⟨by decide, by decide⟩ (Nat.le_of_ble_eq_true rfl) ?_
  refine r_iload_n hJ dX4_leaseLowest_11 rfl jg3 ?_
  refine r_iconst hJ (v := nI 1) dX4_leaseLowest_12 (by decide) ?_
  refine r_sipush hJ (v := nI 999) dX4_leaseLowest_13 (by decide) ?_
  refine r_S3u hJ kX4_44 (c4_needRange l E S (K, y) (t) (nI 1) (nI 999) ht1 ht2) dX4_leaseLowest_16 ⟨by decide, by decide⟩ (Nat.le_of_ble_eq_true rfl) ?_
  refine r_aload_n hJ dX4_leaseLowest_19 rfl jg0 ?_
  refine r_g4_0 hJ m146 dX4_leaseLowest_20 ?_
  refine r_iload_n hJ dX4_leaseLowest_23 rfl jg1 ?_
  refine r_iload_n hJ dX4_leaseLowest_24 rfl jg2 ?_
  refine r_V2v hJ kX4_203 (rcv2 E (by decide)) (g2_mayLease l E S (K, y) (o := 0) (by decide) hz hz4 (nI h) (nI m)) dX4_leaseLowest_25 ⟨by decide, by decide⟩ (Nat.le_of_ble_eq_true rfl) ?_
  rw [hml]
  refine r_S1u hJ kX4_52 (c4_needState l E S (K, y)) dX4_leaseLowest_28 ⟨by decide, by decide⟩ (Nat.le_of_ble_eq_true rfl) ?_
  refine r_aload_n hJ dX4_leaseLowest_31 rfl jg0 ?_
  refine r_g4_2 hJ m148 dX4_leaseLowest_32 ?_
  refine r_aload_n hJ dX4_leaseLowest_35 rfl jg0 ?_
  refine r_g4_0 hJ m146 dX4_leaseLowest_36 ?_
  refine r_V1ux hJ (x' := (kpK S K, y)) rfl kX4_56 (rcv3 E) (g3_keep l E S K y hSI) dX4_leaseLowest_39 ⟨by decide, by decide⟩ (Nat.le_of_ble_eq_true rfl) ?_
  refine r_aload_n hJ dX4_leaseLowest_42 rfl jg0 ?_
  refine r_g4_0 hJ m146 dX4_leaseLowest_43 ?_
  refine r_iload_n hJ dX4_leaseLowest_46 rfl jg1 ?_
  refine r_iload_n hJ dX4_leaseLowest_47 rfl jg2 ?_
  refine r_iload_n hJ dX4_leaseLowest_48 rfl jg3 ?_
  have hl := g2_leaseRow l E (kpS S K) (kpK S K, y) (o := 0) (by decide) (by rw [e0]; exact hz) hz4 hh (m := m) (by omega) t
  rw [e0] at hl
  refine r_V3v hJ kX4_206 (rcv2 E (by decide)) (hl) dX4_leaseLowest_49 ⟨by decide, by decide⟩ (Nat.le_of_ble_eq_true rfl) ?_
  exact ret_i hF dX4_leaseLowest_52 rfl rfl

set_option maxRecDepth 100000 in
set_option maxHeartbeats 1000000 in
theorem t4_leaseLowest_h (l : Launch) (hst : l.stackTraces = false) (E : jE) (S : jS) (K : Nat → Nat) (y : Int64 × Nat) {h m t : Int32} (h0 : h < 0 ∨ ¬ h < nI 8) : CtT l E yX4_leaseLowest cX4_leaseLowest 4 (some .int) 7 [.ref (ad E 11 0), .int h, .int m, .int t] (S, (K, y)) "java/lang/IndexOutOfBoundsException" (nxt (S, (K, y))) := by
  refine CtT.of hst (by decide +kernel) (Nat.le_of_ble_eq_true rfl) rfl (fun J hJ hF => ?_)
  refine r_iload_n hJ dX4_leaseLowest_0 rfl jg1 ?_
  exact thrS1 hF kX4_37 (t4_needHolder l hst E S (K, y) h h0) dX4_leaseLowest_1 ⟨by decide, by decide⟩ (Nat.le_of_ble_eq_true rfl)

set_option maxRecDepth 100000 in
set_option maxHeartbeats 1000000 in
theorem t4_leaseLowest_m (l : Launch) (hst : l.stackTraces = false) (E : jE) (S : jS) (K : Nat → Nat) (y : Int64 × Nat) {h : Nat} (hh : h < 8) {m t : Int32} (h0 : m < nI 1 ∨ ¬ m ≤ nI 64) : CtT l E yX4_leaseLowest cX4_leaseLowest 4 (some .int) 7 [.ref (ad E 11 0), .int (nI h), .int m, .int t] (S, (K, y)) "java/lang/IllegalArgumentException" (nxt (S, (K, y))) := by
  refine CtT.of hst (by decide +kernel) (Nat.le_of_ble_eq_true rfl) rfl (fun J hJ hF => ?_)
  refine r_iload_n hJ dX4_leaseLowest_0 rfl jg1 ?_
  refine r_S1u hJ kX4_37 (c4_needHolder l E S (K, y) (nI h) (nI_pos (by omega)) (nI_lt (by omega) (by decide))) dX4_leaseLowest_1 ⟨by decide, by decide⟩ (Nat.le_of_ble_eq_true rfl) ?_
  refine r_iload_n hJ dX4_leaseLowest_4 rfl jg2 ?_
  refine r_iconst hJ (v := nI 1) dX4_leaseLowest_5 (by decide) ?_
  refine r_bipush hJ (v := nI 64) dX4_leaseLowest_6 (by decide) ?_
  exact thrS3 hF kX4_44 (t4_needRange l hst E S (K, y) m (nI 1) (nI 64) h0) dX4_leaseLowest_8 ⟨by decide, by decide⟩ (Nat.le_of_ble_eq_true rfl)

set_option maxRecDepth 100000 in
set_option maxHeartbeats 1000000 in
theorem t4_leaseLowest_t (l : Launch) (hst : l.stackTraces = false) (E : jE) (S : jS) (K : Nat → Nat) (y : Int64 × Nat) {h : Nat} (hh : h < 8) {m : Nat} (hm1 : 1 ≤ m) (hm64 : m ≤ 64) {t : Int32} (h0 : t < nI 1 ∨ ¬ t ≤ nI 999) : CtT l E yX4_leaseLowest cX4_leaseLowest 4 (some .int) 7 [.ref (ad E 11 0), .int (nI h), .int (nI m), .int t] (S, (K, y)) "java/lang/IllegalArgumentException" (nxt (S, (K, y))) := by
  refine CtT.of hst (by decide +kernel) (Nat.le_of_ble_eq_true rfl) rfl (fun J hJ hF => ?_)
  refine r_iload_n hJ dX4_leaseLowest_0 rfl jg1 ?_
  refine r_S1u hJ kX4_37 (c4_needHolder l E S (K, y) (nI h) (nI_pos (by omega)) (nI_lt (by omega) (by decide))) dX4_leaseLowest_1 ⟨by decide, by decide⟩ (Nat.le_of_ble_eq_true rfl) ?_
  refine r_iload_n hJ dX4_leaseLowest_4 rfl jg2 ?_
  refine r_iconst hJ (v := nI 1) dX4_leaseLowest_5 (by decide) ?_
  refine r_bipush hJ (v := nI 64) dX4_leaseLowest_6 (by decide) ?_
  refine r_S3u hJ kX4_44 (c4_needRange l E S (K, y) (nI m) (nI 1) (nI 64) (nI_nlt (by omega) (by omega)) (nI_le (by omega) (by omega))) dX4_leaseLowest_8 ⟨by decide, by decide⟩ (Nat.le_of_ble_eq_true rfl) ?_
  refine r_iload_n hJ dX4_leaseLowest_11 rfl jg3 ?_
  refine r_iconst hJ (v := nI 1) dX4_leaseLowest_12 (by decide) ?_
  refine r_sipush hJ (v := nI 999) dX4_leaseLowest_13 (by decide) ?_
  exact thrS3 hF kX4_44 (t4_needRange l hst E S (K, y) t (nI 1) (nI 999) h0) dX4_leaseLowest_16 ⟨by decide, by decide⟩ (Nat.le_of_ble_eq_true rfl)

set_option maxRecDepth 100000 in
set_option maxHeartbeats 1000000 in
theorem t4_leaseLowest_s (l : Launch) (hst : l.stackTraces = false) (E : jE) (S : jS) (K : Nat → Nat) (y : Int64 × Nat) {h : Nat} (hh : h < 8) {m : Nat} (hm1 : 1 ≤ m) (hm64 : m ≤ 64) {t : Int32} (ht1 : ¬ t < nI 1) (ht2 : t ≤ nI 999) {z : Nat} (hz : S 0 1 3 = nI z) (hz4 : z ≤ 64) (hml : (hasR (S 0) (nI h) (nI m) && (lowR (S 0) z (nI m)).isSome) = false) : CtT l E yX4_leaseLowest cX4_leaseLowest 4 (some .int) 7 [.ref (ad E 11 0), .int (nI h), .int (nI m), .int t] (S, (K, y)) "java/lang/IllegalStateException" (nxt (S, (K, y))) := by
  refine CtT.of hst (by decide +kernel) (Nat.le_of_ble_eq_true rfl) rfl (fun J hJ hF => ?_)
  refine r_iload_n hJ dX4_leaseLowest_0 rfl jg1 ?_
  refine r_S1u hJ kX4_37 (c4_needHolder l E S (K, y) (nI h) (nI_pos (by omega)) (nI_lt (by omega) (by decide))) dX4_leaseLowest_1 ⟨by decide, by decide⟩ (Nat.le_of_ble_eq_true rfl) ?_
  refine r_iload_n hJ dX4_leaseLowest_4 rfl jg2 ?_
  refine r_iconst hJ (v := nI 1) dX4_leaseLowest_5 (by decide) ?_
  refine r_bipush hJ (v := nI 64) dX4_leaseLowest_6 (by decide) ?_
  refine r_S3u hJ kX4_44 (c4_needRange l E S (K, y) (nI m) (nI 1) (nI 64) (nI_nlt (by omega) (by omega)) (nI_le (by omega) (by omega))) dX4_leaseLowest_8 ⟨by decide, by decide⟩ (Nat.le_of_ble_eq_true rfl) ?_
  refine r_iload_n hJ dX4_leaseLowest_11 rfl jg3 ?_
  refine r_iconst hJ (v := nI 1) dX4_leaseLowest_12 (by decide) ?_
  refine r_sipush hJ (v := nI 999) dX4_leaseLowest_13 (by decide) ?_
  refine r_S3u hJ kX4_44 (c4_needRange l E S (K, y) (t) (nI 1) (nI 999) ht1 ht2) dX4_leaseLowest_16 ⟨by decide, by decide⟩ (Nat.le_of_ble_eq_true rfl) ?_
  refine r_aload_n hJ dX4_leaseLowest_19 rfl jg0 ?_
  refine r_g4_0 hJ m146 dX4_leaseLowest_20 ?_
  refine r_iload_n hJ dX4_leaseLowest_23 rfl jg1 ?_
  refine r_iload_n hJ dX4_leaseLowest_24 rfl jg2 ?_
  refine r_V2v hJ kX4_203 (rcv2 E (by decide)) (g2_mayLease l E S (K, y) (o := 0) (by decide) hz hz4 (nI h) (nI m)) dX4_leaseLowest_25 ⟨by decide, by decide⟩ (Nat.le_of_ble_eq_true rfl) ?_
  rw [hml]
  exact thrS1 hF kX4_52 (t4_needState l hst E S (K, y)) dX4_leaseLowest_28 ⟨by decide, by decide⟩ (Nat.le_of_ble_eq_true rfl)

set_option maxRecDepth 100000 in
set_option maxHeartbeats 1000000 in
theorem c4_take (l : Launch) (E : jE) (S : jS) (K : Nat → Nat) (y : Int64 × Nat) {h : Nat} (hh : h < 8) {t : Int32} (ht1 : ¬ t < nI 1) (ht2 : t ≤ nI 999) {z : Nat} (hz : S 0 1 3 = nI z) (hz4 : z ≤ 64) (hSI : SI S K) (hml : (hasR (S 0) (nI h) (nI 1) && (lowR (S 0) z (nI 1)).isSome) = true) : Ct l E yX4_take cX4_take 3 (some .int) 8 [.ref (ad E 11 0), .int (nI h), .int t] (S, (K, y)) (some (.int (oI (lowR (S 0) z (nI 1))))) (setO (kpS S K) 0 (leaseRowP (S 0) z h 1 t), (kpK S K, y)) := by
  refine Ct.of (by decide +kernel) (Nat.le_refl _) (Nat.le_of_ble_eq_true rfl) rfl (fun J hJ hF => ?_)
  refine r_aload_n hJ dX4_take_0 rfl jg0 ?_
  refine r_iload_n hJ dX4_take_1 rfl jg1 ?_
  refine r_iconst hJ (v := nI 1) dX4_take_2 (by decide) ?_
  refine r_iload_n hJ dX4_take_3 rfl jg2 ?_
  refine r_V3vx hJ (x' := (kpK S K, y)) rfl kX4_33 (rcv4 E) (c4_leaseLowest l E S K y hh (m := 1) (by decide) (by decide) ht1 ht2 hz hz4 hSI hml) dX4_take_4 ⟨by decide, by decide⟩ (Nat.le_of_ble_eq_true rfl) ?_
  exact ret_i hF dX4_take_7 rfl rfl

set_option maxRecDepth 100000 in
set_option maxHeartbeats 1000000 in
theorem t4_take_h (l : Launch) (hst : l.stackTraces = false) (E : jE) (S : jS) (K : Nat → Nat) (y : Int64 × Nat) {h  t : Int32} (h0 : h < 0 ∨ ¬ h < nI 8) : CtT l E yX4_take cX4_take 3 (some .int) 8 [.ref (ad E 11 0), .int h, .int t] (S, (K, y)) "java/lang/IndexOutOfBoundsException" (nxt (S, (K, y))) := by
  refine CtT.of hst (by decide +kernel) (Nat.le_of_ble_eq_true rfl) rfl (fun J hJ hF => ?_)
  refine r_aload_n hJ dX4_take_0 rfl jg0 ?_
  refine r_iload_n hJ dX4_take_1 rfl jg1 ?_
  refine r_iconst hJ (v := nI 1) dX4_take_2 (by decide) ?_
  refine r_iload_n hJ dX4_take_3 rfl jg2 ?_
  exact thrV3 hF kX4_33 (rcv4 E) (t4_leaseLowest_h l hst E S K y h0) dX4_take_4 ⟨by decide, by decide⟩ (Nat.le_of_ble_eq_true rfl)

set_option maxRecDepth 100000 in
set_option maxHeartbeats 1000000 in
theorem t4_take_t (l : Launch) (hst : l.stackTraces = false) (E : jE) (S : jS) (K : Nat → Nat) (y : Int64 × Nat) {h : Nat} (hh : h < 8) {t : Int32} (h0 : t < nI 1 ∨ ¬ t ≤ nI 999) : CtT l E yX4_take cX4_take 3 (some .int) 8 [.ref (ad E 11 0), .int (nI h), .int t] (S, (K, y)) "java/lang/IllegalArgumentException" (nxt (S, (K, y))) := by
  refine CtT.of hst (by decide +kernel) (Nat.le_of_ble_eq_true rfl) rfl (fun J hJ hF => ?_)
  refine r_aload_n hJ dX4_take_0 rfl jg0 ?_
  refine r_iload_n hJ dX4_take_1 rfl jg1 ?_
  refine r_iconst hJ (v := nI 1) dX4_take_2 (by decide) ?_
  refine r_iload_n hJ dX4_take_3 rfl jg2 ?_
  exact thrV3 hF kX4_33 (rcv4 E) (t4_leaseLowest_t l hst E S K y hh (m := 1) (by decide) (by decide) h0) dX4_take_4 ⟨by decide, by decide⟩ (Nat.le_of_ble_eq_true rfl)

set_option maxRecDepth 100000 in
set_option maxHeartbeats 1000000 in
theorem t4_take_s (l : Launch) (hst : l.stackTraces = false) (E : jE) (S : jS) (K : Nat → Nat) (y : Int64 × Nat) {h : Nat} (hh : h < 8) {t : Int32} (ht1 : ¬ t < nI 1) (ht2 : t ≤ nI 999) {z : Nat} (hz : S 0 1 3 = nI z) (hz4 : z ≤ 64) (hml : (hasR (S 0) (nI h) (nI 1) && (lowR (S 0) z (nI 1)).isSome) = false) : CtT l E yX4_take cX4_take 3 (some .int) 8 [.ref (ad E 11 0), .int (nI h), .int t] (S, (K, y)) "java/lang/IllegalStateException" (nxt (S, (K, y))) := by
  refine CtT.of hst (by decide +kernel) (Nat.le_of_ble_eq_true rfl) rfl (fun J hJ hF => ?_)
  refine r_aload_n hJ dX4_take_0 rfl jg0 ?_
  refine r_iload_n hJ dX4_take_1 rfl jg1 ?_
  refine r_iconst hJ (v := nI 1) dX4_take_2 (by decide) ?_
  refine r_iload_n hJ dX4_take_3 rfl jg2 ?_
  exact thrV3 hF kX4_33 (rcv4 E) (t4_leaseLowest_s l hst E S K y hh (m := 1) (by decide) (by decide) ht1 ht2 hz hz4 hml) dX4_take_4 ⟨by decide, by decide⟩ (Nat.le_of_ble_eq_true rfl)

set_option maxRecDepth 100000 in
set_option maxHeartbeats 1000000 in
theorem c4_takeSpan (l : Launch) (E : jE) (S : jS) (K : Nat → Nat) (y : Int64 × Nat) {h : Nat} (hh : h < 8) {m : Nat} (hm1 : 1 ≤ m) (hm64 : m ≤ 64) {t : Int32} (ht1 : ¬ t < nI 1) (ht2 : t ≤ nI 999) {z : Nat} (hz : S 0 1 3 = nI z) (hz4 : z ≤ 64) (hSI : SI S K) (hml : (hasR (S 0) (nI h) (nI m) && (lowR (S 0) z (nI m)).isSome) = true) : Ct l E yX4_takeSpan cX4_takeSpan 4 (some .int) 8 [.ref (ad E 11 0), .int (nI h), .int (nI m), .int t] (S, (K, y)) (some (.int (oI (lowR (S 0) z (nI m))))) (setO (kpS S K) 0 (leaseRowP (S 0) z h m t), (kpK S K, y)) := by
  refine Ct.of (by decide +kernel) (Nat.le_refl _) (Nat.le_of_ble_eq_true rfl) rfl (fun J hJ hF => ?_)
  refine r_aload_n hJ dX4_takeSpan_0 rfl jg0 ?_
  refine r_iload_n hJ dX4_takeSpan_1 rfl jg1 ?_
  refine r_iload_n hJ dX4_takeSpan_2 rfl jg2 ?_
  refine r_iload_n hJ dX4_takeSpan_3 rfl jg3 ?_
  refine r_V3vx hJ (x' := (kpK S K, y)) rfl kX4_33 (rcv4 E) (c4_leaseLowest l E S K y hh (m := m) hm1 hm64 ht1 ht2 hz hz4 hSI hml) dX4_takeSpan_4 ⟨by decide, by decide⟩ (Nat.le_of_ble_eq_true rfl) ?_
  exact ret_i hF dX4_takeSpan_7 rfl rfl

set_option maxRecDepth 100000 in
set_option maxHeartbeats 1000000 in
theorem t4_takeSpan_h (l : Launch) (hst : l.stackTraces = false) (E : jE) (S : jS) (K : Nat → Nat) (y : Int64 × Nat) {h m t : Int32} (h0 : h < 0 ∨ ¬ h < nI 8) : CtT l E yX4_takeSpan cX4_takeSpan 4 (some .int) 8 [.ref (ad E 11 0), .int h, .int m, .int t] (S, (K, y)) "java/lang/IndexOutOfBoundsException" (nxt (S, (K, y))) := by
  refine CtT.of hst (by decide +kernel) (Nat.le_of_ble_eq_true rfl) rfl (fun J hJ hF => ?_)
  refine r_aload_n hJ dX4_takeSpan_0 rfl jg0 ?_
  refine r_iload_n hJ dX4_takeSpan_1 rfl jg1 ?_
  refine r_iload_n hJ dX4_takeSpan_2 rfl jg2 ?_
  refine r_iload_n hJ dX4_takeSpan_3 rfl jg3 ?_
  exact thrV3 hF kX4_33 (rcv4 E) (t4_leaseLowest_h l hst E S K y h0) dX4_takeSpan_4 ⟨by decide, by decide⟩ (Nat.le_of_ble_eq_true rfl)

set_option maxRecDepth 100000 in
set_option maxHeartbeats 1000000 in
theorem t4_takeSpan_t (l : Launch) (hst : l.stackTraces = false) (E : jE) (S : jS) (K : Nat → Nat) (y : Int64 × Nat) {h : Nat} (hh : h < 8) {m : Nat} (hm1 : 1 ≤ m) (hm64 : m ≤ 64) {t : Int32} (h0 : t < nI 1 ∨ ¬ t ≤ nI 999) : CtT l E yX4_takeSpan cX4_takeSpan 4 (some .int) 8 [.ref (ad E 11 0), .int (nI h), .int (nI m), .int t] (S, (K, y)) "java/lang/IllegalArgumentException" (nxt (S, (K, y))) := by
  refine CtT.of hst (by decide +kernel) (Nat.le_of_ble_eq_true rfl) rfl (fun J hJ hF => ?_)
  refine r_aload_n hJ dX4_takeSpan_0 rfl jg0 ?_
  refine r_iload_n hJ dX4_takeSpan_1 rfl jg1 ?_
  refine r_iload_n hJ dX4_takeSpan_2 rfl jg2 ?_
  refine r_iload_n hJ dX4_takeSpan_3 rfl jg3 ?_
  exact thrV3 hF kX4_33 (rcv4 E) (t4_leaseLowest_t l hst E S K y hh (m := m) hm1 hm64 h0) dX4_takeSpan_4 ⟨by decide, by decide⟩ (Nat.le_of_ble_eq_true rfl)

set_option maxRecDepth 100000 in
set_option maxHeartbeats 1000000 in
theorem t4_takeSpan_s (l : Launch) (hst : l.stackTraces = false) (E : jE) (S : jS) (K : Nat → Nat) (y : Int64 × Nat) {h : Nat} (hh : h < 8) {m : Nat} (hm1 : 1 ≤ m) (hm64 : m ≤ 64) {t : Int32} (ht1 : ¬ t < nI 1) (ht2 : t ≤ nI 999) {z : Nat} (hz : S 0 1 3 = nI z) (hz4 : z ≤ 64) (hml : (hasR (S 0) (nI h) (nI m) && (lowR (S 0) z (nI m)).isSome) = false) : CtT l E yX4_takeSpan cX4_takeSpan 4 (some .int) 8 [.ref (ad E 11 0), .int (nI h), .int (nI m), .int t] (S, (K, y)) "java/lang/IllegalStateException" (nxt (S, (K, y))) := by
  refine CtT.of hst (by decide +kernel) (Nat.le_of_ble_eq_true rfl) rfl (fun J hJ hF => ?_)
  refine r_aload_n hJ dX4_takeSpan_0 rfl jg0 ?_
  refine r_iload_n hJ dX4_takeSpan_1 rfl jg1 ?_
  refine r_iload_n hJ dX4_takeSpan_2 rfl jg2 ?_
  refine r_iload_n hJ dX4_takeSpan_3 rfl jg3 ?_
  exact thrV3 hF kX4_33 (rcv4 E) (t4_leaseLowest_s l hst E S K y hh (m := m) hm1 hm64 ht1 ht2 hz hz4 hml) dX4_takeSpan_4 ⟨by decide, by decide⟩ (Nat.le_of_ble_eq_true rfl)

set_option maxRecDepth 100000 in
set_option maxHeartbeats 1000000 in
theorem t4_takeSpan_m (l : Launch) (hst : l.stackTraces = false) (E : jE) (S : jS) (K : Nat → Nat) (y : Int64 × Nat) {h : Nat} (hh : h < 8) {m t : Int32} (h0 : m < nI 1 ∨ ¬ m ≤ nI 64) : CtT l E yX4_takeSpan cX4_takeSpan 4 (some .int) 8 [.ref (ad E 11 0), .int (nI h), .int m, .int t] (S, (K, y)) "java/lang/IllegalArgumentException" (nxt (S, (K, y))) := by
  refine CtT.of hst (by decide +kernel) (Nat.le_of_ble_eq_true rfl) rfl (fun J hJ hF => ?_)
  refine r_aload_n hJ dX4_takeSpan_0 rfl jg0 ?_
  refine r_iload_n hJ dX4_takeSpan_1 rfl jg1 ?_
  refine r_iload_n hJ dX4_takeSpan_2 rfl jg2 ?_
  refine r_iload_n hJ dX4_takeSpan_3 rfl jg3 ?_
  exact thrV3 hF kX4_33 (rcv4 E) (t4_leaseLowest_m l hst E S K y hh h0) dX4_takeSpan_4 ⟨by decide, by decide⟩ (Nat.le_of_ble_eq_true rfl)

set_option maxRecDepth 100000 in
set_option maxHeartbeats 1000000 in
theorem c4_wish (l : Launch) (E : jE) (S : jS) (K : Nat → Nat) (y : Int64 × Nat) {h : Nat} (hh : h < 8) {n : Nat} (hn : n < 64) (hok : okN S (nI n) = true) {t : Int32} (ht1 : ¬ t < nI 1) (ht2 : t ≤ nI 999) {w : Nat} (hw3 : w ≤ 3) (hw : S 0 7 n = nI w) (hSI : SI S K) (hml : mayW (S 0) (nI h) n = true) : Ct l E yX4_wish cX4_wish 4 (some .int) 7 [.ref (ad E 11 0), .int (nI h), .int (nI n), .int t] (S, (K, y)) (some (.int (if S 0 2 n = -1 then nI 0 else addW (S 0) h n t 7 n))) (setO (kpS S K) 0 (addW (S 0) h n t), (kpK S K, y)) := by
  have e0 : kpS S K 0 = S 0 := kpS_ne hSI (by omega)
  refine Ct.of (by decide +kernel) (Nat.le_refl _) (Nat.le_of_ble_eq_true rfl) rfl (fun J hJ hF => ?_)
  refine r_iload_n hJ dX4_wish_0 rfl jg1 ?_
  refine r_S1u hJ kX4_37 (c4_needHolder l E S (K, y) (nI h) (nI_pos (by omega)) (nI_lt (by omega) (by decide))) dX4_wish_1 ⟨by decide, by decide⟩ (Nat.le_of_ble_eq_true rfl) ?_
  refine r_aload_n hJ dX4_wish_4 rfl jg0 ?_
  refine r_iload_n hJ dX4_wish_5 rfl jg2 ?_
  refine r_V1u hJ kX4_41 (rcv4 E) (c4_needNumber l E S (K, y) (nI n) hok) dX4_wish_6 ⟨by decide, by decide⟩ (Nat.le_of_ble_eq_true rfl) ?_
  refine r_iload_n hJ dX4_wish_9 rfl jg3 ?_
  refine r_iconst hJ (v := nI 1) dX4_wish_10 (by decide) ?_
  refine r_sipush hJ (v := nI 999) dX4_wish_11 (by decide) ?_
  refine r_S3u hJ kX4_44 (c4_needRange l E S (K, y) (t) (nI 1) (nI 999) ht1 ht2) dX4_wish_14 ⟨by decide, by decide⟩ (Nat.le_of_ble_eq_true rfl) ?_
  refine r_aload_n hJ dX4_wish_17 rfl jg0 ?_
  refine r_g4_0 hJ m146 dX4_wish_18 ?_
  refine r_iload_n hJ dX4_wish_21 rfl jg1 ?_
  refine r_iload_n hJ dX4_wish_22 rfl jg2 ?_
  refine r_V2v hJ kX4_48 (rcv2 E (by decide)) (g2_mayWish l E S (K, y) (o := 0) (by decide) (nI h) hn hw3 hw) dX4_wish_23 ⟨by decide, by decide⟩ (Nat.le_of_ble_eq_true rfl) ?_
  rw [hml]
  refine r_S1u hJ kX4_52 (c4_needState l E S (K, y)) dX4_wish_26 ⟨by decide, by decide⟩ (Nat.le_of_ble_eq_true rfl) ?_
  refine r_aload_n hJ dX4_wish_29 rfl jg0 ?_
  refine r_g4_2 hJ m148 dX4_wish_30 ?_
  refine r_aload_n hJ dX4_wish_33 rfl jg0 ?_
  refine r_g4_0 hJ m146 dX4_wish_34 ?_
  refine r_V1ux hJ (x' := (kpK S K, y)) rfl kX4_56 (rcv3 E) (g3_keep l E S K y hSI) dX4_wish_37 ⟨by decide, by decide⟩ (Nat.le_of_ble_eq_true rfl) ?_
  refine r_aload_n hJ dX4_wish_40 rfl jg0 ?_
  refine r_g4_0 hJ m146 dX4_wish_41 ?_
  refine r_iload_n hJ dX4_wish_44 rfl jg1 ?_
  refine r_iload_n hJ dX4_wish_45 rfl jg2 ?_
  refine r_iload_n hJ dX4_wish_46 rfl jg3 ?_
  have hl := g2_addWish l E (kpS S K) (kpK S K, y) (o := 0) (by decide) hh hn t hw3 (by rw [e0]; exact hw)
  rw [e0] at hl
  refine r_V3v hJ kX4_60 (rcv2 E (by decide)) (hl) dX4_wish_47 ⟨by decide, by decide⟩ (Nat.le_of_ble_eq_true rfl) ?_
  exact ret_i hF dX4_wish_50 rfl rfl

set_option maxRecDepth 100000 in
set_option maxHeartbeats 1000000 in
theorem t4_wish_h (l : Launch) (hst : l.stackTraces = false) (E : jE) (S : jS) (K : Nat → Nat) (y : Int64 × Nat) {h n t : Int32} (h0 : h < 0 ∨ ¬ h < nI 8) : CtT l E yX4_wish cX4_wish 4 (some .int) 7 [.ref (ad E 11 0), .int h, .int n, .int t] (S, (K, y)) "java/lang/IndexOutOfBoundsException" (nxt (S, (K, y))) := by
  refine CtT.of hst (by decide +kernel) (Nat.le_of_ble_eq_true rfl) rfl (fun J hJ hF => ?_)
  refine r_iload_n hJ dX4_wish_0 rfl jg1 ?_
  exact thrS1 hF kX4_37 (t4_needHolder l hst E S (K, y) h h0) dX4_wish_1 ⟨by decide, by decide⟩ (Nat.le_of_ble_eq_true rfl)

set_option maxRecDepth 100000 in
set_option maxHeartbeats 1000000 in
theorem t4_wish_n (l : Launch) (hst : l.stackTraces = false) (E : jE) (S : jS) (K : Nat → Nat) (y : Int64 × Nat) {h : Nat} (hh : h < 8) {n t : Int32} (h0 : okN S n = false) : CtT l E yX4_wish cX4_wish 4 (some .int) 7 [.ref (ad E 11 0), .int (nI h), .int n, .int t] (S, (K, y)) "java/lang/IndexOutOfBoundsException" (nxt (S, (K, y))) := by
  refine CtT.of hst (by decide +kernel) (Nat.le_of_ble_eq_true rfl) rfl (fun J hJ hF => ?_)
  refine r_iload_n hJ dX4_wish_0 rfl jg1 ?_
  refine r_S1u hJ kX4_37 (c4_needHolder l E S (K, y) (nI h) (nI_pos (by omega)) (nI_lt (by omega) (by decide))) dX4_wish_1 ⟨by decide, by decide⟩ (Nat.le_of_ble_eq_true rfl) ?_
  refine r_aload_n hJ dX4_wish_4 rfl jg0 ?_
  refine r_iload_n hJ dX4_wish_5 rfl jg2 ?_
  exact thrV1 hF kX4_41 (rcv4 E) (t4_needNumber l hst E S (K, y) n h0) dX4_wish_6 ⟨by decide, by decide⟩ (Nat.le_of_ble_eq_true rfl)

set_option maxRecDepth 100000 in
set_option maxHeartbeats 1000000 in
theorem t4_wish_t (l : Launch) (hst : l.stackTraces = false) (E : jE) (S : jS) (K : Nat → Nat) (y : Int64 × Nat) {h : Nat} (hh : h < 8) {n : Nat} (hn : n < 64) (hok : okN S (nI n) = true) {t : Int32} (h0 : t < nI 1 ∨ ¬ t ≤ nI 999) : CtT l E yX4_wish cX4_wish 4 (some .int) 7 [.ref (ad E 11 0), .int (nI h), .int (nI n), .int t] (S, (K, y)) "java/lang/IllegalArgumentException" (nxt (S, (K, y))) := by
  refine CtT.of hst (by decide +kernel) (Nat.le_of_ble_eq_true rfl) rfl (fun J hJ hF => ?_)
  refine r_iload_n hJ dX4_wish_0 rfl jg1 ?_
  refine r_S1u hJ kX4_37 (c4_needHolder l E S (K, y) (nI h) (nI_pos (by omega)) (nI_lt (by omega) (by decide))) dX4_wish_1 ⟨by decide, by decide⟩ (Nat.le_of_ble_eq_true rfl) ?_
  refine r_aload_n hJ dX4_wish_4 rfl jg0 ?_
  refine r_iload_n hJ dX4_wish_5 rfl jg2 ?_
  refine r_V1u hJ kX4_41 (rcv4 E) (c4_needNumber l E S (K, y) (nI n) hok) dX4_wish_6 ⟨by decide, by decide⟩ (Nat.le_of_ble_eq_true rfl) ?_
  refine r_iload_n hJ dX4_wish_9 rfl jg3 ?_
  refine r_iconst hJ (v := nI 1) dX4_wish_10 (by decide) ?_
  refine r_sipush hJ (v := nI 999) dX4_wish_11 (by decide) ?_
  exact thrS3 hF kX4_44 (t4_needRange l hst E S (K, y) t (nI 1) (nI 999) h0) dX4_wish_14 ⟨by decide, by decide⟩ (Nat.le_of_ble_eq_true rfl)

set_option maxRecDepth 100000 in
set_option maxHeartbeats 1000000 in
theorem t4_wish_s (l : Launch) (hst : l.stackTraces = false) (E : jE) (S : jS) (K : Nat → Nat) (y : Int64 × Nat) {h : Nat} (hh : h < 8) {n : Nat} (hn : n < 64) (hok : okN S (nI n) = true) {t : Int32} (ht1 : ¬ t < nI 1) (ht2 : t ≤ nI 999) {w : Nat} (hw3 : w ≤ 3) (hw : S 0 7 n = nI w) (hml : mayW (S 0) (nI h) n = false) : CtT l E yX4_wish cX4_wish 4 (some .int) 7 [.ref (ad E 11 0), .int (nI h), .int (nI n), .int t] (S, (K, y)) "java/lang/IllegalStateException" (nxt (S, (K, y))) := by
  refine CtT.of hst (by decide +kernel) (Nat.le_of_ble_eq_true rfl) rfl (fun J hJ hF => ?_)
  refine r_iload_n hJ dX4_wish_0 rfl jg1 ?_
  refine r_S1u hJ kX4_37 (c4_needHolder l E S (K, y) (nI h) (nI_pos (by omega)) (nI_lt (by omega) (by decide))) dX4_wish_1 ⟨by decide, by decide⟩ (Nat.le_of_ble_eq_true rfl) ?_
  refine r_aload_n hJ dX4_wish_4 rfl jg0 ?_
  refine r_iload_n hJ dX4_wish_5 rfl jg2 ?_
  refine r_V1u hJ kX4_41 (rcv4 E) (c4_needNumber l E S (K, y) (nI n) hok) dX4_wish_6 ⟨by decide, by decide⟩ (Nat.le_of_ble_eq_true rfl) ?_
  refine r_iload_n hJ dX4_wish_9 rfl jg3 ?_
  refine r_iconst hJ (v := nI 1) dX4_wish_10 (by decide) ?_
  refine r_sipush hJ (v := nI 999) dX4_wish_11 (by decide) ?_
  refine r_S3u hJ kX4_44 (c4_needRange l E S (K, y) (t) (nI 1) (nI 999) ht1 ht2) dX4_wish_14 ⟨by decide, by decide⟩ (Nat.le_of_ble_eq_true rfl) ?_
  refine r_aload_n hJ dX4_wish_17 rfl jg0 ?_
  refine r_g4_0 hJ m146 dX4_wish_18 ?_
  refine r_iload_n hJ dX4_wish_21 rfl jg1 ?_
  refine r_iload_n hJ dX4_wish_22 rfl jg2 ?_
  refine r_V2v hJ kX4_48 (rcv2 E (by decide)) (g2_mayWish l E S (K, y) (o := 0) (by decide) (nI h) hn hw3 hw) dX4_wish_23 ⟨by decide, by decide⟩ (Nat.le_of_ble_eq_true rfl) ?_
  rw [hml]
  exact thrS1 hF kX4_52 (t4_needState l hst E S (K, y)) dX4_wish_26 ⟨by decide, by decide⟩ (Nat.le_of_ble_eq_true rfl)

set_option maxRecDepth 100000 in
set_option maxHeartbeats 1000000 in
theorem c4_unwish (l : Launch) (E : jE) (S : jS) (K : Nat → Nat) (y : Int64 × Nat) {h : Nat} (hh : h < 8) {n : Nat} (hn : n < 64) (hok : okN S (nI n) = true) {w : Nat} (hw3 : w ≤ 3) (hw : S 0 7 n = nI w) (hSI : SI S K) {q : Nat} (hq : q < w) (hml : placeW (S 0) (nI h) n = some q) : Ct l E yX4_unwish cX4_unwish 4 (some .int) 7 [.ref (ad E 11 0), .int (nI h), .int (nI n)] (S, (K, y)) (some (.int (dropP (S 0) n q 7 n))) (setO (kpS S K) 0 (dropP (S 0) n q), (kpK S K, y)) := by
  have e0 : kpS S K 0 = S 0 := kpS_ne hSI (by omega)
  refine Ct.of (by decide +kernel) (Nat.le_refl _) (Nat.le_of_ble_eq_true rfl) rfl (fun J hJ hF => ?_)
  refine r_iload_n hJ dX4_unwish_0 rfl jg1 ?_
  refine r_S1u hJ kX4_37 (c4_needHolder l E S (K, y) (nI h) (nI_pos (by omega)) (nI_lt (by omega) (by decide))) dX4_unwish_1 ⟨by decide, by decide⟩ (Nat.le_of_ble_eq_true rfl) ?_
  refine r_aload_n hJ dX4_unwish_4 rfl jg0 ?_
  refine r_iload_n hJ dX4_unwish_5 rfl jg2 ?_
  refine r_V1u hJ kX4_41 (rcv4 E) (c4_needNumber l E S (K, y) (nI n) hok) dX4_unwish_6 ⟨by decide, by decide⟩ (Nat.le_of_ble_eq_true rfl) ?_
  refine r_aload_n hJ dX4_unwish_9 rfl jg0 ?_
  refine r_g4_0 hJ m146 dX4_unwish_10 ?_
  refine r_iload_n hJ dX4_unwish_13 rfl jg1 ?_
  refine r_iload_n hJ dX4_unwish_14 rfl jg2 ?_
  refine r_V2v hJ kX4_63 (rcv2 E (by decide)) (g2_placeOfWish l E S (K, y) (o := 0) (by decide) (nI h) hn hw3 hw) dX4_unwish_15 ⟨by decide, by decide⟩ (Nat.le_of_ble_eq_true rfl) ?_
  rw [hml]
  refine r_istore_n hJ dX4_unwish_18 rfl (jp3 rfl rfl) ?_
  refine r_iload_n hJ dX4_unwish_19 rfl jg3 ?_
  refine r_iconst hJ (v := (-1)) dX4_unwish_20 (by decide) ?_
  refine r_icmp_eq hJ (tgt := 28) dX4_unwish_21 (by decide) (fun c21 => ?_) (fun c21 => ?_)
  · exact absurd c21 (nI_m1 (by omega))
  · refine r_iconst hJ (v := bI true) dX4_unwish_24 (by decide) ?_
    refine r_goto hJ (tgt := 29) dX4_unwish_25 (by decide) ?_
    refine r_S1u hJ kX4_52 (c4_needState l E S (K, y)) dX4_unwish_29 ⟨by decide, by decide⟩ (Nat.le_of_ble_eq_true rfl) ?_
    refine r_aload_n hJ dX4_unwish_32 rfl jg0 ?_
    refine r_g4_2 hJ m148 dX4_unwish_33 ?_
    refine r_aload_n hJ dX4_unwish_36 rfl jg0 ?_
    refine r_g4_0 hJ m146 dX4_unwish_37 ?_
    refine r_V1ux hJ (x' := (kpK S K, y)) rfl kX4_56 (rcv3 E) (g3_keep l E S K y hSI) dX4_unwish_40 ⟨by decide, by decide⟩ (Nat.le_of_ble_eq_true rfl) ?_
    refine r_aload_n hJ dX4_unwish_43 rfl jg0 ?_
    refine r_g4_0 hJ m146 dX4_unwish_44 ?_
    refine r_iload_n hJ dX4_unwish_47 rfl jg2 ?_
    refine r_iload_n hJ dX4_unwish_48 rfl jg3 ?_
    have hl := g2_dropWish l E (kpS S K) (kpK S K, y) (o := 0) (by decide) hn hw3 (by rw [e0]; exact hw) hq
    rw [e0] at hl
    refine r_V2u hJ kX4_67 (rcv2 E (by decide)) (hl) dX4_unwish_49 ⟨by decide, by decide⟩ (Nat.le_of_ble_eq_true rfl) ?_
    refine r_aload_n hJ dX4_unwish_52 rfl jg0 ?_
    refine r_g4_0 hJ m146 dX4_unwish_53 ?_
    refine r_g2_10 hJ (by decide) m65 dX4_unwish_56 ?_
    refine r_iload_n hJ dX4_unwish_59 rfl jg2 ?_
    refine r_ialdO hJ (by omega) (alP7 (by decide) (by omega)) rfl dX4_unwish_60 ?_
    exact ret_i hF dX4_unwish_61 rfl rfl

set_option maxRecDepth 100000 in
set_option maxHeartbeats 1000000 in
theorem t4_unwish_h (l : Launch) (hst : l.stackTraces = false) (E : jE) (S : jS) (K : Nat → Nat) (y : Int64 × Nat) {h n : Int32} (h0 : h < 0 ∨ ¬ h < nI 8) : CtT l E yX4_unwish cX4_unwish 4 (some .int) 7 [.ref (ad E 11 0), .int h, .int n] (S, (K, y)) "java/lang/IndexOutOfBoundsException" (nxt (S, (K, y))) := by
  refine CtT.of hst (by decide +kernel) (Nat.le_of_ble_eq_true rfl) rfl (fun J hJ hF => ?_)
  refine r_iload_n hJ dX4_unwish_0 rfl jg1 ?_
  exact thrS1 hF kX4_37 (t4_needHolder l hst E S (K, y) h h0) dX4_unwish_1 ⟨by decide, by decide⟩ (Nat.le_of_ble_eq_true rfl)

set_option maxRecDepth 100000 in
set_option maxHeartbeats 1000000 in
theorem t4_unwish_n (l : Launch) (hst : l.stackTraces = false) (E : jE) (S : jS) (K : Nat → Nat) (y : Int64 × Nat) {h : Nat} (hh : h < 8) {n : Int32} (h0 : okN S n = false) : CtT l E yX4_unwish cX4_unwish 4 (some .int) 7 [.ref (ad E 11 0), .int (nI h), .int n] (S, (K, y)) "java/lang/IndexOutOfBoundsException" (nxt (S, (K, y))) := by
  refine CtT.of hst (by decide +kernel) (Nat.le_of_ble_eq_true rfl) rfl (fun J hJ hF => ?_)
  refine r_iload_n hJ dX4_unwish_0 rfl jg1 ?_
  refine r_S1u hJ kX4_37 (c4_needHolder l E S (K, y) (nI h) (nI_pos (by omega)) (nI_lt (by omega) (by decide))) dX4_unwish_1 ⟨by decide, by decide⟩ (Nat.le_of_ble_eq_true rfl) ?_
  refine r_aload_n hJ dX4_unwish_4 rfl jg0 ?_
  refine r_iload_n hJ dX4_unwish_5 rfl jg2 ?_
  exact thrV1 hF kX4_41 (rcv4 E) (t4_needNumber l hst E S (K, y) n h0) dX4_unwish_6 ⟨by decide, by decide⟩ (Nat.le_of_ble_eq_true rfl)

set_option maxRecDepth 100000 in
set_option maxHeartbeats 1000000 in
theorem t4_unwish_s (l : Launch) (hst : l.stackTraces = false) (E : jE) (S : jS) (K : Nat → Nat) (y : Int64 × Nat) {h : Nat} (hh : h < 8) {n : Nat} (hn : n < 64) (hok : okN S (nI n) = true) {w : Nat} (hw3 : w ≤ 3) (hw : S 0 7 n = nI w) (hml : placeW (S 0) (nI h) n = none) : CtT l E yX4_unwish cX4_unwish 4 (some .int) 7 [.ref (ad E 11 0), .int (nI h), .int (nI n)] (S, (K, y)) "java/lang/IllegalStateException" (nxt (S, (K, y))) := by
  refine CtT.of hst (by decide +kernel) (Nat.le_of_ble_eq_true rfl) rfl (fun J hJ hF => ?_)
  refine r_iload_n hJ dX4_unwish_0 rfl jg1 ?_
  refine r_S1u hJ kX4_37 (c4_needHolder l E S (K, y) (nI h) (nI_pos (by omega)) (nI_lt (by omega) (by decide))) dX4_unwish_1 ⟨by decide, by decide⟩ (Nat.le_of_ble_eq_true rfl) ?_
  refine r_aload_n hJ dX4_unwish_4 rfl jg0 ?_
  refine r_iload_n hJ dX4_unwish_5 rfl jg2 ?_
  refine r_V1u hJ kX4_41 (rcv4 E) (c4_needNumber l E S (K, y) (nI n) hok) dX4_unwish_6 ⟨by decide, by decide⟩ (Nat.le_of_ble_eq_true rfl) ?_
  refine r_aload_n hJ dX4_unwish_9 rfl jg0 ?_
  refine r_g4_0 hJ m146 dX4_unwish_10 ?_
  refine r_iload_n hJ dX4_unwish_13 rfl jg1 ?_
  refine r_iload_n hJ dX4_unwish_14 rfl jg2 ?_
  refine r_V2v hJ kX4_63 (rcv2 E (by decide)) (g2_placeOfWish l E S (K, y) (o := 0) (by decide) (nI h) hn hw3 hw) dX4_unwish_15 ⟨by decide, by decide⟩ (Nat.le_of_ble_eq_true rfl) ?_
  rw [hml]
  refine r_istore_n hJ dX4_unwish_18 rfl (jp3 rfl rfl) ?_
  refine r_iload_n hJ dX4_unwish_19 rfl jg3 ?_
  refine r_iconst hJ (v := (-1)) dX4_unwish_20 (by decide) ?_
  refine r_icmp_eq hJ (tgt := 28) dX4_unwish_21 (by decide) (fun c21 => ?_) (fun c21 => ?_)
  · refine r_iconst hJ (v := bI false) dX4_unwish_28 (by decide) ?_
    exact thrS1 hF kX4_52 (t4_needState l hst E S (K, y)) dX4_unwish_29 ⟨by decide, by decide⟩ (Nat.le_of_ble_eq_true rfl)
  · exact absurd rfl c21

set_option maxRecDepth 100000 in
set_option maxHeartbeats 1000000 in
theorem c4_renew (l : Launch) (E : jE) (S : jS) (K : Nat → Nat) (y : Int64 × Nat) {h : Nat} (hh : h < 8) {n : Nat} (hn : n < 64) (hok : okN S (nI n) = true) {t : Int32} (ht1 : ¬ t < nI 1) (ht2 : t ≤ nI 999) (hSI : SI S K) (hml : (decide (S 0 2 n = nI h) && (decide (S 0 1 2 = 0) || decide (S 0 7 n = 0))) = true) : Ct l E yX4_renew cX4_renew 4 (some .int) 7 [.ref (ad E 11 0), .int (nI h), .int (nI n), .int t] (S, (K, y)) (some (.int (S 0 4 n))) (setO (kpS S K) 0 (prolP (S 0) n t), (kpK S K, y)) := by
  have e0 : kpS S K 0 = S 0 := kpS_ne hSI (by omega)
  refine Ct.of (by decide +kernel) (Nat.le_refl _) (Nat.le_of_ble_eq_true rfl) rfl (fun J hJ hF => ?_)
  refine r_iload_n hJ dX4_renew_0 rfl jg1 ?_
  refine r_S1u hJ kX4_37 (c4_needHolder l E S (K, y) (nI h) (nI_pos (by omega)) (nI_lt (by omega) (by decide))) dX4_renew_1 ⟨by decide, by decide⟩ (Nat.le_of_ble_eq_true rfl) ?_
  refine r_aload_n hJ dX4_renew_4 rfl jg0 ?_
  refine r_iload_n hJ dX4_renew_5 rfl jg2 ?_
  refine r_V1u hJ kX4_41 (rcv4 E) (c4_needNumber l E S (K, y) (nI n) hok) dX4_renew_6 ⟨by decide, by decide⟩ (Nat.le_of_ble_eq_true rfl) ?_
  refine r_iload_n hJ dX4_renew_9 rfl jg3 ?_
  refine r_iconst hJ (v := nI 1) dX4_renew_10 (by decide) ?_
  refine r_sipush hJ (v := nI 999) dX4_renew_11 (by decide) ?_
  refine r_S3u hJ kX4_44 (c4_needRange l E S (K, y) (t) (nI 1) (nI 999) ht1 ht2) dX4_renew_14 ⟨by decide, by decide⟩ (Nat.le_of_ble_eq_true rfl) ?_
  refine r_aload_n hJ dX4_renew_17 rfl jg0 ?_
  refine r_g4_0 hJ m146 dX4_renew_18 ?_
  refine r_iload_n hJ dX4_renew_21 rfl jg1 ?_
  refine r_iload_n hJ dX4_renew_22 rfl jg2 ?_
  refine r_V2v hJ kX4_75 (rcv2 E (by decide)) (g2_mayRenew l E S (K, y) (o := 0) (by decide) (nI h) hn) dX4_renew_23 ⟨by decide, by decide⟩ (Nat.le_of_ble_eq_true rfl) ?_
  rw [hml]
  refine r_S1u hJ kX4_52 (c4_needState l E S (K, y)) dX4_renew_26 ⟨by decide, by decide⟩ (Nat.le_of_ble_eq_true rfl) ?_
  refine r_aload_n hJ dX4_renew_29 rfl jg0 ?_
  refine r_g4_2 hJ m148 dX4_renew_30 ?_
  refine r_aload_n hJ dX4_renew_33 rfl jg0 ?_
  refine r_g4_0 hJ m146 dX4_renew_34 ?_
  refine r_V1ux hJ (x' := (kpK S K, y)) rfl kX4_56 (rcv3 E) (g3_keep l E S K y hSI) dX4_renew_37 ⟨by decide, by decide⟩ (Nat.le_of_ble_eq_true rfl) ?_
  refine r_aload_n hJ dX4_renew_40 rfl jg0 ?_
  refine r_g4_0 hJ m146 dX4_renew_41 ?_
  refine r_iload_n hJ dX4_renew_44 rfl jg2 ?_
  refine r_iload_n hJ dX4_renew_45 rfl jg3 ?_
  have hl := g2_prolong l E (kpS S K) (kpK S K, y) (o := 0) (by decide) hn t
  rw [e0] at hl
  refine r_V2v hJ kX4_78 (rcv2 E (by decide)) (hl) dX4_renew_46 ⟨by decide, by decide⟩ (Nat.le_of_ble_eq_true rfl) ?_
  exact ret_i hF dX4_renew_49 rfl rfl

set_option maxRecDepth 100000 in
set_option maxHeartbeats 1000000 in
theorem t4_renew_h (l : Launch) (hst : l.stackTraces = false) (E : jE) (S : jS) (K : Nat → Nat) (y : Int64 × Nat) {h n t : Int32} (h0 : h < 0 ∨ ¬ h < nI 8) : CtT l E yX4_renew cX4_renew 4 (some .int) 7 [.ref (ad E 11 0), .int h, .int n, .int t] (S, (K, y)) "java/lang/IndexOutOfBoundsException" (nxt (S, (K, y))) := by
  refine CtT.of hst (by decide +kernel) (Nat.le_of_ble_eq_true rfl) rfl (fun J hJ hF => ?_)
  refine r_iload_n hJ dX4_renew_0 rfl jg1 ?_
  exact thrS1 hF kX4_37 (t4_needHolder l hst E S (K, y) h h0) dX4_renew_1 ⟨by decide, by decide⟩ (Nat.le_of_ble_eq_true rfl)

set_option maxRecDepth 100000 in
set_option maxHeartbeats 1000000 in
theorem t4_renew_n (l : Launch) (hst : l.stackTraces = false) (E : jE) (S : jS) (K : Nat → Nat) (y : Int64 × Nat) {h : Nat} (hh : h < 8) {n t : Int32} (h0 : okN S n = false) : CtT l E yX4_renew cX4_renew 4 (some .int) 7 [.ref (ad E 11 0), .int (nI h), .int n, .int t] (S, (K, y)) "java/lang/IndexOutOfBoundsException" (nxt (S, (K, y))) := by
  refine CtT.of hst (by decide +kernel) (Nat.le_of_ble_eq_true rfl) rfl (fun J hJ hF => ?_)
  refine r_iload_n hJ dX4_renew_0 rfl jg1 ?_
  refine r_S1u hJ kX4_37 (c4_needHolder l E S (K, y) (nI h) (nI_pos (by omega)) (nI_lt (by omega) (by decide))) dX4_renew_1 ⟨by decide, by decide⟩ (Nat.le_of_ble_eq_true rfl) ?_
  refine r_aload_n hJ dX4_renew_4 rfl jg0 ?_
  refine r_iload_n hJ dX4_renew_5 rfl jg2 ?_
  exact thrV1 hF kX4_41 (rcv4 E) (t4_needNumber l hst E S (K, y) n h0) dX4_renew_6 ⟨by decide, by decide⟩ (Nat.le_of_ble_eq_true rfl)

set_option maxRecDepth 100000 in
set_option maxHeartbeats 1000000 in
theorem t4_renew_t (l : Launch) (hst : l.stackTraces = false) (E : jE) (S : jS) (K : Nat → Nat) (y : Int64 × Nat) {h : Nat} (hh : h < 8) {n : Nat} (hn : n < 64) (hok : okN S (nI n) = true) {t : Int32} (h0 : t < nI 1 ∨ ¬ t ≤ nI 999) : CtT l E yX4_renew cX4_renew 4 (some .int) 7 [.ref (ad E 11 0), .int (nI h), .int (nI n), .int t] (S, (K, y)) "java/lang/IllegalArgumentException" (nxt (S, (K, y))) := by
  refine CtT.of hst (by decide +kernel) (Nat.le_of_ble_eq_true rfl) rfl (fun J hJ hF => ?_)
  refine r_iload_n hJ dX4_renew_0 rfl jg1 ?_
  refine r_S1u hJ kX4_37 (c4_needHolder l E S (K, y) (nI h) (nI_pos (by omega)) (nI_lt (by omega) (by decide))) dX4_renew_1 ⟨by decide, by decide⟩ (Nat.le_of_ble_eq_true rfl) ?_
  refine r_aload_n hJ dX4_renew_4 rfl jg0 ?_
  refine r_iload_n hJ dX4_renew_5 rfl jg2 ?_
  refine r_V1u hJ kX4_41 (rcv4 E) (c4_needNumber l E S (K, y) (nI n) hok) dX4_renew_6 ⟨by decide, by decide⟩ (Nat.le_of_ble_eq_true rfl) ?_
  refine r_iload_n hJ dX4_renew_9 rfl jg3 ?_
  refine r_iconst hJ (v := nI 1) dX4_renew_10 (by decide) ?_
  refine r_sipush hJ (v := nI 999) dX4_renew_11 (by decide) ?_
  exact thrS3 hF kX4_44 (t4_needRange l hst E S (K, y) t (nI 1) (nI 999) h0) dX4_renew_14 ⟨by decide, by decide⟩ (Nat.le_of_ble_eq_true rfl)

set_option maxRecDepth 100000 in
set_option maxHeartbeats 1000000 in
theorem t4_renew_s (l : Launch) (hst : l.stackTraces = false) (E : jE) (S : jS) (K : Nat → Nat) (y : Int64 × Nat) {h : Nat} (hh : h < 8) {n : Nat} (hn : n < 64) (hok : okN S (nI n) = true) {t : Int32} (ht1 : ¬ t < nI 1) (ht2 : t ≤ nI 999) (hml : (decide (S 0 2 n = nI h) && (decide (S 0 1 2 = 0) || decide (S 0 7 n = 0))) = false) : CtT l E yX4_renew cX4_renew 4 (some .int) 7 [.ref (ad E 11 0), .int (nI h), .int (nI n), .int t] (S, (K, y)) "java/lang/IllegalStateException" (nxt (S, (K, y))) := by
  refine CtT.of hst (by decide +kernel) (Nat.le_of_ble_eq_true rfl) rfl (fun J hJ hF => ?_)
  refine r_iload_n hJ dX4_renew_0 rfl jg1 ?_
  refine r_S1u hJ kX4_37 (c4_needHolder l E S (K, y) (nI h) (nI_pos (by omega)) (nI_lt (by omega) (by decide))) dX4_renew_1 ⟨by decide, by decide⟩ (Nat.le_of_ble_eq_true rfl) ?_
  refine r_aload_n hJ dX4_renew_4 rfl jg0 ?_
  refine r_iload_n hJ dX4_renew_5 rfl jg2 ?_
  refine r_V1u hJ kX4_41 (rcv4 E) (c4_needNumber l E S (K, y) (nI n) hok) dX4_renew_6 ⟨by decide, by decide⟩ (Nat.le_of_ble_eq_true rfl) ?_
  refine r_iload_n hJ dX4_renew_9 rfl jg3 ?_
  refine r_iconst hJ (v := nI 1) dX4_renew_10 (by decide) ?_
  refine r_sipush hJ (v := nI 999) dX4_renew_11 (by decide) ?_
  refine r_S3u hJ kX4_44 (c4_needRange l E S (K, y) (t) (nI 1) (nI 999) ht1 ht2) dX4_renew_14 ⟨by decide, by decide⟩ (Nat.le_of_ble_eq_true rfl) ?_
  refine r_aload_n hJ dX4_renew_17 rfl jg0 ?_
  refine r_g4_0 hJ m146 dX4_renew_18 ?_
  refine r_iload_n hJ dX4_renew_21 rfl jg1 ?_
  refine r_iload_n hJ dX4_renew_22 rfl jg2 ?_
  refine r_V2v hJ kX4_75 (rcv2 E (by decide)) (g2_mayRenew l E S (K, y) (o := 0) (by decide) (nI h) hn) dX4_renew_23 ⟨by decide, by decide⟩ (Nat.le_of_ble_eq_true rfl) ?_
  rw [hml]
  exact thrS1 hF kX4_52 (t4_needState l hst E S (K, y)) dX4_renew_26 ⟨by decide, by decide⟩ (Nat.le_of_ble_eq_true rfl)

set_option maxRecDepth 100000 in
set_option maxHeartbeats 1000000 in
theorem c4_giveBack (l : Launch) (E : jE) (S : jS) (K : Nat → Nat) (y : Int64 × Nat) {h : Nat} (hh : h < 8) {a b : Nat} (hb : b < 64) (hoka : okN S (nI a) = true) (hokb : okN S (nI b) = true) (ha : a < 64) (hP : PI (S 0)) (hSI : SI S K) (hab : a ≤ b) : Ct l E yX4_giveBack cX4_giveBack 4 (some .int) 7 [.ref (ad E 11 0), .int (nI h), .int (nI a), .int (nI b)] (S, (K, y)) (some (.int (nI (spanN (nI h) (b + 1 - a) a (S 0, 0)).2))) (setO (kpS S K) 0 ((spanN (nI h) (b + 1 - a) a (S 0, 0)).1), (kpK S K, y)) := by
  have e0 : kpS S K 0 = S 0 := kpS_ne hSI (by omega)
  refine Ct.of (by decide +kernel) (Nat.le_refl _) (Nat.le_of_ble_eq_true rfl) rfl (fun J hJ hF => ?_)
  refine r_iload_n hJ dX4_giveBack_0 rfl jg1 ?_
  refine r_S1u hJ kX4_37 (c4_needHolder l E S (K, y) (nI h) (nI_pos (by omega)) (nI_lt (by omega) (by decide))) dX4_giveBack_1 ⟨by decide, by decide⟩ (Nat.le_of_ble_eq_true rfl) ?_
  refine r_aload_n hJ dX4_giveBack_4 rfl jg0 ?_
  refine r_iload_n hJ dX4_giveBack_5 rfl jg2 ?_
  refine r_V1u hJ kX4_41 (rcv4 E) (c4_needNumber l E S (K, y) (nI a) hoka) dX4_giveBack_6 ⟨by decide, by decide⟩ (Nat.le_of_ble_eq_true rfl) ?_
  refine r_aload_n hJ dX4_giveBack_9 rfl jg0 ?_
  refine r_iload_n hJ dX4_giveBack_10 rfl jg3 ?_
  refine r_V1u hJ kX4_41 (rcv4 E) (c4_needNumber l E S (K, y) (nI b) hokb) dX4_giveBack_11 ⟨by decide, by decide⟩ (Nat.le_of_ble_eq_true rfl) ?_
  refine r_iload_n hJ dX4_giveBack_14 rfl jg3 ?_
  refine r_iload_n hJ dX4_giveBack_15 rfl jg2 ?_
  refine r_bipush hJ (v := nI 64) dX4_giveBack_16 (by decide) ?_
  refine r_S3u hJ kX4_44 (c4_needRange l E S (K, y) (nI b) (nI a) (nI 64) (nI_nlt (by omega) (by omega)) (nI_le (by omega) (by omega))) dX4_giveBack_18 ⟨by decide, by decide⟩ (Nat.le_of_ble_eq_true rfl) ?_
  refine r_aload_n hJ dX4_giveBack_21 rfl jg0 ?_
  refine r_g4_2 hJ m148 dX4_giveBack_22 ?_
  refine r_aload_n hJ dX4_giveBack_25 rfl jg0 ?_
  refine r_g4_0 hJ m146 dX4_giveBack_26 ?_
  refine r_V1ux hJ (x' := (kpK S K, y)) rfl kX4_56 (rcv3 E) (g3_keep l E S K y hSI) dX4_giveBack_29 ⟨by decide, by decide⟩ (Nat.le_of_ble_eq_true rfl) ?_
  refine r_aload_n hJ dX4_giveBack_32 rfl jg0 ?_
  refine r_g4_0 hJ m146 dX4_giveBack_33 ?_
  refine r_iload_n hJ dX4_giveBack_36 rfl jg1 ?_
  refine r_iload_n hJ dX4_giveBack_37 rfl jg2 ?_
  refine r_iload_n hJ dX4_giveBack_38 rfl jg3 ?_
  have hl := g2_freeSpan l E (kpS S K) (kpK S K, y) (o := 0) (by decide) (by rw [e0]; exact hP) (nI h) hab hb
  rw [e0] at hl
  refine r_V3v hJ kX4_81 (rcv2 E (by decide)) (hl) dX4_giveBack_39 ⟨by decide, by decide⟩ (Nat.le_of_ble_eq_true rfl) ?_
  exact ret_i hF dX4_giveBack_42 rfl rfl

set_option maxRecDepth 100000 in
set_option maxHeartbeats 1000000 in
theorem t4_giveBack_h (l : Launch) (hst : l.stackTraces = false) (E : jE) (S : jS) (K : Nat → Nat) (y : Int64 × Nat) {h a b : Int32} (h0 : h < 0 ∨ ¬ h < nI 8) : CtT l E yX4_giveBack cX4_giveBack 4 (some .int) 7 [.ref (ad E 11 0), .int h, .int a, .int b] (S, (K, y)) "java/lang/IndexOutOfBoundsException" (nxt (S, (K, y))) := by
  refine CtT.of hst (by decide +kernel) (Nat.le_of_ble_eq_true rfl) rfl (fun J hJ hF => ?_)
  refine r_iload_n hJ dX4_giveBack_0 rfl jg1 ?_
  exact thrS1 hF kX4_37 (t4_needHolder l hst E S (K, y) h h0) dX4_giveBack_1 ⟨by decide, by decide⟩ (Nat.le_of_ble_eq_true rfl)

set_option maxRecDepth 100000 in
set_option maxHeartbeats 1000000 in
theorem t4_giveBack_a (l : Launch) (hst : l.stackTraces = false) (E : jE) (S : jS) (K : Nat → Nat) (y : Int64 × Nat) {h : Nat} (hh : h < 8) {a b : Int32} (h0 : okN S a = false) : CtT l E yX4_giveBack cX4_giveBack 4 (some .int) 7 [.ref (ad E 11 0), .int (nI h), .int a, .int b] (S, (K, y)) "java/lang/IndexOutOfBoundsException" (nxt (S, (K, y))) := by
  refine CtT.of hst (by decide +kernel) (Nat.le_of_ble_eq_true rfl) rfl (fun J hJ hF => ?_)
  refine r_iload_n hJ dX4_giveBack_0 rfl jg1 ?_
  refine r_S1u hJ kX4_37 (c4_needHolder l E S (K, y) (nI h) (nI_pos (by omega)) (nI_lt (by omega) (by decide))) dX4_giveBack_1 ⟨by decide, by decide⟩ (Nat.le_of_ble_eq_true rfl) ?_
  refine r_aload_n hJ dX4_giveBack_4 rfl jg0 ?_
  refine r_iload_n hJ dX4_giveBack_5 rfl jg2 ?_
  exact thrV1 hF kX4_41 (rcv4 E) (t4_needNumber l hst E S (K, y) a h0) dX4_giveBack_6 ⟨by decide, by decide⟩ (Nat.le_of_ble_eq_true rfl)

set_option maxRecDepth 100000 in
set_option maxHeartbeats 1000000 in
theorem t4_giveBack_b (l : Launch) (hst : l.stackTraces = false) (E : jE) (S : jS) (K : Nat → Nat) (y : Int64 × Nat) {h : Nat} (hh : h < 8) {a : Nat} (hoka : okN S (nI a) = true) {b : Int32} (h0 : okN S b = false) : CtT l E yX4_giveBack cX4_giveBack 4 (some .int) 7 [.ref (ad E 11 0), .int (nI h), .int (nI a), .int b] (S, (K, y)) "java/lang/IndexOutOfBoundsException" (nxt (S, (K, y))) := by
  refine CtT.of hst (by decide +kernel) (Nat.le_of_ble_eq_true rfl) rfl (fun J hJ hF => ?_)
  refine r_iload_n hJ dX4_giveBack_0 rfl jg1 ?_
  refine r_S1u hJ kX4_37 (c4_needHolder l E S (K, y) (nI h) (nI_pos (by omega)) (nI_lt (by omega) (by decide))) dX4_giveBack_1 ⟨by decide, by decide⟩ (Nat.le_of_ble_eq_true rfl) ?_
  refine r_aload_n hJ dX4_giveBack_4 rfl jg0 ?_
  refine r_iload_n hJ dX4_giveBack_5 rfl jg2 ?_
  refine r_V1u hJ kX4_41 (rcv4 E) (c4_needNumber l E S (K, y) (nI a) hoka) dX4_giveBack_6 ⟨by decide, by decide⟩ (Nat.le_of_ble_eq_true rfl) ?_
  refine r_aload_n hJ dX4_giveBack_9 rfl jg0 ?_
  refine r_iload_n hJ dX4_giveBack_10 rfl jg3 ?_
  exact thrV1 hF kX4_41 (rcv4 E) (t4_needNumber l hst E S (K, y) b h0) dX4_giveBack_11 ⟨by decide, by decide⟩ (Nat.le_of_ble_eq_true rfl)

set_option maxRecDepth 100000 in
set_option maxHeartbeats 1000000 in
theorem t4_giveBack_r (l : Launch) (hst : l.stackTraces = false) (E : jE) (S : jS) (K : Nat → Nat) (y : Int64 × Nat) {h : Nat} (hh : h < 8) {a b : Nat} (hb : b < 64) (hoka : okN S (nI a) = true) (hokb : okN S (nI b) = true) (ha : a < 64) (hab : b < a) : CtT l E yX4_giveBack cX4_giveBack 4 (some .int) 7 [.ref (ad E 11 0), .int (nI h), .int (nI a), .int (nI b)] (S, (K, y)) "java/lang/IllegalArgumentException" (nxt (S, (K, y))) := by
  refine CtT.of hst (by decide +kernel) (Nat.le_of_ble_eq_true rfl) rfl (fun J hJ hF => ?_)
  refine r_iload_n hJ dX4_giveBack_0 rfl jg1 ?_
  refine r_S1u hJ kX4_37 (c4_needHolder l E S (K, y) (nI h) (nI_pos (by omega)) (nI_lt (by omega) (by decide))) dX4_giveBack_1 ⟨by decide, by decide⟩ (Nat.le_of_ble_eq_true rfl) ?_
  refine r_aload_n hJ dX4_giveBack_4 rfl jg0 ?_
  refine r_iload_n hJ dX4_giveBack_5 rfl jg2 ?_
  refine r_V1u hJ kX4_41 (rcv4 E) (c4_needNumber l E S (K, y) (nI a) hoka) dX4_giveBack_6 ⟨by decide, by decide⟩ (Nat.le_of_ble_eq_true rfl) ?_
  refine r_aload_n hJ dX4_giveBack_9 rfl jg0 ?_
  refine r_iload_n hJ dX4_giveBack_10 rfl jg3 ?_
  refine r_V1u hJ kX4_41 (rcv4 E) (c4_needNumber l E S (K, y) (nI b) hokb) dX4_giveBack_11 ⟨by decide, by decide⟩ (Nat.le_of_ble_eq_true rfl) ?_
  refine r_iload_n hJ dX4_giveBack_14 rfl jg3 ?_
  refine r_iload_n hJ dX4_giveBack_15 rfl jg2 ?_
  refine r_bipush hJ (v := nI 64) dX4_giveBack_16 (by decide) ?_
  exact thrS3 hF kX4_44 (t4_needRange l hst E S (K, y) (nI b) (nI a) (nI 64) (Or.inl (nI_lt hab (by omega)))) dX4_giveBack_18 ⟨by decide, by decide⟩ (Nat.le_of_ble_eq_true rfl)

set_option maxRecDepth 100000 in
set_option maxHeartbeats 1000000 in
theorem c4_pass (l : Launch) (E : jE) (S : jS) (K : Nat → Nat) (y : Int64 × Nat) {b : Nat} (hb1 : 1 ≤ b) (hb99 : b ≤ 99) (hP : PI (S 0)) (hSI : SI S K) (hml : (!decide (nI 9999 < S 0 0 0 + nI b)) = true) : Ct l E yX4_pass cX4_pass 2 (some .int) 7 [.ref (ad E 11 0), .int (nI b)] (S, (K, y)) (some (.int (passN b (S 0) 0 3 - S 0 0 3))) (setO (kpS S K) 0 (passN b (S 0)), (kpK S K, y)) := by
  have e0 : kpS S K 0 = S 0 := kpS_ne hSI (by omega)
  refine Ct.of (by decide +kernel) (Nat.le_refl _) (Nat.le_of_ble_eq_true rfl) rfl (fun J hJ hF => ?_)
  refine r_iload_n hJ dX4_pass_0 rfl jg1 ?_
  refine r_iconst hJ (v := nI 1) dX4_pass_1 (by decide) ?_
  refine r_bipush hJ (v := nI 99) dX4_pass_2 (by decide) ?_
  refine r_S3u hJ kX4_44 (c4_needRange l E S (K, y) (nI b) (nI 1) (nI 99) (nI_nlt (by omega) (by omega)) (nI_le (by omega) (by omega))) dX4_pass_4 ⟨by decide, by decide⟩ (Nat.le_of_ble_eq_true rfl) ?_
  refine r_aload_n hJ dX4_pass_7 rfl jg0 ?_
  refine r_g4_0 hJ m146 dX4_pass_8 ?_
  refine r_iload_n hJ dX4_pass_11 rfl jg1 ?_
  refine r_V1v hJ kX4_84 (rcv2 E (by decide)) (g2_hasTimeFor l E S (K, y) (o := 0) (by decide) (nI b)) dX4_pass_12 ⟨by decide, by decide⟩ (Nat.le_of_ble_eq_true rfl) ?_
  rw [hml]
  refine r_S1u hJ kX4_52 (c4_needState l E S (K, y)) dX4_pass_15 ⟨by decide, by decide⟩ (Nat.le_of_ble_eq_true rfl) ?_
  refine r_aload_n hJ dX4_pass_18 rfl jg0 ?_
  refine r_g4_2 hJ m148 dX4_pass_19 ?_
  refine r_aload_n hJ dX4_pass_22 rfl jg0 ?_
  refine r_g4_0 hJ m146 dX4_pass_23 ?_
  refine r_V1ux hJ (x' := (kpK S K, y)) rfl kX4_56 (rcv3 E) (g3_keep l E S K y hSI) dX4_pass_26 ⟨by decide, by decide⟩ (Nat.le_of_ble_eq_true rfl) ?_
  refine r_aload_n hJ dX4_pass_29 rfl jg0 ?_
  refine r_g4_0 hJ m146 dX4_pass_30 ?_
  refine r_iload_n hJ dX4_pass_33 rfl jg1 ?_
  have hl := g2_passUnits l E (kpS S K) (kpK S K, y) (o := 0) (by decide) (by rw [e0]; exact hP) (b := b) (by omega)
  rw [e0] at hl
  refine r_V1v hJ kX4_88 (rcv2 E (by decide)) (hl) dX4_pass_34 ⟨by decide, by decide⟩ (Nat.le_of_ble_eq_true rfl) ?_
  exact ret_i hF dX4_pass_37 rfl rfl

set_option maxRecDepth 100000 in
set_option maxHeartbeats 1000000 in
theorem t4_pass_b (l : Launch) (hst : l.stackTraces = false) (E : jE) (S : jS) (K : Nat → Nat) (y : Int64 × Nat) {b : Int32} (h0 : b < nI 1 ∨ ¬ b ≤ nI 99) : CtT l E yX4_pass cX4_pass 2 (some .int) 7 [.ref (ad E 11 0), .int b] (S, (K, y)) "java/lang/IllegalArgumentException" (nxt (S, (K, y))) := by
  refine CtT.of hst (by decide +kernel) (Nat.le_of_ble_eq_true rfl) rfl (fun J hJ hF => ?_)
  refine r_iload_n hJ dX4_pass_0 rfl jg1 ?_
  refine r_iconst hJ (v := nI 1) dX4_pass_1 (by decide) ?_
  refine r_bipush hJ (v := nI 99) dX4_pass_2 (by decide) ?_
  exact thrS3 hF kX4_44 (t4_needRange l hst E S (K, y) b (nI 1) (nI 99) h0) dX4_pass_4 ⟨by decide, by decide⟩ (Nat.le_of_ble_eq_true rfl)

set_option maxRecDepth 100000 in
set_option maxHeartbeats 1000000 in
theorem t4_pass_s (l : Launch) (hst : l.stackTraces = false) (E : jE) (S : jS) (K : Nat → Nat) (y : Int64 × Nat) {b : Nat} (hb1 : 1 ≤ b) (hb99 : b ≤ 99) (hml : (!decide (nI 9999 < S 0 0 0 + nI b)) = false) : CtT l E yX4_pass cX4_pass 2 (some .int) 7 [.ref (ad E 11 0), .int (nI b)] (S, (K, y)) "java/lang/IllegalStateException" (nxt (S, (K, y))) := by
  refine CtT.of hst (by decide +kernel) (Nat.le_of_ble_eq_true rfl) rfl (fun J hJ hF => ?_)
  refine r_iload_n hJ dX4_pass_0 rfl jg1 ?_
  refine r_iconst hJ (v := nI 1) dX4_pass_1 (by decide) ?_
  refine r_bipush hJ (v := nI 99) dX4_pass_2 (by decide) ?_
  refine r_S3u hJ kX4_44 (c4_needRange l E S (K, y) (nI b) (nI 1) (nI 99) (nI_nlt (by omega) (by omega)) (nI_le (by omega) (by omega))) dX4_pass_4 ⟨by decide, by decide⟩ (Nat.le_of_ble_eq_true rfl) ?_
  refine r_aload_n hJ dX4_pass_7 rfl jg0 ?_
  refine r_g4_0 hJ m146 dX4_pass_8 ?_
  refine r_iload_n hJ dX4_pass_11 rfl jg1 ?_
  refine r_V1v hJ kX4_84 (rcv2 E (by decide)) (g2_hasTimeFor l E S (K, y) (o := 0) (by decide) (nI b)) dX4_pass_12 ⟨by decide, by decide⟩ (Nat.le_of_ble_eq_true rfl) ?_
  rw [hml]
  exact thrS1 hF kX4_52 (t4_needState l hst E S (K, y)) dX4_pass_15 ⟨by decide, by decide⟩ (Nat.le_of_ble_eq_true rfl)
