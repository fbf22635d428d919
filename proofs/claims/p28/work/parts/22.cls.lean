set_option maxRecDepth 100000 in
set_option maxHeartbeats 1000000 in
theorem c4_set (l : Launch) (E : jE) (S : jS) (K : Nat → Nat) (y : Int64 × Nat) {q : Nat} (hq : q < 4) {v : Int32} (hv1 : ¬ v < lsS q) (hv2 : v ≤ msS q) (hSI : SI S K) (hfit : (q = 3 → ∃ m : Nat, m ≤ 64 ∧ v = nI m ∧ (fnd (fun n => !frP (S 0) n) (64 - m) m).isNone = true)) : Ct l E yX4_set cX4_set 4 (some .int) 7 [.ref (ad E 11 0), .int (nI q), .int v] (S, (K, y)) (some (.int (S 0 1 q))) (setO (kpS S K) 0 (put (S 0) 1 q v), (kpK S K, y)) := by
  have e0 : kpS S K 0 = S 0 := kpS_ne hSI (by omega)
  refine Ct.of (by decide +kernel) (Nat.le_refl _) (Nat.le_of_ble_eq_true rfl) rfl (fun J hJ hF => ?_)
  have tail : J (S, (K, y)) 39 [some (.ref (ad E 11 0)), some (.int (nI q)), some (.int v), none] [.int (bI true)] := by
    refine r_S1u hJ kX4_52 (c4_needState l E S (K, y)) dX4_set_39 ⟨by decide, by decide⟩ (Nat.le_of_ble_eq_true rfl) ?_
    refine r_aload_n hJ dX4_set_42 rfl jg0 ?_
    refine r_g4_2 hJ m148 dX4_set_43 ?_
    refine r_aload_n hJ dX4_set_46 rfl jg0 ?_
    refine r_g4_0 hJ m146 dX4_set_47 ?_
    refine r_V1ux hJ (x' := (kpK S K, y)) rfl kX4_56 (rcv3 E) (g3_keep l E S K y hSI) dX4_set_50 ⟨by decide, by decide⟩ (Nat.le_of_ble_eq_true rfl) ?_
    rw [← setO_self (kpS S K) 0, e0]
    refine r_aload_n hJ dX4_set_53 rfl jg0 ?_
    refine r_g4_0 hJ m146 dX4_set_54 ?_
    refine r_g2_4 hJ (by decide) m57 dX4_set_57 ?_
    refine r_iload_n hJ dX4_set_60 rfl jg1 ?_
    refine r_ialdO hJ (by omega) (alP1 (by decide) hq) rfl dX4_set_61 ?_
    refine r_istore_n hJ dX4_set_62 rfl (jp3 rfl rfl) ?_
    refine r_aload_n hJ dX4_set_63 rfl jg0 ?_
    refine r_g4_0 hJ m146 dX4_set_64 ?_
    refine r_g2_4 hJ (by decide) m57 dX4_set_67 ?_
    refine r_iload_n hJ dX4_set_70 rfl jg1 ?_
    refine r_iload_n hJ dX4_set_71 rfl jg2 ?_
    refine r_iast hJ (by omega) (alP1 (by decide) hq) rfl dX4_set_72 ?_
    refine r_iload_n hJ dX4_set_73 rfl jg3 ?_
    exact ret_i hF dX4_set_74 rfl rfl
  refine r_iload_n hJ dX4_set_0 rfl jg1 ?_
  refine r_S1u hJ kX4_92 (c4_needSetting l E S (K, y) (nI q) (nI_pos (by omega)) (nI_lt (by omega) (by decide))) dX4_set_1 ⟨by decide, by decide⟩ (Nat.le_of_ble_eq_true rfl) ?_
  refine r_iload_n hJ dX4_set_4 rfl jg2 ?_
  refine r_getsL hJ m395 dX4_set_5 ?_
  refine r_iload_n hJ dX4_set_8 rfl jg1 ?_
  refine r_tabL hJ rfl hq dX4_set_9 ?_
  refine r_getsM hJ m397 dX4_set_10 ?_
  refine r_iload_n hJ dX4_set_13 rfl jg1 ?_
  refine r_tabM hJ rfl hq dX4_set_14 ?_
  refine r_S3u hJ kX4_44 (c4_needRange l E S (K, y) (v) (lsS q) (msS q) hv1 hv2) dX4_set_15 ⟨by decide, by decide⟩ (Nat.le_of_ble_eq_true rfl) ?_
  refine r_iload_n hJ dX4_set_18 rfl jg1 ?_
  refine r_iconst hJ (v := nI 3) dX4_set_19 (by decide) ?_
  refine r_icmp_ne hJ (tgt := 34) dX4_set_20 (by decide) (fun c20 => ?_) (fun c20 => ?_)
  · rw [nI_eq (by omega) (by decide)] at c20
    refine r_iconst hJ (v := nI 1) dX4_set_34 (by decide) ?_
    refine r_goto hJ (tgt := 39) dX4_set_35 (by decide) ?_
    exact tail
  · rw [nI_eq (by omega) (by decide)] at c20
    obtain ⟨m, hm, rfl, hf⟩ := hfit c20
    refine r_aload_n hJ dX4_set_23 rfl jg0 ?_
    refine r_g4_0 hJ m146 dX4_set_24 ?_
    refine r_iload_n hJ dX4_set_27 rfl jg2 ?_
    refine r_V1v hJ kX4_101 (rcv2 E (by decide)) (g2_fitsIn l E S (K, y) (o := 0) (by decide) hm) dX4_set_28 ⟨by decide, by decide⟩ (Nat.le_of_ble_eq_true rfl) ?_
    rw [hf]
    refine r_if_eq hJ (tgt := 38) dX4_set_31 (by decide) (fun c31 => ?_) (fun c31 => ?_)
    · exact absurd c31 (by decide)
    · refine r_iconst hJ (v := nI 1) dX4_set_34 (by decide) ?_
      refine r_goto hJ (tgt := 39) dX4_set_35 (by decide) ?_
      exact tail

set_option maxRecDepth 100000 in
set_option maxHeartbeats 1000000 in
theorem t4_set_s (l : Launch) (hst : l.stackTraces = false) (E : jE) (S : jS) (K : Nat → Nat) (y : Int64 × Nat) {v : Int32} (hv1 : ¬ v < lsS 3) (hv2 : v ≤ msS 3) {m : Nat} (hm : m ≤ 64) (hvm : v = nI m) (hf : (fnd (fun n => !frP (S 0) n) (64 - m) m).isNone = false) : CtT l E yX4_set cX4_set 4 (some .int) 7 [.ref (ad E 11 0), .int (nI 3), .int v] (S, (K, y)) "java/lang/IllegalStateException" (nxt (S, (K, y))) := by
  refine CtT.of hst (by decide +kernel) (Nat.le_of_ble_eq_true rfl) rfl (fun J hJ hF => ?_)
  subst hvm
  have hq : (3 : Nat) < 4 := by decide
  refine r_iload_n hJ dX4_set_0 rfl jg1 ?_
  refine r_S1u hJ kX4_92 (c4_needSetting l E S (K, y) (nI 3) (nI_pos (by omega)) (nI_lt (by omega) (by decide))) dX4_set_1 ⟨by decide, by decide⟩ (Nat.le_of_ble_eq_true rfl) ?_
  refine r_iload_n hJ dX4_set_4 rfl jg2 ?_
  refine r_getsL hJ m395 dX4_set_5 ?_
  refine r_iload_n hJ dX4_set_8 rfl jg1 ?_
  refine r_tabL hJ rfl hq dX4_set_9 ?_
  refine r_getsM hJ m397 dX4_set_10 ?_
  refine r_iload_n hJ dX4_set_13 rfl jg1 ?_
  refine r_tabM hJ rfl hq dX4_set_14 ?_
  refine r_S3u hJ kX4_44 (c4_needRange l E S (K, y) (nI m) (lsS 3) (msS 3) hv1 hv2) dX4_set_15 ⟨by decide, by decide⟩ (Nat.le_of_ble_eq_true rfl) ?_
  refine r_iload_n hJ dX4_set_18 rfl jg1 ?_
  refine r_iconst hJ (v := nI 3) dX4_set_19 (by decide) ?_
  refine r_icmp_ne hJ (tgt := 34) dX4_set_20 (by decide) (fun c20 => ?_) (fun c20 => ?_)
  · rw [nI_eq (by omega) (by decide)] at c20
    exact absurd rfl c20
  · refine r_aload_n hJ dX4_set_23 rfl jg0 ?_
    refine r_g4_0 hJ m146 dX4_set_24 ?_
    refine r_iload_n hJ dX4_set_27 rfl jg2 ?_
    refine r_V1v hJ kX4_101 (rcv2 E (by decide)) (g2_fitsIn l E S (K, y) (o := 0) (by decide) hm) dX4_set_28 ⟨by decide, by decide⟩ (Nat.le_of_ble_eq_true rfl) ?_
    rw [hf]
    refine r_if_eq hJ (tgt := 38) dX4_set_31 (by decide) (fun c31 => ?_) (fun c31 => ?_)
    · refine r_iconst hJ (v := bI false) dX4_set_38 (by decide) ?_
      exact thrS1 hF kX4_52 (t4_needState l hst E S (K, y)) dX4_set_39 ⟨by decide, by decide⟩ (Nat.le_of_ble_eq_true rfl)
    · exact absurd rfl c31

set_option maxRecDepth 100000 in
set_option maxHeartbeats 1000000 in
theorem t4_set_q (l : Launch) (hst : l.stackTraces = false) (E : jE) (S : jS) (K : Nat → Nat) (y : Int64 × Nat) {q v : Int32} (h0 : q < 0 ∨ ¬ q < nI 4) : CtT l E yX4_set cX4_set 4 (some .int) 7 [.ref (ad E 11 0), .int q, .int v] (S, (K, y)) "java/lang/IndexOutOfBoundsException" (nxt (S, (K, y))) := by
  refine CtT.of hst (by decide +kernel) (Nat.le_of_ble_eq_true rfl) rfl (fun J hJ hF => ?_)
  refine r_iload_n hJ dX4_set_0 rfl jg1 ?_
  exact thrS1 hF kX4_92 (t4_needSetting l hst E S (K, y) q h0) dX4_set_1 ⟨by decide, by decide⟩ (Nat.le_of_ble_eq_true rfl)

set_option maxRecDepth 100000 in
set_option maxHeartbeats 1000000 in
theorem t4_set_v (l : Launch) (hst : l.stackTraces = false) (E : jE) (S : jS) (K : Nat → Nat) (y : Int64 × Nat) {q : Nat} (hq : q < 4) {v : Int32} (h0 : v < lsS q ∨ ¬ v ≤ msS q) : CtT l E yX4_set cX4_set 4 (some .int) 7 [.ref (ad E 11 0), .int (nI q), .int v] (S, (K, y)) "java/lang/IllegalArgumentException" (nxt (S, (K, y))) := by
  refine CtT.of hst (by decide +kernel) (Nat.le_of_ble_eq_true rfl) rfl (fun J hJ hF => ?_)
  refine r_iload_n hJ dX4_set_0 rfl jg1 ?_
  refine r_S1u hJ kX4_92 (c4_needSetting l E S (K, y) (nI q) (nI_pos (by omega)) (nI_lt (by omega) (by decide))) dX4_set_1 ⟨by decide, by decide⟩ (Nat.le_of_ble_eq_true rfl) ?_
  refine r_iload_n hJ dX4_set_4 rfl jg2 ?_
  refine r_getsL hJ m395 dX4_set_5 ?_
  refine r_iload_n hJ dX4_set_8 rfl jg1 ?_
  refine r_tabL hJ rfl hq dX4_set_9 ?_
  refine r_getsM hJ m397 dX4_set_10 ?_
  refine r_iload_n hJ dX4_set_13 rfl jg1 ?_
  refine r_tabM hJ rfl hq dX4_set_14 ?_
  exact thrS3 hF kX4_44 (t4_needRange l hst E S (K, y) v (lsS q) (msS q) h0) dX4_set_15 ⟨by decide, by decide⟩ (Nat.le_of_ble_eq_true rfl)

set_option maxRecDepth 100000 in
set_option maxHeartbeats 1000000 in
theorem c4_undo (l : Launch) (E : jE) (S : jS) (K : Nat → Nat) (y : Int64 × Nat) (hK : KI K) {m : Nat} (hm6 : m ≤ 6) (hV : S 9 0 0 = nI m) (hm : 0 < m) : Ct l E yX4_undo cX4_undo 1 (some .int) 7 [.ref (ad E 11 0)] (S, (K, y)) (some (.int (nI (m - 1)))) (setO (setO S 9 (put (S 9) 0 0 (S 9 0 0 - nI 1))) 0 (S (K (m - 1))), (K, y)) := by
  refine Ct.of (by decide +kernel) (Nat.le_refl _) (Nat.le_of_ble_eq_true rfl) rfl (fun J hJ hF => ?_)
  have hrs := c3_restore l E S K y (S 9) hK hV hm hm6
  rw [setO_self] at hrs
  refine r_aload_n hJ dX4_undo_0 rfl jg0 ?_
  refine r_g4_2 hJ m148 dX4_undo_1 ?_
  refine r_g3_1 hJ m116 dX4_undo_4 ?_
  refine r_if_le hJ (tgt := 14) dX4_undo_7 (by decide) (fun c7 => ?_) (fun c7 => ?_)
  · rw [hV] at c7
    exact absurd c7 (nI_nle hm (by omega))
  · refine r_iconst hJ (v := bI true) dX4_undo_10 (by decide) ?_
    refine r_goto hJ (tgt := 15) dX4_undo_11 (by decide) ?_
    refine r_S1u hJ kX4_52 (c4_needState l E S (K, y)) dX4_undo_15 ⟨by decide, by decide⟩ (Nat.le_of_ble_eq_true rfl) ?_
    refine r_aload_n hJ dX4_undo_18 rfl jg0 ?_
    refine r_g4_2 hJ m148 dX4_undo_19 ?_
    refine r_aload_n hJ dX4_undo_22 rfl jg0 ?_
    refine r_g4_0 hJ m146 dX4_undo_23 ?_
    refine r_V1u hJ kX4_136 (rcv3 E) (hrs) dX4_undo_26 ⟨by decide, by decide⟩ (Nat.le_of_ble_eq_true rfl) ?_
    refine r_aload_n hJ dX4_undo_29 rfl jg0 ?_
    refine r_g4_2 hJ m148 dX4_undo_30 ?_
    refine r_g3_1 hJ m116 dX4_undo_33 ?_
    exact ret_i hF dX4_undo_36 (by rw [setO_ne (by decide), setO_at, put_app, if_pos (by decide), hV]; exact congrArg (fun q => some (Value.int q)) (pk_sub (by omega)).symm) rfl

set_option maxRecDepth 100000 in
set_option maxHeartbeats 1000000 in
theorem t4_undo (l : Launch) (hst : l.stackTraces = false) (E : jE) (S : jS) (K : Nat → Nat) (y : Int64 × Nat) (hV : S 9 0 0 = nI 0) : CtT l E yX4_undo cX4_undo 1 (some .int) 7 [.ref (ad E 11 0)] (S, (K, y)) "java/lang/IllegalStateException" (nxt (S, (K, y))) := by
  refine CtT.of hst (by decide +kernel) (Nat.le_of_ble_eq_true rfl) rfl (fun J hJ hF => ?_)
  refine r_aload_n hJ dX4_undo_0 rfl jg0 ?_
  refine r_g4_2 hJ m148 dX4_undo_1 ?_
  refine r_g3_1 hJ m116 dX4_undo_4 ?_
  refine r_if_le hJ (tgt := 14) dX4_undo_7 (by decide) (fun c7 => ?_) (fun c7 => ?_)
  · refine r_iconst hJ (v := bI false) dX4_undo_14 (by decide) ?_
    exact thrS1 hF kX4_52 (t4_needState l hst E S (K, y)) dX4_undo_15 ⟨by decide, by decide⟩ (Nat.le_of_ble_eq_true rfl)
  · rw [hV] at c7
    exact absurd (by decide) c7

set_option maxRecDepth 100000 in
set_option maxHeartbeats 1000000 in
theorem c4_number (l : Launch) (E : jE) (S : jS) (K : Nat → Nat) (y : Int64 × Nat) {n : Nat} (hn : n < 64) (hok : okN S (nI n) = true) {q : Nat} (hq : q ≤ 8) : Ct l E yX4_number cX4_number 3 (some .int) 7 [.ref (ad E 11 0), .int (nI n), .int (nI q)] (S, (K, y)) (some (.int (ofN (S 0) n q))) (S, (K, y)) := by
  refine Ct.of (by decide +kernel) (Nat.le_refl _) (Nat.le_of_ble_eq_true rfl) rfl (fun J hJ hF => ?_)
  refine r_aload_n hJ dX4_number_0 rfl jg0 ?_
  refine r_iload_n hJ dX4_number_1 rfl jg1 ?_
  refine r_V1u hJ kX4_41 (rcv4 E) (c4_needNumber l E S (K, y) (nI n) hok) dX4_number_2 ⟨by decide, by decide⟩ (Nat.le_of_ble_eq_true rfl) ?_
  refine r_iload_n hJ dX4_number_5 rfl jg2 ?_
  refine r_iconst hJ (v := nI 0) dX4_number_6 (by decide) ?_
  refine r_bipush hJ (v := nI 8) dX4_number_7 (by decide) ?_
  refine r_S3u hJ kX4_44 (c4_needRange l E S (K, y) (nI q) (nI 0) (nI 8) (nI_nlt (by omega) (by omega)) (nI_le (by omega) (by omega))) dX4_number_9 ⟨by decide, by decide⟩ (Nat.le_of_ble_eq_true rfl) ?_
  refine r_aload_n hJ dX4_number_12 rfl jg0 ?_
  refine r_g4_0 hJ m146 dX4_number_13 ?_
  refine r_iload_n hJ dX4_number_16 rfl jg1 ?_
  refine r_iload_n hJ dX4_number_17 rfl jg2 ?_
  refine r_V2v hJ kX4_139 (rcv2 E (by decide)) (g2_ofNumber l E S (K, y) (o := 0) (by decide) hn hq) dX4_number_18 ⟨by decide, by decide⟩ (Nat.le_of_ble_eq_true rfl) ?_
  exact ret_i hF dX4_number_21 rfl rfl

set_option maxRecDepth 100000 in
set_option maxHeartbeats 1000000 in
theorem t4_number_n (l : Launch) (hst : l.stackTraces = false) (E : jE) (S : jS) (K : Nat → Nat) (y : Int64 × Nat) {n q : Int32} (h0 : okN S n = false) : CtT l E yX4_number cX4_number 3 (some .int) 7 [.ref (ad E 11 0), .int n, .int q] (S, (K, y)) "java/lang/IndexOutOfBoundsException" (nxt (S, (K, y))) := by
  refine CtT.of hst (by decide +kernel) (Nat.le_of_ble_eq_true rfl) rfl (fun J hJ hF => ?_)
  refine r_aload_n hJ dX4_number_0 rfl jg0 ?_
  refine r_iload_n hJ dX4_number_1 rfl jg1 ?_
  exact thrV1 hF kX4_41 (rcv4 E) (t4_needNumber l hst E S (K, y) n h0) dX4_number_2 ⟨by decide, by decide⟩ (Nat.le_of_ble_eq_true rfl)

set_option maxRecDepth 100000 in
set_option maxHeartbeats 1000000 in
theorem t4_number_q (l : Launch) (hst : l.stackTraces = false) (E : jE) (S : jS) (K : Nat → Nat) (y : Int64 × Nat) {n : Nat} (hok : okN S (nI n) = true) {q : Int32} (h0 : q < nI 0 ∨ ¬ q ≤ nI 8) : CtT l E yX4_number cX4_number 3 (some .int) 7 [.ref (ad E 11 0), .int (nI n), .int q] (S, (K, y)) "java/lang/IllegalArgumentException" (nxt (S, (K, y))) := by
  refine CtT.of hst (by decide +kernel) (Nat.le_of_ble_eq_true rfl) rfl (fun J hJ hF => ?_)
  refine r_aload_n hJ dX4_number_0 rfl jg0 ?_
  refine r_iload_n hJ dX4_number_1 rfl jg1 ?_
  refine r_V1u hJ kX4_41 (rcv4 E) (c4_needNumber l E S (K, y) (nI n) hok) dX4_number_2 ⟨by decide, by decide⟩ (Nat.le_of_ble_eq_true rfl) ?_
  refine r_iload_n hJ dX4_number_5 rfl jg2 ?_
  refine r_iconst hJ (v := nI 0) dX4_number_6 (by decide) ?_
  refine r_bipush hJ (v := nI 8) dX4_number_7 (by decide) ?_
  exact thrS3 hF kX4_44 (t4_needRange l hst E S (K, y) q (nI 0) (nI 8) h0) dX4_number_9 ⟨by decide, by decide⟩ (Nat.le_of_ble_eq_true rfl)

set_option maxRecDepth 100000 in
set_option maxHeartbeats 1000000 in
theorem c4_holder (l : Launch) (E : jE) (S : jS) (K : Nat → Nat) (y : Int64 × Nat) {h : Nat} (hh : h < 8) (hP : PI (S 0)) {q : Nat} (hq : q ≤ 7) : Ct l E yX4_holder cX4_holder 3 (some .int) 7 [.ref (ad E 11 0), .int (nI h), .int (nI q)] (S, (K, y)) (some (.int (ofH (S 0) h q))) (S, (K, y)) := by
  refine Ct.of (by decide +kernel) (Nat.le_refl _) (Nat.le_of_ble_eq_true rfl) rfl (fun J hJ hF => ?_)
  refine r_iload_n hJ dX4_holder_0 rfl jg1 ?_
  refine r_S1u hJ kX4_37 (c4_needHolder l E S (K, y) (nI h) (nI_pos (by omega)) (nI_lt (by omega) (by decide))) dX4_holder_1 ⟨by decide, by decide⟩ (Nat.le_of_ble_eq_true rfl) ?_
  refine r_iload_n hJ dX4_holder_4 rfl jg2 ?_
  refine r_iconst hJ (v := nI 0) dX4_holder_5 (by decide) ?_
  refine r_bipush hJ (v := nI 7) dX4_holder_6 (by decide) ?_
  refine r_S3u hJ kX4_44 (c4_needRange l E S (K, y) (nI q) (nI 0) (nI 7) (nI_nlt (by omega) (by omega)) (nI_le (by omega) (by omega))) dX4_holder_8 ⟨by decide, by decide⟩ (Nat.le_of_ble_eq_true rfl) ?_
  refine r_aload_n hJ dX4_holder_11 rfl jg0 ?_
  refine r_g4_0 hJ m146 dX4_holder_12 ?_
  refine r_iload_n hJ dX4_holder_15 rfl jg1 ?_
  refine r_iload_n hJ dX4_holder_16 rfl jg2 ?_
  refine r_V2v hJ kX4_142 (rcv2 E (by decide)) (g2_ofHolder l E S (K, y) (o := 0) (by decide) hP hh hq) dX4_holder_17 ⟨by decide, by decide⟩ (Nat.le_of_ble_eq_true rfl) ?_
  exact ret_i hF dX4_holder_20 rfl rfl

set_option maxRecDepth 100000 in
set_option maxHeartbeats 1000000 in
theorem t4_holder_h (l : Launch) (hst : l.stackTraces = false) (E : jE) (S : jS) (K : Nat → Nat) (y : Int64 × Nat) {h q : Int32} (h0 : h < 0 ∨ ¬ h < nI 8) : CtT l E yX4_holder cX4_holder 3 (some .int) 7 [.ref (ad E 11 0), .int h, .int q] (S, (K, y)) "java/lang/IndexOutOfBoundsException" (nxt (S, (K, y))) := by
  refine CtT.of hst (by decide +kernel) (Nat.le_of_ble_eq_true rfl) rfl (fun J hJ hF => ?_)
  refine r_iload_n hJ dX4_holder_0 rfl jg1 ?_
  exact thrS1 hF kX4_37 (t4_needHolder l hst E S (K, y) h h0) dX4_holder_1 ⟨by decide, by decide⟩ (Nat.le_of_ble_eq_true rfl)

set_option maxRecDepth 100000 in
set_option maxHeartbeats 1000000 in
theorem t4_holder_q (l : Launch) (hst : l.stackTraces = false) (E : jE) (S : jS) (K : Nat → Nat) (y : Int64 × Nat) {h : Nat} (hh : h < 8) {q : Int32} (h0 : q < nI 0 ∨ ¬ q ≤ nI 7) : CtT l E yX4_holder cX4_holder 3 (some .int) 7 [.ref (ad E 11 0), .int (nI h), .int q] (S, (K, y)) "java/lang/IllegalArgumentException" (nxt (S, (K, y))) := by
  refine CtT.of hst (by decide +kernel) (Nat.le_of_ble_eq_true rfl) rfl (fun J hJ hF => ?_)
  refine r_iload_n hJ dX4_holder_0 rfl jg1 ?_
  refine r_S1u hJ kX4_37 (c4_needHolder l E S (K, y) (nI h) (nI_pos (by omega)) (nI_lt (by omega) (by decide))) dX4_holder_1 ⟨by decide, by decide⟩ (Nat.le_of_ble_eq_true rfl) ?_
  refine r_iload_n hJ dX4_holder_4 rfl jg2 ?_
  refine r_iconst hJ (v := nI 0) dX4_holder_5 (by decide) ?_
  refine r_bipush hJ (v := nI 7) dX4_holder_6 (by decide) ?_
  exact thrS3 hF kX4_44 (t4_needRange l hst E S (K, y) q (nI 0) (nI 7) h0) dX4_holder_8 ⟨by decide, by decide⟩ (Nat.le_of_ble_eq_true rfl)

set_option maxRecDepth 100000 in
set_option maxHeartbeats 1000000 in
theorem c4_span (l : Launch) (E : jE) (S : jS) (K : Nat → Nat) (y : Int64 × Nat) {z : Nat} (hz : S 0 1 3 = nI z) (hz4 : z ≤ 64) {s w : Int32} (hs : 0 ≤ s) (hw1 : ¬ w < nI 0) (hw2 : w ≤ nI 1) : Ct l E yX4_span cX4_span 3 (some .int) 7 [.ref (ad E 11 0), .int s, .int w] (S, (K, y)) (some (.int (ofSp (S 0) z s w))) (S, (K, y)) := by
  refine Ct.of (by decide +kernel) (Nat.le_refl _) (Nat.le_of_ble_eq_true rfl) rfl (fun J hJ hF => ?_)
  refine r_iload_n hJ dX4_span_0 rfl jg1 ?_
  refine r_if_ge hJ (tgt := 12) dX4_span_1 (by decide) (fun c1 => ?_) (fun c1 => ?_)
  · refine r_iload_n hJ dX4_span_12 rfl jg2 ?_
    refine r_iconst hJ (v := nI 0) dX4_span_13 (by decide) ?_
    refine r_iconst hJ (v := nI 1) dX4_span_14 (by decide) ?_
    refine r_S3u hJ kX4_44 (c4_needRange l E S (K, y) (w) (nI 0) (nI 1) hw1 hw2) dX4_span_15 ⟨by decide, by decide⟩ (Nat.le_of_ble_eq_true rfl) ?_
    refine r_aload_n hJ dX4_span_18 rfl jg0 ?_
    refine r_g4_0 hJ m146 dX4_span_19 ?_
    refine r_iload_n hJ dX4_span_22 rfl jg1 ?_
    refine r_iload_n hJ dX4_span_23 rfl jg2 ?_
    refine r_V2v hJ kX4_145 (rcv2 E (by decide)) (g2_ofSpan l E S (K, y) (o := 0) (by decide) hz hz4 s w) dX4_span_24 ⟨by decide, by decide⟩ (Nat.le_of_ble_eq_true rfl) ?_
    exact ret_i hF dX4_span_27 rfl rfl
  · exact absurd hs c1

set_option maxRecDepth 100000 in
set_option maxHeartbeats 1000000 in
theorem t4_span_s (l : Launch) (hst : l.stackTraces = false) (E : jE) (S : jS) (K : Nat → Nat) (y : Int64 × Nat) {s w : Int32} (hs : ¬ 0 ≤ s) : CtT l E yX4_span cX4_span 3 (some .int) 7 [.ref (ad E 11 0), .int s, .int w] (S, (K, y)) "java/lang/IllegalArgumentException" (nxt (S, (K, y))) := by
  refine CtT.of hst (by decide +kernel) (Nat.le_of_ble_eq_true rfl) rfl (fun J hJ hF => ?_)
  refine r_iload_n hJ dX4_span_0 rfl jg1 ?_
  refine r_if_ge hJ (tgt := 12) dX4_span_1 (by decide) (fun c1 => ?_) (fun c1 => ?_)
  · exact absurd c1 hs
  · exact hF.1 _ _ _ _ _ _ rfl thr_arg dX4_span_4 dX4_span_7 dX4_span_8 dX4_span_11 (by decide) (Nat.le_of_ble_eq_true rfl)

set_option maxRecDepth 100000 in
set_option maxHeartbeats 1000000 in
theorem t4_span_w (l : Launch) (hst : l.stackTraces = false) (E : jE) (S : jS) (K : Nat → Nat) (y : Int64 × Nat) {s w : Int32} (hs : 0 ≤ s) (h0 : w < nI 0 ∨ ¬ w ≤ nI 1) : CtT l E yX4_span cX4_span 3 (some .int) 7 [.ref (ad E 11 0), .int s, .int w] (S, (K, y)) "java/lang/IllegalArgumentException" (nxt (S, (K, y))) := by
  refine CtT.of hst (by decide +kernel) (Nat.le_of_ble_eq_true rfl) rfl (fun J hJ hF => ?_)
  refine r_iload_n hJ dX4_span_0 rfl jg1 ?_
  refine r_if_ge hJ (tgt := 12) dX4_span_1 (by decide) (fun c1 => ?_) (fun c1 => ?_)
  · refine r_iload_n hJ dX4_span_12 rfl jg2 ?_
    refine r_iconst hJ (v := nI 0) dX4_span_13 (by decide) ?_
    refine r_iconst hJ (v := nI 1) dX4_span_14 (by decide) ?_
    exact thrS3 hF kX4_44 (t4_needRange l hst E S (K, y) w (nI 0) (nI 1) h0) dX4_span_15 ⟨by decide, by decide⟩ (Nat.le_of_ble_eq_true rfl)
  · exact absurd hs c1

def cntA (S : jS) (z q : Nat) : Int32 := if q = 12 then S 9 0 0 else ofA (S 0) z q
set_option maxRecDepth 100000 in
set_option maxHeartbeats 1000000 in
theorem c4_countOf (l : Launch) (E : jE) (S : jS) (x : jX) {z : Nat} (hz : S 0 1 3 = nI z) (hz4 : z ≤ 64) {q : Nat} (hq : q ≤ 12) : Ct l E yX4_countOf cX4_countOf 2 (some .int) 6 [.ref (ad E 11 0), .int (nI q)] (S, x) (some (.int (cntA S z q))) (S, x) := by
  refine Ct.of (by decide +kernel) (Nat.le_refl _) (Nat.le_of_ble_eq_true rfl) rfl (fun J hJ hF => ?_)
  refine r_iload_n hJ dX4_countOf_0 rfl jg1 ?_
  refine r_bipush hJ (v := nI 12) dX4_countOf_1 (by decide) ?_
  refine r_icmp_ne hJ (tgt := 16) dX4_countOf_3 (by decide) (fun c3 => ?_) (fun c3 => ?_)
  · rw [nI_eq (by omega) (by decide)] at c3
    refine r_aload_n hJ dX4_countOf_16 rfl jg0 ?_
    refine r_g4_0 hJ m146 dX4_countOf_17 ?_
    refine r_iload_n hJ dX4_countOf_20 rfl jg1 ?_
    refine r_V1v hJ kX4_221 (rcv2 E (by decide)) (g2_ofAll l E S x (o := 0) (by decide) hz hz4 (q := q) (by omega)) dX4_countOf_21 ⟨by decide, by decide⟩ (Nat.le_of_ble_eq_true rfl) ?_
    exact ret_i hF dX4_countOf_24 (by unfold cntA; rw [if_neg c3]) rfl
  · rw [nI_eq (by omega) (by decide)] at c3
    refine r_aload_n hJ dX4_countOf_6 rfl jg0 ?_
    refine r_g4_2 hJ m148 dX4_countOf_7 ?_
    refine r_g3_1 hJ m116 dX4_countOf_10 ?_
    refine r_goto hJ (tgt := 24) dX4_countOf_13 (by decide) ?_
    exact ret_i hF dX4_countOf_24 (by unfold cntA; rw [if_pos c3]) rfl

set_option maxRecDepth 100000 in
set_option maxHeartbeats 1000000 in
theorem c4_count (l : Launch) (E : jE) (S : jS) (K : Nat → Nat) (y : Int64 × Nat) {z : Nat} (hz : S 0 1 3 = nI z) (hz4 : z ≤ 64) {q : Nat} (hq : q ≤ 12) : Ct l E yX4_count cX4_count 2 (some .int) 7 [.ref (ad E 11 0), .int (nI q)] (S, (K, y)) (some (.int (cntA S z q))) (S, (K, y)) := by
  refine Ct.of (by decide +kernel) (Nat.le_refl _) (Nat.le_of_ble_eq_true rfl) rfl (fun J hJ hF => ?_)
  refine r_iload_n hJ dX4_count_0 rfl jg1 ?_
  refine r_iconst hJ (v := nI 0) dX4_count_1 (by decide) ?_
  refine r_bipush hJ (v := nI 12) dX4_count_2 (by decide) ?_
  refine r_S3u hJ kX4_44 (c4_needRange l E S (K, y) (nI q) (nI 0) (nI 12) (nI_nlt (by omega) (by omega)) (nI_le (by omega) (by omega))) dX4_count_4 ⟨by decide, by decide⟩ (Nat.le_of_ble_eq_true rfl) ?_
  refine r_aload_n hJ dX4_count_7 rfl jg0 ?_
  refine r_iload_n hJ dX4_count_8 rfl jg1 ?_
  refine r_V1v hJ kX4_148 (rcv4 E) (c4_countOf l E S (K, y) hz hz4 hq) dX4_count_9 ⟨by decide, by decide⟩ (Nat.le_of_ble_eq_true rfl) ?_
  exact ret_i hF dX4_count_12 rfl rfl

set_option maxRecDepth 100000 in
set_option maxHeartbeats 1000000 in
theorem t4_count_q (l : Launch) (hst : l.stackTraces = false) (E : jE) (S : jS) (K : Nat → Nat) (y : Int64 × Nat) {q : Int32} (h0 : q < nI 0 ∨ ¬ q ≤ nI 12) : CtT l E yX4_count cX4_count 2 (some .int) 7 [.ref (ad E 11 0), .int q] (S, (K, y)) "java/lang/IllegalArgumentException" (nxt (S, (K, y))) := by
  refine CtT.of hst (by decide +kernel) (Nat.le_of_ble_eq_true rfl) rfl (fun J hJ hF => ?_)
  refine r_iload_n hJ dX4_count_0 rfl jg1 ?_
  refine r_iconst hJ (v := nI 0) dX4_count_1 (by decide) ?_
  refine r_bipush hJ (v := nI 12) dX4_count_2 (by decide) ?_
  exact thrS3 hF kX4_44 (t4_needRange l hst E S (K, y) q (nI 0) (nI 12) h0) dX4_count_4 ⟨by decide, by decide⟩ (Nat.le_of_ble_eq_true rfl)

set_option maxRecDepth 100000 in
set_option maxHeartbeats 1000000 in
theorem c4_setting (l : Launch) (E : jE) (S : jS) (K : Nat → Nat) (y : Int64 × Nat) {q : Nat} (hq : q < 4) : Ct l E yX4_setting cX4_setting 2 (some .int) 7 [.ref (ad E 11 0), .int (nI q)] (S, (K, y)) (some (.int (S 0 1 q))) (S, (K, y)) := by
  refine Ct.of (by decide +kernel) (Nat.le_refl _) (Nat.le_of_ble_eq_true rfl) rfl (fun J hJ hF => ?_)
  refine r_iload_n hJ dX4_setting_0 rfl jg1 ?_
  refine r_S1u hJ kX4_92 (c4_needSetting l E S (K, y) (nI q) (nI_pos (by omega)) (nI_lt (by omega) (by decide))) dX4_setting_1 ⟨by decide, by decide⟩ (Nat.le_of_ble_eq_true rfl) ?_
  refine r_aload_n hJ dX4_setting_4 rfl jg0 ?_
  refine r_g4_0 hJ m146 dX4_setting_5 ?_
  refine r_g2_4 hJ (by decide) m57 dX4_setting_8 ?_
  refine r_iload_n hJ dX4_setting_11 rfl jg1 ?_
  refine r_iald hJ (by omega) (alP1 (by decide) hq) rfl dX4_setting_12 ?_
  exact ret_i hF dX4_setting_13 rfl rfl

set_option maxRecDepth 100000 in
set_option maxHeartbeats 1000000 in
theorem t4_setting_q (l : Launch) (hst : l.stackTraces = false) (E : jE) (S : jS) (K : Nat → Nat) (y : Int64 × Nat) {q : Int32} (h0 : q < 0 ∨ ¬ q < nI 4) : CtT l E yX4_setting cX4_setting 2 (some .int) 7 [.ref (ad E 11 0), .int q] (S, (K, y)) "java/lang/IndexOutOfBoundsException" (nxt (S, (K, y))) := by
  refine CtT.of hst (by decide +kernel) (Nat.le_of_ble_eq_true rfl) rfl (fun J hJ hF => ?_)
  refine r_iload_n hJ dX4_setting_0 rfl jg1 ?_
  exact thrS1 hF kX4_92 (t4_needSetting l hst E S (K, y) q h0) dX4_setting_1 ⟨by decide, by decide⟩ (Nat.le_of_ble_eq_true rfl)
