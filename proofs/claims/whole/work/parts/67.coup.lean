/-! THE TWO SIDES TOGETHER -/
theorem SV_mono {P : jO} {r : Nat → Int32} {z t C C' : Nat} (hC : C ≤ C') (h : SV P r z t C) : SV P r z t C' := ⟨h.1, h.2.1, h.2.2.1, B10_mono hC h.2.2.2.1, h.2.2.2.2⟩
theorem CP_ext {P : jO} {r r' : Nat → Int32} (h : ∀ q, q < 800 → r' q = r q) (hC : CP P r) : CP P r' := fun j i hk => by
  rw [h _ (pos_lt hk.1)]
  exact hC j i hk
theorem SV_ext {P : jO} {r r' : Nat → Int32} {z t C : Nat} (h : ∀ q, q < 800 → r' q = r q) (hS : SV P r z t C) : SV P r' z t C := ⟨CP_ext h hS.1, hS.2⟩
def SAV (S : jS) (T : jO) (K : Nat → Nat) (C : Nat) : Prop := KI K ∧ ∃ m, m ≤ 6 ∧ S 9 0 0 = nI m ∧ T 0 0 = nI m ∧ ∀ i, i < m → ∃ z t, SV (S (K i)) (fun q => T 3 (800 * i + q)) z t C
def COUP (S : jS) (K : Nat → Nat) (C : Nat) : Prop := (∃ z t, SV (S 0) (S 10 1) z t C) ∧ SAV S (S 10) K C ∧ OI (S 8) ∧ ∃ w, TX (S 8) (S 10) w
theorem SAV_mono {S : jS} {T : jO} {K : Nat → Nat} {C C' : Nat} (hC : C ≤ C') (h : SAV S T K C) : SAV S T K C' := by
  obtain ⟨a, m, b, c, d, e⟩ := h
  refine ⟨a, m, b, c, d, fun i hi => ?_⟩
  obtain ⟨z, t, f⟩ := e i hi
  exact ⟨z, t, SV_mono hC f⟩
/-- of the states only what is looked at counts -/
theorem SAV_of {S S' : jS} {T T' : jO} {K : Nat → Nat} {C : Nat} (h9 : S' 9 = S 9) (h2 : ∀ o, 2 ≤ o → o < 8 → S' o = S o) (t0 : T' 0 0 = T 0 0) (t3 : T' 3 = T 3) (h : SAV S T K C) : SAV S' T' K C := by
  obtain ⟨a, m, b, c, d, e⟩ := h
  refine ⟨a, m, b, by rw [h9]; exact c, by rw [t0]; exact d, fun i hi => ?_⟩
  obtain ⟨z, t, f⟩ := e i hi
  obtain ⟨k1, k2⟩ := a.1 i (by omega)
  rw [h2 _ k1 k2, t3]
  exact ⟨z, t, f⟩
theorem TX_of {Q T T' : jO} {w : Nat} (t1 : T' 0 1 = T 0 1) (t4 : T' 4 = T 4) (h : TX Q T w) : TX Q T' w := by
  obtain ⟨a, b, c, d⟩ := h
  exact ⟨a, by rw [t1]; exact b, c, by rw [t4]; exact d⟩
/-- the model notes something that isn't looked at -/
def SameT (T T' : jO) : Prop := T' 0 0 = T 0 0 ∧ T' 0 1 = T 0 1 ∧ T' 1 = T 1 ∧ T' 3 = T 3 ∧ T' 4 = T 4
theorem SameT_thr {T T' : jO} (v : Int32) (h : SameT T T') : SameT T (thr T' v) := by
  obtain ⟨a, b, c, d, e⟩ := h
  exact ⟨by unfold thr; rw [pfa (by omega)]; exact a, by unfold thr; rw [pfa (by omega)]; exact b, by unfold thr; rw [put_ne (by decide)]; exact c, by unfold thr; rw [put_ne (by decide)]; exact d, by unfold thr; rw [put_ne (by decide)]; exact e⟩
theorem SameT_rf (T : jO) : SameT T T := ⟨rfl, rfl, rfl, rfl, rfl⟩
theorem SameT_2 {T T' : jO} (f : Nat → Int32) (h : SameT T T') : SameT T (putA T' 2 f) := by
  obtain ⟨a, b, c, d, e⟩ := h
  exact ⟨by rw [putA_ne (by decide)]; exact a, by rw [putA_ne (by decide)]; exact b, by rw [putA_ne (by decide)]; exact c, by rw [putA_ne (by decide)]; exact d, by rw [putA_ne (by decide)]; exact e⟩
theorem COUP_T {S : jS} {K : Nat → Nat} {C : Nat} {T' : jO} (h : SameT (S 10) T') (hc : COUP S K C) : COUP (setO S 10 T') K C := by
  obtain ⟨⟨z, t, a⟩, b, c, w, d⟩ := hc
  obtain ⟨t0, t1, t2, t3, t4⟩ := h
  refine ⟨⟨z, t, ?_⟩, ?_, ?_, w, ?_⟩
  · rw [setO_ne (by decide), setO_at, t2]
    exact a
  · rw [setO_at]
    exact SAV_of (setO_ne (by decide)) (fun o _ _ => setO_ne (by omega)) t0 t3 b
  · rw [setO_ne (by decide)]
    exact c
  · rw [setO_ne (by decide), setO_at]
    exact TX_of t1 t4 d
theorem COUP_1 {S : jS} {K : Nat → Nat} {C : Nat} (A : jO) (hc : COUP S K C) : COUP (setO S 1 A) K C := by
  obtain ⟨⟨z, t, a⟩, b, c, w, d⟩ := hc
  refine ⟨⟨z, t, ?_⟩, ?_, ?_, w, ?_⟩
  · rw [setO_ne (by decide), setO_ne (by decide)]
    exact a
  · rw [setO_ne (by decide)]
    exact SAV_of (setO_ne (by decide)) (fun o _ _ => setO_ne (by omega)) rfl rfl b
  · rw [setO_ne (by decide)]
    exact c
  · rw [setO_ne (by decide), setO_ne (by decide)]
    exact d
theorem COUP_mono {S : jS} {K : Nat → Nat} {C C' : Nat} (h : C ≤ C') (hc : COUP S K C) : COUP S K C' := by
  obtain ⟨⟨z, t, a⟩, b, c⟩ := hc
  exact ⟨⟨z, t, SV_mono h a⟩, SAV_mono h b, c⟩
theorem setO_same {S : jS} {o : Nat} {P : jO} (h : S o = P) : setO S o P = S := by
  rw [← h]
  exact setO_self S o
theorem SI_of {S : jS} {T : jO} {K : Nat → Nat} {C : Nat} (h : SAV S T K C) : SI S K := by
  obtain ⟨a, m, b, c, -, -⟩ := h
  exact ⟨a, m, b, c⟩
/-! a state is saved on both sides -/
theorem kp_lt {S : jS} {K : Nat → Nat} {m : Nat} (hm : m < 6) (h : S 9 0 0 = nI m) : kpS S K = setO (setO S (K m) (S 0)) 9 (put (S 9) 0 0 (S 9 0 0 + nI 1)) ∧ kpK S K = K := by
  have hn : ¬ S 9 0 0 = nI 6 := fun q => by
    rw [h] at q
    have := (nI_eq (by omega) (by omega)).mp q
    omega
  unfold kpS kpK
  rw [if_neg hn, if_neg hn, h, toN_nI (by omega)]
  exact ⟨rfl, rfl⟩
theorem keep_SAV {S : jS} {T : jO} {K : Nat → Nat} {C z t : Nat} (h : SAV S T K C) (hS : SV (S 0) (T 1) z t C) : SAV (kpS S K) (savT T) (kpK S K) C := by
  obtain ⟨hK, m, hm, h9, h0, hs⟩ := h
  rcases Nat.lt_or_ge m 6 with h6 | h6
  · obtain ⟨e1, e2⟩ := kp_lt (K := K) h6 h9
    have et : savT T = savA T m := by
      unfold savT
      rw [if_neg (fun q => by rw [h0] at q; have := (nI_eq (by omega) (by omega)).mp q; omega), h0, toN_nI (by omega)]
    rw [e1, e2, et]
    refine ⟨hK, m + 1, by omega, ?_, ?_, fun i hi => ?_⟩
    · rw [setO_at, put_at, if_pos rfl, h9, nI_add]
    · unfold savA
      rw [put_at, if_pos rfl]
    · have hKi := hK.1 i (by omega)
      have h3 : ∀ q, savA T m 3 q = cp3 (T 3) (T 1) (800 * m) 800 q := fun q => by
        unfold savA
        rw [put_ne (by decide), putA_at]
      rw [setO_ne (by omega)]
      by_cases him : i = m
      · subst him
        rw [setO_at]
        refine ⟨z, t, SV_ext (fun q hq => ?_) hS⟩
        rw [h3]
        unfold cp3
        rw [if_pos (by omega), show 800 * i + q - 800 * i = q by omega]
      · have hne : K i ≠ K m := fun q => him (hK.2 i m (by omega) (by omega) q)
        rw [setO_ne hne]
        obtain ⟨z', t', f⟩ := hs i (by omega)
        refine ⟨z', t', SV_ext (fun q hq => ?_) f⟩
        rw [h3]
        unfold cp3
        rw [if_neg (by omega)]
  · obtain rfl : m = 6 := by omega
    have e1 : kpS S K = setO (setO S (rotK K 5) (S 0)) 9 (put (put (S 9) 0 0 (S 9 0 0 - nI 1)) 0 0 (put (S 9) 0 0 (S 9 0 0 - nI 1) 0 0 + nI 1)) := by
      unfold kpS
      rw [if_pos h9]
    have e2 : kpK S K = rotK K := by
      unfold kpK
      rw [if_pos h9]
    have et : savT T = savA (put (putA T 3 (sh3 (T 3) 4000)) 0 0 (nI 5)) 5 := by
      unfold savT
      rw [if_pos h0]
    have hR := KI_rot hK
    rw [e1, e2, et]
    refine ⟨hR, 6, by omega, ?_, ?_, fun i hi => ?_⟩
    · rw [setO_at, put_at, if_pos rfl, put_at, if_pos rfl, h9]
      decide
    · unfold savA
      rw [put_at, if_pos rfl]
    · have hKi := hR.1 i (by omega)
      have h3 : ∀ q, savA (put (putA T 3 (sh3 (T 3) 4000)) 0 0 (nI 5)) 5 3 q = cp3 (sh3 (T 3) 4000) (T 1) 4000 800 q := fun q => by
        unfold savA
        rw [put_ne (by decide), putA_at, put_ne (by decide), put_ne (by decide), putA_at, putA_ne (by decide)]
      rw [setO_ne (by omega)]
      by_cases him : i = 5
      · subst him
        rw [setO_at]
        refine ⟨z, t, SV_ext (fun q hq => ?_) hS⟩
        rw [h3]
        unfold cp3
        rw [if_pos (by omega), show 800 * 5 + q - 4000 = q by omega]
      · have hne : rotK K i ≠ rotK K 5 := fun q => him (hR.2 i 5 (by omega) (by omega) q)
        rw [setO_ne hne, rotK_at, if_pos (by omega)]
        obtain ⟨z', t', f⟩ := hs (i + 1) (by omega)
        refine ⟨z', t', SV_ext (fun q hq => ?_) f⟩
        rw [h3]
        unfold cp3 sh3
        rw [if_neg (by omega), if_pos (by omega), show 800 * i + q + 800 = 800 * (i + 1) + q by omega]
theorem sav_keep (T : jO) : savT T 0 1 = T 0 1 ∧ savT T 1 = T 1 ∧ savT T 4 = T 4 ∧ savT T 0 2 = T 0 2 := by
  have h : ∀ (A : jO) (m : Nat), savA A m 0 1 = A 0 1 ∧ savA A m 1 = A 1 ∧ savA A m 4 = A 4 ∧ savA A m 0 2 = A 0 2 := by
    intro A m
    unfold savA
    refine ⟨?_, ?_, ?_, ?_⟩
    · rw [pfa (by omega), putA_ne (by decide)]
    · rw [put_ne (by decide), putA_ne (by decide)]
    · rw [put_ne (by decide), putA_ne (by decide)]
    · rw [pfa (by omega), putA_ne (by decide)]
  unfold savT
  split
  · obtain ⟨a, b, c, d⟩ := h (put (putA T 3 (sh3 (T 3) 4000)) 0 0 (nI 5)) 5
    exact ⟨by rw [a, pfa (by omega), putA_ne (by decide)], by rw [b, put_ne (by decide), putA_ne (by decide)], by rw [c, put_ne (by decide), putA_ne (by decide)], by rw [d, pfa (by omega), putA_ne (by decide)]⟩
  · exact h T _
/-- a thing is done: the state from before it is saved, the pool and the row are new -/
theorem do_COUP {S : jS} {K : Nat → Nat} {C C' : Nat} {P' : jO} {r' : Nat → Int32} {z' t' : Nat} (hC : C ≤ C') (hc : COUP S K C) (hS : SV P' r' z' t' C') :
    COUP (setO (setO (kpS S K) 0 P') 10 (putA (savT (thr (S 10) (nI 0))) 1 r')) (kpK S K) C' := by
  obtain ⟨⟨z, t, a⟩, b, c, w, d⟩ := hc
  have hSI := SI_of b
  have b2 : SAV S (thr (S 10) (nI 0)) K C := SAV_of rfl (fun _ _ _ => rfl) (by unfold thr; rw [pfa (by omega)]) (by unfold thr; rw [put_ne (by decide)]) b
  have e1 : (thr (S 10) (nI 0)) 1 = S 10 1 := by unfold thr; rw [put_ne (by decide)]
  have k := keep_SAV b2 (z := z) (t := t) (by rw [e1]; exact a)
  obtain ⟨s1, s2, s3, s4⟩ := sav_keep (thr (S 10) (nI 0))
  refine ⟨⟨z', t', ?_⟩, ?_, ?_, w, ?_⟩
  · rw [setO_ne (by decide), setO_at, setO_at, putA_at]
    exact hS
  · rw [setO_at]
    refine SAV_of ?_ (fun o h1 h2 => ?_) ?_ ?_ (SAV_mono hC k)
    · rw [setO_ne (by decide), setO_ne (by decide)]
    · rw [setO_ne (by omega), setO_ne (by omega)]
    · rw [putA_ne (by decide)]
    · rw [putA_ne (by decide)]
  · rw [setO_ne (by decide), setO_ne (by decide), kpS_ne hSI (by omega)]
    exact c
  · rw [setO_ne (by decide), setO_ne (by decide), setO_at, kpS_ne hSI (by omega)]
    refine TX_of ?_ ?_ d
    · rw [putA_ne (by decide), s1]
      unfold thr
      rw [pfa (by omega)]
    · rw [putA_ne (by decide), s3]
      unfold thr
      rw [put_ne (by decide)]
/-! what a call comes to: k 0 and an answer, or the k-th exception -/
def Out (l : Launch) (E : jE) (y : MethodName) (cc : ByteArray) (nL d : Nat) (av : List Value) (G : jG) (cls : List String) (k : Nat) (v : Int32) (G1 : jG) : Prop :=
  (k = 0 ∧ Ct l E y cc nL (some .int) d av G (some (.int v)) G1) ∨ ∃ j c, k = j + 1 ∧ cls[j]? = some c ∧ CtT l E y cc nL (some .int) d av G c (nxt G1)
def Res (l : Launch) (E : jE) (y4 : MethodName) (c4 : ByteArray) (n4 d4 : Nat) (y5 : MethodName) (c5 : ByteArray) (n5 d5 : Nat) (cls : List String) (a : List Value) (S : jS) (K : Nat → Nat) (C : Nat) (y : Int64 × Nat) : Prop :=
  ∃ (k : Nat) (v : Int32) (S1 : jS) (K1 : Nat → Nat), Out l E y4 c4 n4 d4 (.ref (ad E 11 0) :: a) (S, (K, y)) cls k v (S1, (K1, y)) ∧
    ∀ y', ∃ (b : Int32) (T1 : jO), Ct l E y5 c5 n5 (some .int) d5 (.ref (ad E 10 0) :: a) (S1, (K1, y')) (some (.int b)) (setO S1 10 T1, (K1, y')) ∧ T1 0 2 = nI k ∧ (k = 0 → b = v) ∧ COUP (setO S1 10 T1) K1 (C + 400000)
abbrev xO : String := "java/lang/IndexOutOfBoundsException"
abbrev xA : String := "java/lang/IllegalArgumentException"
abbrev xS : String := "java/lang/IllegalStateException"
theorem rng_split (p : Int32) {lo hi : Nat} (h : lo ≤ hi) (hh : hi < 2 ^ 31) : (∃ j, lo ≤ j ∧ j ≤ hi ∧ p = nI j ∧ witQ p (nI lo) (nI hi) = true ∧ ¬ p < nI lo ∧ p ≤ nI hi) ∨ ((p < nI lo ∨ ¬ p ≤ nI hi) ∧ witQ p (nI lo) (nI hi) = false) := by
  rcases hb : witQ p (nI lo) (nI hi) with _ | _
  · right
    refine ⟨?_, rfl⟩
    unfold witQ at hb
    by_cases a : nI lo ≤ p
    · right
      intro q
      rw [decide_eq_true a, decide_eq_true q] at hb
      exact Bool.noConfusion hb
    · left
      exact Int32.not_le.mp a
  · left
    obtain ⟨j, a, b, c⟩ := wit_j hh hb h
    refine ⟨j, a, b, c, rfl, ?_, ?_⟩
    · rw [c]
      exact nI_nlt a (by omega)
    · rw [c]
      exact nI_le b hh
theorem hol_split (p : Int32) : (∃ h, h < 8 ∧ p = nI h ∧ witQ p (nI 0) (nI 7) = true) ∨ ((p < 0 ∨ ¬ p < nI 8) ∧ witQ p (nI 0) (nI 7) = false) := by
  rcases rng_split p (lo := 0) (hi := 7) (by omega) (by omega) with ⟨j, a, b, c, d, -⟩ | ⟨a, b⟩
  · exact Or.inl ⟨j, by omega, c, d⟩
  · right
    refine ⟨?_, b⟩
    rcases a with a | a
    · exact Or.inl a
    · right
      intro q
      have h0 : p < 0 ∨ ¬ p < 0 := Decidable.em _
      rcases h0 with h0 | h0
      · exact a (Int32.le_of_lt (Int32.lt_of_lt_of_le h0 (by decide)))
      · obtain ⟨j, j1, rfl⟩ := nI_of h0
        rw [nI_ltI j1 (by omega)] at q
        exact a (nI_le (by omega) (by omega))
theorem num_split {S : jS} {z t : Nat} (hV : VH (S 0) z t) (p : Int32) : (∃ n, n < z ∧ p = nI n ∧ okN S p = true ∧ witQ p (nI 0) (nI (z - 1)) = true) ∨ (okN S p = false ∧ witQ p (nI 0) (nI (z - 1)) = false) := by
  have hz := hV.2.1
  have h0 : p < 0 ∨ ¬ p < 0 := Decidable.em _
  rcases h0 with h0 | h0
  · right
    refine ⟨?_, ?_⟩
    · unfold okN
      rw [decide_eq_true h0]
      rfl
    · unfold witQ
      rw [decide_eq_false (fun q => absurd (Int32.lt_of_le_of_lt q h0) (by decide)), Bool.false_and]
  · obtain ⟨j, j1, rfl⟩ := nI_of h0
    have e1 : okN S (nI j) = decide (j < z) := in_b j1 hV
    have e2 := wit_b (z := z) j1 (by omega) (by omega)
    by_cases q : j < z
    · exact Or.inl ⟨j, q, rfl, by rw [e1]; exact decide_eq_true q, by rw [e2]; exact decide_eq_true q⟩
    · exact Or.inr ⟨by rw [e1]; exact decide_eq_false q, by rw [e2]; exact decide_eq_false q⟩
/-- the model's contract at a state whose object 10 is T -/
theorem ct_at {l : Launch} {E : jE} {y : MethodName} {cc : ByteArray} {nL d : Nat} {ret : Option FieldType} {av : List Value} {S S' : jS} {x x' : jX} {T : jO} {r : Option Value} (h : S 10 = T) (ct : Ct l E y cc nL ret d av (setO S 10 T, x) r (S', x')) : Ct l E y cc nL ret d av (S, x) r (S', x') := by
  rwa [setO_same h] at ct
theorem thr_2 (T : jO) (v : Int32) : thr T v 0 2 = v := by
  unfold thr
  rw [put_at, if_pos rfl]
/-- a call that is refused -/
theorem ref_Res {l : Launch} {E : jE} {y4 y5 : MethodName} {c4 c5 : ByteArray} {n4 d4 n5 d5 : Nat} {cls : List String} {a : List Value} {S : jS} {K : Nat → Nat} {C : Nat} {y : Int64 × Nat} {c : String} (j : Nat) (hc : COUP S K C) (hj : cls[j]? = some c)
    (ct : CtT l E y4 c4 n4 (some .int) d4 (.ref (ad E 11 0) :: a) (S, (K, y)) c (nxt (S, (K, y))))
    (cm : ∀ y', Ct l E y5 c5 n5 (some .int) d5 (.ref (ad E 10 0) :: a) (setO S 10 (S 10), (K, y')) (some (.int (nI 0))) (setO S 10 (thr (thr (S 10) (nI 0)) (nI (j + 1))), (K, y'))) : Res l E y4 c4 n4 d4 y5 c5 n5 d5 cls a S K C y := by
  refine ⟨j + 1, 0, S, K, Or.inr ⟨j, c, rfl, hj, ct⟩, fun y' => ⟨nI 0, thr (thr (S 10) (nI 0)) (nI (j + 1)), ct_at rfl (cm y'), thr_2 _ _, fun q => by omega, ?_⟩⟩
  exact COUP_mono (by omega) (COUP_T (SameT_thr _ (SameT_thr _ (SameT_rf _))) hc)
/-- a look -/
theorem look_Res {l : Launch} {E : jE} {y4 y5 : MethodName} {c4 c5 : ByteArray} {n4 d4 n5 d5 : Nat} {cls : List String} {a : List Value} {S : jS} {K : Nat → Nat} {C : Nat} {y : Int64 × Nat} {v : Int32} (hc : COUP S K C)
    (ct : Ct l E y4 c4 n4 (some .int) d4 (.ref (ad E 11 0) :: a) (S, (K, y)) (some (.int v)) (S, (K, y)))
    (cm : ∀ y', Ct l E y5 c5 n5 (some .int) d5 (.ref (ad E 10 0) :: a) (setO S 10 (S 10), (K, y')) (some (.int v)) (setO S 10 (thr (S 10) (nI 0)), (K, y'))) : Res l E y4 c4 n4 d4 y5 c5 n5 d5 cls a S K C y :=
  ⟨0, v, S, K, Or.inl ⟨rfl, ct⟩, fun y' => ⟨v, thr (S 10) (nI 0), ct_at rfl (cm y'), thr_2 _ _, fun _ => rfl, COUP_mono (by omega) (COUP_T (SameT_thr _ (SameT_rf _)) hc)⟩⟩
/-- a look ahead -/
theorem ahead_Res {l : Launch} {E : jE} {y4 y5 : MethodName} {c4 c5 : ByteArray} {n4 d4 n5 d5 : Nat} {cls : List String} {a : List Value} {S : jS} {K : Nat → Nat} {C : Nat} {y : Int64 × Nat} {v : Int32} {A T1 : jO} (hc : COUP S K C) (h2 : T1 0 2 = nI 0) (hT : SameT (S 10) T1)
    (ct : Ct l E y4 c4 n4 (some .int) d4 (.ref (ad E 11 0) :: a) (S, (K, y)) (some (.int v)) (setO S 1 A, (K, y)))
    (cm : ∀ y', Ct l E y5 c5 n5 (some .int) d5 (.ref (ad E 10 0) :: a) (setO (setO S 1 A) 10 (S 10), (K, y')) (some (.int v)) (setO (setO S 1 A) 10 T1, (K, y'))) : Res l E y4 c4 n4 d4 y5 c5 n5 d5 cls a S K C y := by
  have e10 : setO S 1 A 10 = S 10 := setO_ne (by decide)
  refine ⟨0, v, setO S 1 A, K, Or.inl ⟨rfl, ct⟩, fun y' => ⟨v, T1, ct_at e10 (cm y'), h2, fun _ => rfl, COUP_mono (by omega) (COUP_T ?_ (COUP_1 A hc))⟩⟩
  rw [e10]
  exact hT
/-- a thing that is done -/
theorem do_Res {l : Launch} {E : jE} {y4 y5 : MethodName} {c4 c5 : ByteArray} {n4 d4 n5 d5 : Nat} {cls : List String} {a : List Value} {S : jS} {K : Nat → Nat} {C : Nat} {y : Int64 × Nat} {v : Int32} {P' : jO} {r' : Nat → Int32} {z' t' : Nat} (hc : COUP S K C) (hS : SV P' r' z' t' (C + 400000))
    (ct : Ct l E y4 c4 n4 (some .int) d4 (.ref (ad E 11 0) :: a) (S, (K, y)) (some (.int v)) (setO (kpS S K) 0 P', (kpK S K, y)))
    (cm : ∀ y', Ct l E y5 c5 n5 (some .int) d5 (.ref (ad E 10 0) :: a) (setO (setO (kpS S K) 0 P') 10 (S 10), (kpK S K, y')) (some (.int v)) (setO (setO (kpS S K) 0 P') 10 (putA (savT (thr (S 10) (nI 0))) 1 r'), (kpK S K, y'))) : Res l E y4 c4 n4 d4 y5 c5 n5 d5 cls a S K C y := by
  have hSI := SI_of hc.2.1
  have e10 : setO (kpS S K) 0 P' 10 = S 10 := by rw [setO_ne (by decide), kpS_ne hSI (by omega)]
  refine ⟨0, v, _, _, Or.inl ⟨rfl, ct⟩, fun y' => ⟨v, _, ct_at e10 (cm y'), ?_, fun _ => rfl, do_COUP (by omega) hc hS⟩⟩
  rw [putA_ne (by decide), (sav_keep _).2.2.2, thr_2]
