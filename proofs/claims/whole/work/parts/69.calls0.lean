/-! THE CALLS THAT NEVER THROW, ON BOTH SIDES -/
def Res0 (l : Launch) (E : jE) (y4 : MethodName) (c4 : ByteArray) (n4 d4 : Nat) (y5 : MethodName) (c5 : ByteArray) (n5 d5 : Nat) (ret : Option FieldType) (V : Value → Prop) (S : jS) (K : Nat → Nat) (C : Nat) (y : Int64 × Nat) : Prop :=
  ∃ (v : Value) (S1 : jS) (T1 : jO), V v ∧ Ct l E y4 c4 n4 ret d4 [.ref (ad E 11 0)] (S, (K, y)) (some v) (S1, (K, y)) ∧ Ct l E y5 c5 n5 ret d5 [.ref (ad E 10 0)] (S1, (K, y)) (some v) (setO S1 10 T1, (K, y)) ∧ COUP (setO S1 10 T1) K (C + 400000)
def vI (v : Value) : Prop := ∃ i, v = .int i
def vL (v : Value) : Prop := ∃ i, v = .long i
def vDb (v : Value) : Prop := ∃ i, v = .double i
section PC0
variable {l : Launch} {E : jE} {S : jS} {K : Nat → Nat} {C : Nat} {y : Int64 × Nat}
theorem p_clearBuffer (hc : COUP S K C) : Res0 l E yX4_clearBuffer cX4_clearBuffer 2 7 yX5_clearBuffer cX5_clearBuffer 2 1 (some .int) vI S K C y := by
  obtain ⟨⟨z, t, hC, hV, ht, hB, hU⟩, hs, hO, w, hX⟩ := id hc
  obtain ⟨x1, x2, x3, x4⟩ := id hX
  have ct := c4_clearBuffer l E S K y
  have e10 : setO S 8 (put (S 8) 0 0 (nI 0)) 10 = S 10 := setO_ne (by decide)
  have cm := c5_clearBuffer l E (setO S 8 (put (S 8) 0 0 (nI 0))) (K, y) (S 10)
  rw [x1] at ct
  rw [x2] at cm
  refine ⟨.int (nI w), _, _, ⟨_, rfl⟩, ct, ct_at e10 cm, ⟨z, t, ?_⟩, ?_, ?_, 0, ?_, ?_, by omega, fun i hi => by omega⟩
  · rw [setO_ne (by decide), setO_ne (by decide), setO_at, put_ne (by decide), thr_1]
    exact ⟨hC, hV, ht, B10_mono (by omega) hB, hU⟩
  · rw [setO_at]
    refine SAV_mono (by omega) (SAV_of ?_ (fun o _ _ => ?_) ?_ ?_ hs)
    · rw [setO_ne (by decide), setO_ne (by decide)]
    · rw [setO_ne (by omega), setO_ne (by omega)]
    · rw [pfa (by omega)]
      unfold thr
      rw [pfa (by omega)]
    · rw [put_ne (by decide)]
      unfold thr
      rw [put_ne (by decide)]
  · rw [setO_ne (by decide), setO_at]
    obtain ⟨-, a, a1, a2⟩ := hO
    refine ⟨⟨0, by omega, by rw [put_at, if_pos rfl]⟩, a, a1, ?_⟩
    rw [pfa (by omega)]
    exact a2
  · rw [setO_ne (by decide), setO_at, put_at, if_pos rfl]
  · rw [setO_at, put_at, if_pos rfl]
theorem p_firstError (hc : COUP S K C) : Res0 l E yX4_firstError cX4_firstError 1 7 yX5_firstError cX5_firstError 2 8 (some .int) vI S K C y := by
  obtain ⟨⟨z, t, hC, hV, ht, hB, hU⟩, hs, hO, w, hX⟩ := id hc
  obtain ⟨g1, g2⟩ := err_eq hX
  have ct := c4_firstError l E S K y hO
  have e10 : setO S 8 (rdAll (S 8)) 10 = S 10 := setO_ne (by decide)
  have cm := c5_firstError l E (setO S 8 (rdAll (S 8))) (K, y) (S 10) (rew_go hX).2.2.1
  rw [g1] at cm
  have hXI2 : XI (thr (S 10) (nI 0)) := (rew_go (TX_thr (v := nI 0) hX)).2.2.1
  obtain ⟨⟨f1, f2, f3, f4, f5, f6, f7⟩, -⟩ := text_ok hXI2
  refine ⟨.int _, _, _, ⟨_, rfl⟩, ct, ct_at e10 cm, ⟨z, t, ?_⟩, ?_, ?_, w, ?_⟩
  · rw [setO_ne (by decide), setO_ne (by decide), setO_at, f3, thr_1]
    exact ⟨hC, hV, ht, B10_mono (by omega) hB, hU⟩
  · rw [setO_at]
    refine SAV_mono (by omega) (SAV_of ?_ (fun o _ _ => ?_) ?_ ?_ hs)
    · rw [setO_ne (by decide), setO_ne (by decide)]
    · rw [setO_ne (by omega), setO_ne (by omega)]
    · rw [f6]
      unfold thr
      rw [pfa (by omega)]
    · rw [f5]
      unfold thr
      rw [put_ne (by decide)]
  · rw [setO_ne (by decide), setO_at]
    exact OI_rdAll hO
  · rw [setO_ne (by decide), setO_at, setO_at]
    exact g2
theorem p_fullness (hc : COUP S K C) (hC9 : C ≤ 250000000) : Res0 l E yX4_fullness cX4_fullness 1 5 yX5_fullness cX5_fullness 2 5 (some .int) vI S K C y := by
  obtain ⟨⟨z, t, hsv⟩, hs, hO, w, hX⟩ := id hc
  obtain ⟨g1, g2, -, -, g3, -⟩ := float_all hsv hC9
  obtain ⟨hC, hV, ht, hB, hU⟩ := hsv
  have hz := hV.2.1.2.1
  have ct := c4_fullness l E S (K, y) hz.1 hz.2.2 (by omega) g1
  have cm := c5_fullness l E S (K, y) (S 10) (MI_of_CP hC hV) g2
  rw [← g3] at cm
  exact ⟨.int _, _, _, ⟨_, rfl⟩, ct, ct_at rfl cm, COUP_mono (by omega) (COUP_T (SameT_thr _ (SameT_rf _)) hc)⟩
theorem p_scatter (hc : COUP S K C) (hC9 : C ≤ 250000000) : Res0 l E yX4_scatter cX4_scatter 1 5 yX5_scatter cX5_scatter 2 5 (some .int) vI S K C y := by
  obtain ⟨⟨z, t, hsv⟩, hs, hO, w, hX⟩ := id hc
  obtain ⟨g1, g2, -, -, -, g3, -⟩ := float_all hsv hC9
  obtain ⟨hC, hV, ht, hB, hU⟩ := hsv
  have hz := hV.2.1.2.1
  have ct := c4_scatter l E S (K, y) hz.1 hz.2.2 g1
  have cm := c5_scatter l E S (K, y) (S 10) (MI_of_CP hC hV) g2
  rw [← g3] at cm
  exact ⟨.int _, _, _, ⟨_, rfl⟩, ct, ct_at rfl cm, COUP_mono (by omega) (COUP_T (SameT_thr _ (SameT_rf _)) hc)⟩
theorem p_meanHeld (hc : COUP S K C) (hC9 : C ≤ 250000000) : Res0 l E yX4_meanHeld cX4_meanHeld 1 5 yX5_meanHeld cX5_meanHeld 2 6 (some .double) vDb S K C y := by
  obtain ⟨⟨z, t, hsv⟩, hs, hO, w, hX⟩ := id hc
  obtain ⟨g1, g2, -, -, -, -, g3, -⟩ := float_all hsv hC9
  obtain ⟨hC, hV, ht, hB, hU⟩ := hsv
  have ct := c4_meanHeld l E S (K, y) g1
  have cm := c5_meanHeld l E S (K, y) (S 10) (MI_of_CP hC hV) g2
  rw [← g3] at cm
  exact ⟨.double _, _, _, ⟨_, rfl⟩, ct, ct_at rfl cm, COUP_mono (by omega) (COUP_T (SameT_thr _ (SameT_rf _)) hc)⟩
theorem p_digest (hc : COUP S K C) (hC9 : C ≤ 250000000) : Res0 l E yX4_digest cX4_digest 4 8 yX5_digest cX5_digest 5 7 (some .long) vL S K C y := by
  obtain ⟨⟨z, t, hsv⟩, hs, hO, w, hX⟩ := id hc
  obtain ⟨g1, g2, g3, g4, -⟩ := float_all hsv hC9
  obtain ⟨-, m, hm6, h9, hm, -⟩ := id hs
  have hd := dig_eq hsv hC9 (h9.trans hm.symm) hX
  obtain ⟨hC, hV, ht, hB, hU⟩ := hsv
  have hz := hV.2.1.2.1
  have ct := c4_digest l E S (K, y) hV.1 hz.1 hz.2.2 (by omega) g1 g3 hO
  have e10 : setO S 1 (dgA S z) 10 = S 10 := setO_ne (by decide)
  have hcl := cnt_le (stS (S 0)) z
  have cm := c5_digest l E (setO S 1 (dgA S z)) (K, y) (S 10) (MI_of_CP hC hV) g2 g4 hX.2.2.1 hX.2.1 (m := cnt (stS (S 0)) z) (by omega) (many_eq hz.2.2 hC) (fun k => (wishT S k 0).1) (leapN (S 0 0 0 + nI 20) 20 (S 0) 2 0) (freeT S z (nI 4)).1
    (fun B k hk => wish_then (by omega) hk (by omega : t < 19000) (show CP (S 0) (S 10 1) from hC) hV hB)
    (fun {B} => who_then (p := B) (n := 0) (b := 20) (by omega) (by omega) hC hV)
    (fun {B} => free_then (p := B) (by omega) (nI 4) hC hV)
  rw [← hd] at cm
  refine ⟨.long _, _, _, ⟨_, rfl⟩, ct, ct_at e10 cm, COUP_mono (by omega) (COUP_T ?_ (COUP_1 _ hc))⟩
  rw [e10]
  exact SameT_2 _ (SameT_thr _ (SameT_rf _))
end PC0
