/-! BITS: what the loops do -/
def nn32 (r : UInt32) : Bool := decide (r &&& 0x7fffffff ≤ 0x7f800000)
def nn64 (r : UInt64) : Bool := decide (r &&& 0x7fffffffffffffff ≤ 0x7ff0000000000000)
theorem nn_32 {r : UInt32} (h : nn32 r = true) : vf_n32 r := by unfold nn32 at h; unfold vf_n32; exact of_decide_eq_true h
theorem nn_64 {r : UInt64} (h : nn64 r = true) : vf_n64 r := by unfold nn64 at h; unfold vf_n64; exact of_decide_eq_true h
def fU (r : UInt32) : Bool := decide (Op.cmpValue (FP.fcmp r FP.fconst1) .g < 0)
def fP (r : UInt32) : Bool := decide (0 < Op.cmpValue (FP.fcmp r FP.fconst0) .l)
def flU : Nat → UInt32 → Int32 → UInt32 × Int32
  | 0, r, e => (r, e)
  | k + 1, r, e => if fU r = true then flU k (FP.fmul r FP.fconst2) (e + Int32.ofInt (-1)) else (r, e)
def flUk : Nat → UInt32 → Bool
  | 0, _ => true
  | k + 1, r => if fU r = true then nn32 (FP.fmul r FP.fconst2) && flUk k (FP.fmul r FP.fconst2) else true
def flV (x : UInt32) : UInt32 × Int32 := flU 127 x (nI 127)
def ofF (x : UInt32) : Int32 := if fP x = true then ((flV x).2 <<< (nI 23 &&& 31)) + FP.f2i (FP.fmul (FP.fsub (flV x).1 FP.fconst1) 1258291200) else nI 0
def okF (x : UInt32) : Bool := !fP x || (flUk 127 x && nn32 (FP.fsub (flV x).1 FP.fconst1) && nn32 (FP.fmul (FP.fsub (flV x).1 FP.fconst1) 1258291200))
def dU (r : UInt64) : Bool := decide (Op.cmpValue (FP.dcmp r FP.dconst1) .g < 0)
def dD (r : UInt64) : Bool := decide (Op.cmpValue (FP.dcmp r 4611686018427387904) .l < 0)
def dP (r : UInt64) : Bool := decide (0 < Op.cmpValue (FP.dcmp r FP.dconst0) .l)
def dlU : Nat → UInt64 → Int64 → UInt64 × Int64
  | 0, r, e => (r, e)
  | k + 1, r, e => if dU r = true then dlU k (FP.dmul r 4611686018427387904) (e - 1) else (r, e)
def dlD : Nat → UInt64 → Int64 → UInt64 × Int64
  | 0, r, e => (r, e)
  | k + 1, r, e => if dD r = true then (r, e) else dlD k (FP.ddiv r 4611686018427387904) (e + 1)
def dlUk : Nat → UInt64 → Bool
  | 0, _ => true
  | k + 1, r => if dU r = true then nn64 (FP.dmul r 4611686018427387904) && dlUk k (FP.dmul r 4611686018427387904) else true
def dlDk : Nat → UInt64 → Bool
  | 0, _ => true
  | k + 1, r => if dD r = true then true else nn64 (FP.ddiv r 4611686018427387904) && dlDk k (FP.ddiv r 4611686018427387904)
def dlV (x : UInt64) : UInt64 × Int64 := dlD 1023 (dlU 1023 x 1023).1 (dlU 1023 x 1023).2
def ofD (x : UInt64) : Int64 := if dP x = true then ((dlV x).2 <<< ((nI 52).toInt64 &&& 63)) + FP.d2l (FP.dmul (FP.dsub (dlV x).1 FP.dconst1) 4841369599423283200) else 0
def okD (x : UInt64) : Bool := !dP x || (dlUk 1023 x && dlDk 1023 (dlU 1023 x 1023).1 && nn64 (FP.dsub (dlV x).1 FP.dconst1) && nn64 (FP.dmul (FP.dsub (dlV x).1 FP.dconst1) 4841369599423283200))
set_option maxRecDepth 100000 in
set_option maxHeartbeats 1000000 in
theorem c0_ofFloat (l : Launch) (E : jE) (G : jG) (x : UInt32) (hok : okF x = true) : Ct l E yX0_ofFloat cX0_ofFloat 4 (some .int) 1 [.float x] G (some (.int (ofF x))) G := by
  refine Ct.of (by decide +kernel) (Nat.le_refl _) (Nat.le_of_ble_eq_true rfl) rfl (fun J hJ hF => ?_)
  refine r_fload_n hJ dX0_ofFloat_0 rfl jg0 ?_
  refine r_fconst0 hJ dX0_ofFloat_1 ?_
  refine r_fcmp hJ dX0_ofFloat_2 ?_
  refine r_if_gt hJ (tgt := 8) dX0_ofFloat_3 (by decide) (fun c3 => ?_) (fun c3 => ?_)
  · refine r_fload_n hJ dX0_ofFloat_8 rfl jg0 ?_
    refine r_fstore_n hJ dX0_ofFloat_9 rfl (jp1 rfl rfl) ?_
    refine r_bipush hJ (v := nI 127) dX0_ofFloat_10 (by decide) ?_
    refine r_istore_n hJ dX0_ofFloat_12 rfl (jp2 rfl rfl) ?_
    refine r_iconst hJ (v := nI 0) dX0_ofFloat_13 (by decide) ?_
    refine r_istore_n hJ dX0_ofFloat_14 rfl (jp3 rfl rfl) ?_
    have hp : fP x = true := decide_eq_true c3
    unfold okF at hok
    rw [hp, Bool.not_true, Bool.false_or, Bool.and_eq_true, Bool.and_eq_true] at hok
    obtain ⟨⟨k1, n1⟩, n2⟩ := hok
    replace n1 := nn_32 n1
    replace n2 := nn_32 n2
    have t40 : ∀ (r : UInt32) (e : Int32) (v3 : Option Value), (r, e) = flV x → J G 40 [some (.float x), some (.float r), some (.int e), v3] [] := by
      intro r e v3 he
      rw [← he] at n1 n2
      refine r_iload_n hJ dX0_ofFloat_40 rfl jg2 ?_
      refine r_bipush hJ (v := nI 23) dX0_ofFloat_41 (by decide) ?_
      refine r_ishl hJ dX0_ofFloat_43 ?_
      refine r_fload_n hJ dX0_ofFloat_44 rfl jg1 ?_
      refine r_fconst1 hJ dX0_ofFloat_45 ?_
      refine r_fsub hJ (n1) dX0_ofFloat_46 ?_
      refine r_ldcf hJ m286 dX0_ofFloat_47 ?_
      refine r_fmul hJ (n2) dX0_ofFloat_49 ?_
      refine r_f2i hJ dX0_ofFloat_50 ?_
      refine r_iadd hJ dX0_ofFloat_51 ?_
      exact ret_i hF dX0_ofFloat_52 (by unfold ofF; rw [if_pos hp, ← he]) rfl
    have loop1 : ∀ (k i : Nat) (r : UInt32) (e : Int32), i + k = 127 → flU k r e = flV x → flUk k r = true → J G 15 [some (.float x), some (.float r), some (.int e), some (.int (nI i))] [] := by
      intro k
      induction k with
      | zero =>
        intro i r e hi he hk
        obtain rfl : i = 127 := by omega
        refine r_iload_n hJ dX0_ofFloat_15 rfl jg3 ?_
        refine r_bipush hJ (v := nI 127) dX0_ofFloat_16 (by decide) ?_
        refine r_icmp_ge hJ (tgt := 40) dX0_ofFloat_18 (by decide) (fun c18 => ?_) (fun c18 => ?_)
        · exact t40 _ _ _ he
        · exact absurd (nI_le (by omega) (by omega)) c18
      | succ k ih =>
        intro i r e hi he hk
        refine r_iload_n hJ dX0_ofFloat_15 rfl jg3 ?_
        refine r_bipush hJ (v := nI 127) dX0_ofFloat_16 (by decide) ?_
        refine r_icmp_ge hJ (tgt := 40) dX0_ofFloat_18 (by decide) (fun c18 => ?_) (fun c18 => ?_)
        · exact absurd c18 (nI_ge (by omega) (by omega))
        · refine r_fload_n hJ dX0_ofFloat_21 rfl jg1 ?_
          refine r_fconst1 hJ dX0_ofFloat_22 ?_
          refine r_fcmp hJ dX0_ofFloat_23 ?_
          refine r_if_ge hJ (tgt := 40) dX0_ofFloat_24 (by decide) (fun c24 => ?_) (fun c24 => ?_)
          · have c24 : ¬ fU r = true := fun q => absurd (of_decide_eq_true q) (Int32.not_lt.mpr c24)
            rw [flU, if_neg c24] at he
            exact t40 _ _ _ he
          · have c24 : fU r = true := decide_eq_true (Int32.not_le.mp c24)
            rw [flU, if_pos c24] at he
            rw [flUk, if_pos c24, Bool.and_eq_true] at hk
            refine r_fload_n hJ dX0_ofFloat_27 rfl jg1 ?_
            refine r_fconst2 hJ dX0_ofFloat_28 ?_
            refine r_fmul hJ (nn_32 hk.1) dX0_ofFloat_29 ?_
            refine r_fstore_n hJ dX0_ofFloat_30 rfl (jp1 rfl rfl) ?_
            refine r_iinc hJ dX0_ofFloat_31 jg2 rfl (jp2 rfl rfl) ?_
            refine r_iinc hJ dX0_ofFloat_34 jg3 (ii1 _) (jp3 rfl rfl) ?_
            refine r_goto hJ (tgt := 15) dX0_ofFloat_37 (by decide) ?_
            exact ih (i + 1) _ _ (by omega) he hk.2
    exact loop1 127 0 x (nI 127) rfl rfl k1
  · refine r_iconst hJ (v := nI 0) dX0_ofFloat_6 (by decide) ?_
    exact ret_i hF dX0_ofFloat_7 (by unfold ofF; rw [if_neg (show ¬ fP x = true from fun q => c3 (of_decide_eq_true q))]) rfl

set_option maxRecDepth 100000 in
set_option maxHeartbeats 1000000 in
theorem c0_ofDouble (l : Launch) (E : jE) (G : jG) (x : UInt64) (hok : okD x = true) : Ct l E yX0_ofDouble cX0_ofDouble 7 (some .long) 1 [.double x] G (some (.long (ofD x))) G := by
  refine Ct.of (by decide +kernel) (Nat.le_refl _) (Nat.le_of_ble_eq_true rfl) rfl (fun J hJ hF => ?_)
  refine r_dload_n hJ dX0_ofDouble_0 rfl jg0 ?_
  refine r_dconst0 hJ dX0_ofDouble_1 ?_
  refine r_dcmp hJ dX0_ofDouble_2 ?_
  refine r_if_gt hJ (tgt := 8) dX0_ofDouble_3 (by decide) (fun c3 => ?_) (fun c3 => ?_)
  · refine r_dload_n hJ dX0_ofDouble_8 rfl jg0 ?_
    refine r_dstore_n hJ dX0_ofDouble_9 rfl (jq2 rfl rfl) ?_
    refine r_ldc2 hJ m455 dX0_ofDouble_10 ?_
    refine r_lstore hJ dX0_ofDouble_13 (jq4 rfl rfl) ?_
    refine r_iconst hJ (v := nI 0) dX0_ofDouble_15 (by decide) ?_
    refine r_istore hJ dX0_ofDouble_16 (jp6 rfl rfl) ?_
    have hp : dP x = true := decide_eq_true c3
    unfold okD at hok
    rw [hp, Bool.not_true, Bool.false_or, Bool.and_eq_true, Bool.and_eq_true, Bool.and_eq_true] at hok
    obtain ⟨⟨⟨k1, k2⟩, n1⟩, n2⟩ := hok
    replace n1 := nn_64 n1
    replace n2 := nn_64 n2
    have t87 : ∀ (r : UInt64) (e : Int64) (v6 : Option Value), (r, e) = dlV x → J G 87 [some (.double x), none, some (.double r), none, some (.long e), none, v6] [] := by
      intro r e v6 he
      rw [← he] at n1 n2
      refine r_lload hJ dX0_ofDouble_87 jg4 ?_
      refine r_bipush hJ (v := nI 52) dX0_ofDouble_89 (by decide) ?_
      refine r_lshl hJ (rfl) dX0_ofDouble_91 ?_
      refine r_dload_n hJ dX0_ofDouble_92 rfl jg2 ?_
      refine r_dconst1 hJ dX0_ofDouble_93 ?_
      refine r_dsub hJ (n1) dX0_ofDouble_94 ?_
      refine r_ldc2d hJ m457 dX0_ofDouble_95 ?_
      refine r_dmul hJ (n2) dX0_ofDouble_98 ?_
      refine r_d2l hJ dX0_ofDouble_99 ?_
      refine r_ladd hJ dX0_ofDouble_100 ?_
      exact ret_l hF dX0_ofDouble_101 (by unfold ofD; rw [if_pos hp, ← he]) rfl
    have loop2 : ∀ (k i : Nat) (r : UInt64) (e : Int64), i + k = 1023 → dlD k r e = dlV x → dlDk k r = true → J G 53 [some (.double x), none, some (.double r), none, some (.long e), none, some (.int (nI i))] [] := by
      intro k
      induction k with
      | zero =>
        intro i r e hi he hk
        obtain rfl : i = 1023 := by omega
        refine r_iload hJ dX0_ofDouble_53 jg6 ?_
        refine r_sipush hJ (v := nI 1023) dX0_ofDouble_55 (by decide) ?_
        refine r_icmp_ge hJ (tgt := 87) dX0_ofDouble_58 (by decide) (fun c58 => ?_) (fun c58 => ?_)
        · exact t87 _ _ _ he
        · exact absurd (nI_le (by omega) (by omega)) c58
      | succ k ih =>
        intro i r e hi he hk
        refine r_iload hJ dX0_ofDouble_53 jg6 ?_
        refine r_sipush hJ (v := nI 1023) dX0_ofDouble_55 (by decide) ?_
        refine r_icmp_ge hJ (tgt := 87) dX0_ofDouble_58 (by decide) (fun c58 => ?_) (fun c58 => ?_)
        · exact absurd c58 (nI_ge (by omega) (by omega))
        · refine r_dload_n hJ dX0_ofDouble_61 rfl jg2 ?_
          refine r_ldc2d hJ m456 dX0_ofDouble_62 ?_
          refine r_dcmp hJ dX0_ofDouble_65 ?_
          refine r_if_lt hJ (tgt := 87) dX0_ofDouble_66 (by decide) (fun c66 => ?_) (fun c66 => ?_)
          · have c66 : dD r = true := decide_eq_true c66
            rw [dlD, if_pos c66] at he
            exact t87 _ _ _ he
          · have c66 : ¬ dD r = true := fun q => c66 (of_decide_eq_true q)
            rw [dlD, if_neg c66] at he
            rw [dlDk, if_neg c66, Bool.and_eq_true] at hk
            refine r_dload_n hJ dX0_ofDouble_69 rfl jg2 ?_
            refine r_ldc2d hJ m456 dX0_ofDouble_70 ?_
            refine r_ddiv hJ (nn_64 hk.1) dX0_ofDouble_73 ?_
            refine r_dstore_n hJ dX0_ofDouble_74 rfl (jq2 rfl rfl) ?_
            refine r_lload hJ dX0_ofDouble_75 jg4 ?_
            refine r_lconst hJ (v := 1) dX0_ofDouble_77 rfl ?_
            refine r_ladd hJ dX0_ofDouble_78 ?_
            refine r_lstore hJ dX0_ofDouble_79 (jq4 rfl rfl) ?_
            refine r_iinc hJ dX0_ofDouble_81 jg6 (ii1 _) (jp6 rfl rfl) ?_
            refine r_goto hJ (tgt := 53) dX0_ofDouble_84 (by decide) ?_
            exact ih (i + 1) _ _ (by omega) he hk.2
    have t50 : ∀ (r : UInt64) (e : Int64) (v6 : Option Value), nc2 v6 = true → (r, e) = dlU 1023 x 1023 → J G 50 [some (.double x), none, some (.double r), none, some (.long e), none, v6] [] := by
      intro r e v6 h6 he
      rw [← he] at k2
      refine r_iconst hJ (v := nI 0) dX0_ofDouble_50 (by decide) ?_
      refine r_istore hJ dX0_ofDouble_51 (jp6 rfl rfl) ?_
      exact loop2 1023 0 _ _ rfl (by unfold dlV; rw [← he]) k2
    have loop1 : ∀ (k i : Nat) (r : UInt64) (e : Int64), i + k = 1023 → dlU k r e = dlU 1023 x 1023 → dlUk k r = true → J G 18 [some (.double x), none, some (.double r), none, some (.long e), none, some (.int (nI i))] [] := by
      intro k
      induction k with
      | zero =>
        intro i r e hi he hk
        obtain rfl : i = 1023 := by omega
        refine r_iload hJ dX0_ofDouble_18 jg6 ?_
        refine r_sipush hJ (v := nI 1023) dX0_ofDouble_20 (by decide) ?_
        refine r_icmp_ge hJ (tgt := 50) dX0_ofDouble_23 (by decide) (fun c23 => ?_) (fun c23 => ?_)
        · exact t50 _ _ _ rfl he
        · exact absurd (nI_le (by omega) (by omega)) c23
      | succ k ih =>
        intro i r e hi he hk
        refine r_iload hJ dX0_ofDouble_18 jg6 ?_
        refine r_sipush hJ (v := nI 1023) dX0_ofDouble_20 (by decide) ?_
        refine r_icmp_ge hJ (tgt := 50) dX0_ofDouble_23 (by decide) (fun c23 => ?_) (fun c23 => ?_)
        · exact absurd c23 (nI_ge (by omega) (by omega))
        · refine r_dload_n hJ dX0_ofDouble_26 rfl jg2 ?_
          refine r_dconst1 hJ dX0_ofDouble_27 ?_
          refine r_dcmp hJ dX0_ofDouble_28 ?_
          refine r_if_ge hJ (tgt := 50) dX0_ofDouble_29 (by decide) (fun c29 => ?_) (fun c29 => ?_)
          · have c29 : ¬ dU r = true := fun q => absurd (of_decide_eq_true q) (Int32.not_lt.mpr c29)
            rw [dlU, if_neg c29] at he
            exact t50 _ _ _ rfl he
          · have c29 : dU r = true := decide_eq_true (Int32.not_le.mp c29)
            rw [dlU, if_pos c29] at he
            rw [dlUk, if_pos c29, Bool.and_eq_true] at hk
            refine r_dload_n hJ dX0_ofDouble_32 rfl jg2 ?_
            refine r_ldc2d hJ m456 dX0_ofDouble_33 ?_
            refine r_dmul hJ (nn_64 hk.1) dX0_ofDouble_36 ?_
            refine r_dstore_n hJ dX0_ofDouble_37 rfl (jq2 rfl rfl) ?_
            refine r_lload hJ dX0_ofDouble_38 jg4 ?_
            refine r_lconst hJ (v := 1) dX0_ofDouble_40 rfl ?_
            refine r_lsub hJ dX0_ofDouble_41 ?_
            refine r_lstore hJ dX0_ofDouble_42 (jq4 rfl rfl) ?_
            refine r_iinc hJ dX0_ofDouble_44 jg6 (ii1 _) (jp6 rfl rfl) ?_
            refine r_goto hJ (tgt := 18) dX0_ofDouble_47 (by decide) ?_
            exact ih (i + 1) _ _ (by omega) he hk.2
    exact loop1 1023 0 x 1023 rfl rfl k1
  · refine r_lconst hJ (v := 0) dX0_ofDouble_6 rfl ?_
    exact ret_l hF dX0_ofDouble_7 (by unfold ofD; rw [if_neg (show ¬ dP x = true from fun q => c3 (of_decide_eq_true q))]) rfl

theorem Ct.ofJ {l : Launch} {E : jE} {y : MethodName} {cc : ByteArray} {nL d : Nat} {ret : Option FieldType} {av : List Value} {G G' : jG} {r : Option Value} {L0 : List (Option Value)} (hy : plainFor y = true) (hn : G.2.2.2 ≤ G'.2.2.2) (hlen : (lg_sl av).length ≤ nL) (hL0 : lin nL av = L0)
    (body : ∀ J : jT, jR l E y.cls cc nL d G.2.2.2 (G'.2.2.2 - G.2.2.2) J → jF l E cc nL ret J r G' → J G 0 L0 []) : Ct l E y cc nL ret d av G r G' := by
  refine ⟨G'.2.2.2 - G.2.2.2, by omega, va_MetF (cc := cc) (maxL := nL) (ret := ret) hy rfl ?_⟩
  intro p e s m args below meth c s₁ B hml hv
  obtain ⟨rfl, hP, hB⟩ := hv
  have hx := B.exec
  have hb := B.bytes
  have hr := B.returns
  have hts0 := atoms_spec (ws := Cond.code y cc nL ret :: gw) B.pre
  have hts : ∀ w ∈ gw, w.before av.toArray s = true := fun w hw => hts0 w (List.mem_cons_of_mem _ hw)
  have hown : s.vm.findClass y.cls = some m.cls := findClass_of_methodNamed B.named
  have hlocks := B.notSynchronized
  rw [lg_entry_eq]
  have hS : va_S (jA E) s.heap s.heap [] := va_S.rf
  have K := body (jW p l e (rmd d (G'.2.2.2 - G.2.2.2)) s m av.toArray below meth c (MQ below (jQc E r G') av.toArray s (G'.2.2.2 - G.2.2.2) (6 * (G'.2.2.2 - G.2.2.2)) (jA E)) E nL G.2.2.2 (G'.2.2.2 - G.2.2.2) 0 0)
    ⟨p, e, rmd d (G'.2.2.2 - G.2.2.2), s, m, av.toArray, below, meth, c, _, 0, 0, rfl, ⟨hx, hb, hml, hown, hts⟩, Nat.le_refl _, Nat.le_refl _, by show 0 + (G'.2.2.2 - G.2.2.2) ≤ G'.2.2.2 - G.2.2.2; omega, by show 0 + 6 * (G'.2.2.2 - G.2.2.2) ≤ 6 * (G'.2.2.2 - G.2.2.2); omega, hB⟩
    (by
      refine ⟨fun pc L v hret hrr hdg h1 h2 H locs ls hP hS hl => ?_, fun pc L v hret hnv hrr hdg h1 h2 H locs ls hP hS hl => ?_, fun pc L v hret hrr hdg h1 h2 H locs ls hP hS hl => ?_, fun pc L v hret hrr hdg h1 h2 H locs ls hP hS hl => ?_, fun pc L hret hrr hdg h1 h2 H locs ls hP hS hl => ?_⟩
      all_goals subst hrr; rw [Nat.zero_add, Nat.zero_add]
      · exact W.iret (v := v) hx hb (by rw [hr, hret]) (fun t ht hW => ⟨⟨rfl, by rw [ht]; exact hP⟩, hS.F ht⟩) hS.2.2 hdg
      · exact W.zret (v := v) hx hb (by rw [hr, hret]) hnv (fun t ht hW => ⟨⟨rfl, by rw [ht]; exact hP⟩, hS.F ht⟩) hS.2.2 hdg
      · exact W.lret (v := v) hx hb (by rw [hr, hret]) (fun t ht hW => ⟨⟨rfl, by rw [ht]; exact hP⟩, hS.F ht⟩) hS.2.2 hdg
      · exact W.dret (v := v) hx hb (by rw [hr, hret]) (fun t ht hW => ⟨⟨rfl, by rw [ht]; exact hP⟩, hS.F ht⟩) hS.2.2 hdg
      · exact W.vret hx hb (by rw [hr, hret]) (fun t ht hW => ⟨⟨rfl, by rw [ht]; exact hP⟩, hS.F ht⟩) hS.2.2 hdg)
    (Nat.le_refl _) (by omega) s.heap [] _ hP hS (by rw [← hL0]; exact lh_in hlen)
  rw [Nat.sub_self, Nat.mul_zero] at K
  exact K
set_option maxRecDepth 100000 in
set_option maxHeartbeats 1000000 in
theorem cJ_nanfloat (l : Launch) (E : jE) (G : jG) (x : UInt32) (hx : FP.fcmp x x = some .eq) : Ct l E yJxf58ca_isNaN_12338 cJxf58ca_isNaN_12338 1 (some .boolean) 0 [.float x] G (some (.int (nI 0))) G := by
  refine Ct.ofJ (by decide +kernel) (Nat.le_refl _) (Nat.le_of_ble_eq_true rfl) rfl (fun J hJ hF => ?_)
  refine r_fload_n hJ dJxf58ca_isNaN_12338_0 rfl jg0 ?_
  refine r_fload_n hJ dJxf58ca_isNaN_12338_1 rfl jg0 ?_
  refine r_fcmp hJ dJxf58ca_isNaN_12338_2 ?_
  rw [hx]
  refine r_if_eq hJ (tgt := 10) dJxf58ca_isNaN_12338_3 (by decide) (fun c3 => ?_) (fun c3 => absurd rfl c3)
  refine r_iconst hJ (v := nI 0) dJxf58ca_isNaN_12338_10 (by decide) ?_
  exact ret_z hF dJxf58ca_isNaN_12338_11 (by decide) rfl rfl
set_option maxRecDepth 100000 in
set_option maxHeartbeats 1000000 in
theorem cJ_bitsfloat (l : Launch) (E : jE) (S : jS) (y : jX) (x : UInt32) (hx : FP.fcmp x x = some .eq) : Ct l E yJxf58ca_floatToIntBits_5c35a cJxf58ca_floatToIntBits_5c35a 1 (some .int) 1 [.float x] (S, y) (some (.int x.toInt32)) (S, y) := by
  refine Ct.ofJ (by decide +kernel) (Nat.le_refl _) (Nat.le_of_ble_eq_true rfl) rfl (fun J hJ hF => ?_)
  refine r_fload_n hJ dJxf58ca_floatToIntBits_5c35a_0 rfl jg0 ?_
  refine r_S1o hJ knF (cJ_nanfloat l E (S, y) x hx) dJxf58ca_floatToIntBits_5c35a_1 ⟨by decide, by decide⟩ (Nat.le_of_ble_eq_true rfl) ?_
  refine r_if_ne hJ (tgt := 12) dJxf58ca_floatToIntBits_5c35a_4 (by decide) (fun c4 => absurd rfl c4) (fun c4 => ?_)
  refine r_fload_n hJ dJxf58ca_floatToIntBits_5c35a_7 rfl jg0 ?_
  refine r_rawF hJ m1085 m1087 m1086 m78 dJxf58ca_floatToIntBits_5c35a_8 (by decide) (Nat.le_of_ble_eq_true rfl) ?_
  exact ret_i hF dJxf58ca_floatToIntBits_5c35a_11 rfl rfl
set_option maxRecDepth 100000 in
set_option maxHeartbeats 1000000 in
theorem cJ_nandouble (l : Launch) (E : jE) (G : jG) (x : UInt64) (hx : FP.dcmp x x = some .eq) : Ct l E yJxe99ae_isNaN_b9ae7 cJxe99ae_isNaN_b9ae7 2 (some .boolean) 0 [.double x] G (some (.int (nI 0))) G := by
  refine Ct.ofJ (by decide +kernel) (Nat.le_refl _) (Nat.le_of_ble_eq_true rfl) rfl (fun J hJ hF => ?_)
  refine r_dload_n hJ dJxe99ae_isNaN_b9ae7_0 rfl jg0 ?_
  refine r_dload_n hJ dJxe99ae_isNaN_b9ae7_1 rfl jg0 ?_
  refine r_dcmp hJ dJxe99ae_isNaN_b9ae7_2 ?_
  rw [hx]
  refine r_if_eq hJ (tgt := 10) dJxe99ae_isNaN_b9ae7_3 (by decide) (fun c3 => ?_) (fun c3 => absurd rfl c3)
  refine r_iconst hJ (v := nI 0) dJxe99ae_isNaN_b9ae7_10 (by decide) ?_
  exact ret_z hF dJxe99ae_isNaN_b9ae7_11 (by decide) rfl rfl
set_option maxRecDepth 100000 in
set_option maxHeartbeats 1000000 in
theorem cJ_bitsdouble (l : Launch) (E : jE) (S : jS) (y : jX) (x : UInt64) (hx : FP.dcmp x x = some .eq) : Ct l E yJxe99ae_doubleToLongBits_ccdee cJxe99ae_doubleToLongBits_ccdee 2 (some .long) 1 [.double x] (S, y) (some (.long x.toInt64)) (S, y) := by
  refine Ct.ofJ (by decide +kernel) (Nat.le_refl _) (Nat.le_of_ble_eq_true rfl) rfl (fun J hJ hF => ?_)
  refine r_dload_n hJ dJxe99ae_doubleToLongBits_ccdee_0 rfl jg0 ?_
  refine r_S1o hJ knD (cJ_nandouble l E (S, y) x hx) dJxe99ae_doubleToLongBits_ccdee_1 ⟨by decide, by decide⟩ (Nat.le_of_ble_eq_true rfl) ?_
  refine r_if_ne hJ (tgt := 12) dJxe99ae_doubleToLongBits_ccdee_4 (by decide) (fun c4 => absurd rfl c4) (fun c4 => ?_)
  refine r_dload_n hJ dJxe99ae_doubleToLongBits_ccdee_7 rfl jg0 ?_
  refine r_rawD hJ m1112 m1114 m1113 m79 dJxe99ae_doubleToLongBits_ccdee_8 (by decide) (Nat.le_of_ble_eq_true rfl) ?_
  exact ret_l hF dJxe99ae_doubleToLongBits_ccdee_11 rfl rfl