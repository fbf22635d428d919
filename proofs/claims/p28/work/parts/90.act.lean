/-! THE LAW'S act -/
theorem act_pre {l : Launch} {E : jE} {n0 cap : Nat} {J : jT} (hJ : jR l E RL cL_act 7 10 n0 cap J) {S : jS} {x : jX} {k z a h m nn r : Nat} {v0 v1 v2 v3 : Int32} (hm : m = if z < 9 then z else 9) (hz6 : z ≤ 64)
    (cs : Ct l E yX4_setting cX4_setting 2 (some .int) 7 [.ref (ad E 11 0), .int (nI 3)] (S, x) (some (.int (nI z))) (S, x)) (c0 : Ct l E yL_cell cL_cell 2 (some .int) 1 [.ref (sB E), .int (nI k)] (S, x) (some (.int v0)) (S, x)) (c1 : Ct l E yL_cell cL_cell 2 (some .int) 1 [.ref (sB E), .int (nI (k + 1))] (S, x) (some (.int v1)) (S, x)) (c2 : Ct l E yL_cell cL_cell 2 (some .int) 1 [.ref (sB E), .int (nI (k + 2))] (S, x) (some (.int v2)) (S, x)) (c3 : Ct l E yL_cell cL_cell 2 (some .int) 1 [.ref (sB E), .int (nI (k + 3))] (S, x) (some (.int v3)) (S, x)) (l1 : Ct l E yL_low cL_low 2 (some .int) 1 [.int v1, .int (nI 4)] (S, x) (some (.int (nI h))) (S, x)) (l2 : Ct l E yL_low cL_low 2 (some .int) 1 [.int v2, .int (nI m)] (S, x) (some (.int (nI nn))) (S, x)) (l3 : Ct l E yL_low cL_low 2 (some .int) 1 [.int v3, .int (nI 12)] (S, x) (some (.int (nI r))) (S, x)) (l0 : Ct l E yL_low cL_low 2 (some .int) 1 [.int v0, .int (nI 9)] (S, x) (some (.int (nI a))) (S, x))
    (kk : J (S, x) 69 [some (.ref (ad E 11 0)), some (.ref (sB E)), some (.int (nI k)), some (.int (nI z)), some (.int (nI h)), some (.int (nI nn)), some (.int (nI (1 + r)))] [.int (nI a)]) : J (S, x) 0 [some (.ref (ad E 11 0)), some (.ref (sB E)), some (.int (nI k)), none, none, none, none] [] := by
  have tail : J (S, x) 38 [some (.ref (ad E 11 0)), some (.ref (sB E)), some (.int (nI k)), some (.int (nI z)), some (.int (nI h)), none, none] [.int (nI m), .int v2] := by
    refine r_S2v hJ kL_47 (l2) dL_act_38 ⟨by decide, by decide⟩ (Nat.le_of_ble_eq_true rfl) ?_
    refine r_istore hJ dL_act_41 (jp5 rfl rfl) ?_
    refine r_iconst hJ (v := nI 1) dL_act_43 (by decide) ?_
    refine r_aload_n hJ dL_act_44 rfl jg1 ?_
    refine r_iload_n hJ dL_act_45 rfl jg2 ?_
    refine r_iconst hJ (v := nI 3) dL_act_46 (by decide) ?_
    refine r_iaddN hJ dL_act_47 ?_
    refine r_S2v hJ kL_41 (c3) dL_act_48 ⟨by decide, by decide⟩ (Nat.le_of_ble_eq_true rfl) ?_
    refine r_bipush hJ (v := nI 12) dL_act_51 (by decide) ?_
    refine r_S2v hJ kL_47 (l3) dL_act_53 ⟨by decide, by decide⟩ (Nat.le_of_ble_eq_true rfl) ?_
    refine r_iaddN hJ dL_act_56 ?_
    refine r_istore hJ dL_act_57 (jp6 rfl rfl) ?_
    refine r_aload_n hJ dL_act_59 rfl jg1 ?_
    refine r_iload_n hJ dL_act_60 rfl jg2 ?_
    refine r_S2v hJ kL_41 (c0) dL_act_61 ⟨by decide, by decide⟩ (Nat.le_of_ble_eq_true rfl) ?_
    refine r_bipush hJ (v := nI 9) dL_act_64 (by decide) ?_
    refine r_S2v hJ kL_47 (l0) dL_act_66 ⟨by decide, by decide⟩ (Nat.le_of_ble_eq_true rfl) ?_
    exact kk
  refine r_aload_n hJ dL_act_0 rfl jg0 ?_
  refine r_iconst hJ (v := nI 3) dL_act_1 (by decide) ?_
  refine r_V1v hJ kL_37 (rcv4 E) (cs) dL_act_2 ⟨by decide, by decide⟩ (Nat.le_of_ble_eq_true rfl) ?_
  refine r_istore_n hJ dL_act_5 rfl (jp3 rfl rfl) ?_
  refine r_aload_n hJ dL_act_6 rfl jg1 ?_
  refine r_iload_n hJ dL_act_7 rfl jg2 ?_
  refine r_iconst hJ (v := nI 1) dL_act_8 (by decide) ?_
  refine r_iaddN hJ dL_act_9 ?_
  refine r_S2v hJ kL_41 (c1) dL_act_10 ⟨by decide, by decide⟩ (Nat.le_of_ble_eq_true rfl) ?_
  refine r_iconst hJ (v := nI 4) dL_act_13 (by decide) ?_
  refine r_S2v hJ kL_47 (l1) dL_act_14 ⟨by decide, by decide⟩ (Nat.le_of_ble_eq_true rfl) ?_
  refine r_istore hJ dL_act_17 (jp4 rfl rfl) ?_
  refine r_aload_n hJ dL_act_19 rfl jg1 ?_
  refine r_iload_n hJ dL_act_20 rfl jg2 ?_
  refine r_iconst hJ (v := nI 2) dL_act_21 (by decide) ?_
  refine r_iaddN hJ dL_act_22 ?_
  refine r_S2v hJ kL_41 (c2) dL_act_23 ⟨by decide, by decide⟩ (Nat.le_of_ble_eq_true rfl) ?_
  refine r_iload_n hJ dL_act_26 rfl jg3 ?_
  refine r_bipush hJ (v := nI 9) dL_act_27 (by decide) ?_
  refine r_icmp_ge hJ (tgt := 36) dL_act_29 (by decide) (fun c29 => ?_) (fun c29 => ?_)
  · have e : m = 9 := by
      rw [nI_leI (by decide) (by omega)] at c29
      rw [hm, if_neg (by omega)]
    rw [e] at tail
    refine r_bipush hJ (v := nI 9) dL_act_36 (by decide) ?_
    exact tail
  · have e : m = z := by
      rw [nI_leI (by decide) (by omega)] at c29
      rw [hm, if_pos (by omega)]
    rw [e] at tail
    refine r_iload_n hJ dL_act_32 rfl jg3 ?_
    refine r_goto hJ (tgt := 38) dL_act_33 (by decide) ?_
    exact tail
theorem c_act {l : Launch} {E : jE} {S : jS} {K : Nat → Nat} {o : Int64} {n i : Nat} (hst : l.stackTraces = false) (hi : i < 60) (hI : INV S K i) {k : Nat} (hk : k < 2 ^ 20) :
    ∃ v S' K' n', Done S K n i v S' K' n' ∧ Ct l E yL_act cL_act 7 (some .int) 10 [.ref (ad E 11 0), .ref (sB E), .int (nI k)] (S, (K, (o, n))) (some (.int v)) (S', (K', (o, n'))) := by
  obtain ⟨z, t, ht, hX⟩ := id hI.1
  obtain ⟨hz, hz4, hz6⟩ := hX.2.1.2.1
  have cs := c4_setting l E S K (o, n) (q := 3) (by decide)
  rw [hz] at cs
  obtain ⟨v0, c0⟩ := c_cell l E (S, (K, (o, n))) (k := k) (by omega)
  obtain ⟨v1, c1⟩ := c_cell l E (S, (K, (o, n))) (k := k + 1) (by omega)
  obtain ⟨v2, c2⟩ := c_cell l E (S, (K, (o, n))) (k := k + 2) (by omega)
  obtain ⟨v3, c3⟩ := c_cell l E (S, (K, (o, n))) (k := k + 3) (by omega)
  obtain ⟨h, hh, l1⟩ := c_low l E (S, (K, (o, n))) v1 (n := 4) (by decide) (by decide)
  obtain ⟨nn, hnn, l2⟩ := c_low l E (S, (K, (o, n))) v2 (n := if z < 9 then z else 9) (by split <;> omega) (by split <;> omega)
  have hn9 : nn < z ∧ nn < 9 := by
    split at hnn <;> omega
  obtain ⟨hnz, hn8⟩ := hn9
  obtain ⟨r, hr, l3⟩ := c_low l E (S, (K, (o, n))) v3 (n := 12) (by decide) (by decide)
  obtain ⟨a, ha, l0⟩ := c_low l E (S, (K, (o, n))) v0 (n := 9) (by decide) (by decide)
  clear hX ht
  rcases (by omega : a = 0 ∨ a = 1 ∨ a = 2 ∨ a = 3 ∨ a = 4 ∨ a = 5 ∨ a = 6 ∨ a = 7 ∨ a = 8) with q | q | q | q | q | q | q | q | q <;> subst q
  · obtain ⟨v, S', K', n', hD, -, ct⟩ := o_take (E := E) (o := o) (n := n) hst hi hI (h := h) (u := 1 + r) (by omega) (by omega) (by omega) hz hz6
    refine ⟨v, S', K', n', hD, Ct.of (by decide +kernel) hD.1 (Nat.le_of_ble_eq_true rfl) rfl (fun J hJ hF => ?_)⟩
    have hcap : n' ≤ n + (n' - n) := by
      have := hD.1
      omega
    refine act_pre hJ rfl hz6 cs c0 c1 c2 c3 l1 l2 l3 l0 ?_
    refine r_tableIn hJ (off := 47) (tgt := 116) dL_act_69 (by decide) (by decide) (by decide +kernel) (by decide) ?_
    refine r_aload_n hJ dL_act_116 rfl jg0 ?_
    refine r_iload hJ dL_act_117 jg4 ?_
    refine r_iload hJ dL_act_119 jg6 ?_
    refine r_H3 hJ kLH_50 ct dL_act_121 ⟨by decide, by decide⟩ (Nat.le_of_ble_eq_true rfl) (fun _ => hcap) ?_
    exact hF.1 _ _ _ rfl rfl dL_act_124
  · obtain ⟨v, S', K', n', hD, -, ct⟩ := o_take (E := E) (o := o) (n := n) hst hi hI (h := h) (u := 1 + r) (by omega) (by omega) (by omega) hz hz6
    refine ⟨v, S', K', n', hD, Ct.of (by decide +kernel) hD.1 (Nat.le_of_ble_eq_true rfl) rfl (fun J hJ hF => ?_)⟩
    have hcap : n' ≤ n + (n' - n) := by
      have := hD.1
      omega
    refine act_pre hJ rfl hz6 cs c0 c1 c2 c3 l1 l2 l3 l0 ?_
    refine r_tableIn hJ (off := 47) (tgt := 116) dL_act_69 (by decide) (by decide) (by decide +kernel) (by decide) ?_
    refine r_aload_n hJ dL_act_116 rfl jg0 ?_
    refine r_iload hJ dL_act_117 jg4 ?_
    refine r_iload hJ dL_act_119 jg6 ?_
    refine r_H3 hJ kLH_50 ct dL_act_121 ⟨by decide, by decide⟩ (Nat.le_of_ble_eq_true rfl) (fun _ => hcap) ?_
    exact hF.1 _ _ _ rfl rfl dL_act_124
  · obtain ⟨v, S', K', n', hD, ct⟩ := o_span (E := E) (o := o) (n := n) hst hi hI (h := h) (m := 1 + nn) (u := 1 + r) (by omega) (by omega) (by omega) (by omega) (by omega) hz hz6
    refine ⟨v, S', K', n', hD, Ct.of (by decide +kernel) hD.1 (Nat.le_of_ble_eq_true rfl) rfl (fun J hJ hF => ?_)⟩
    have hcap : n' ≤ n + (n' - n) := by
      have := hD.1
      omega
    refine act_pre hJ rfl hz6 cs c0 c1 c2 c3 l1 l2 l3 l0 ?_
    refine r_tableIn hJ (off := 56) (tgt := 125) dL_act_69 (by decide) (by decide) (by decide +kernel) (by decide) ?_
    refine r_aload_n hJ dL_act_125 rfl jg0 ?_
    refine r_iload hJ dL_act_126 jg4 ?_
    refine r_iconst hJ (v := nI 1) dL_act_128 (by decide) ?_
    refine r_iload hJ dL_act_129 jg5 ?_
    refine r_iaddN hJ dL_act_131 ?_
    refine r_iload hJ dL_act_132 jg6 ?_
    refine r_H4 hJ kLH_53 ct dL_act_134 ⟨by decide, by decide⟩ (Nat.le_of_ble_eq_true rfl) (fun _ => hcap) ?_
    exact hF.1 _ _ _ rfl rfl dL_act_137
  · obtain ⟨v, S', K', n', hD, ct⟩ := o_wish (E := E) (o := o) (n := n) hst hi hI (h := h) (a := nn) (u := 1 + r) (by omega) (by omega) (by omega) hz hz6 (by omega)
    refine ⟨v, S', K', n', hD, Ct.of (by decide +kernel) hD.1 (Nat.le_of_ble_eq_true rfl) rfl (fun J hJ hF => ?_)⟩
    have hcap : n' ≤ n + (n' - n) := by
      have := hD.1
      omega
    refine act_pre hJ rfl hz6 cs c0 c1 c2 c3 l1 l2 l3 l0 ?_
    refine r_tableIn hJ (off := 69) (tgt := 138) dL_act_69 (by decide) (by decide) (by decide +kernel) (by decide) ?_
    refine r_aload_n hJ dL_act_138 rfl jg0 ?_
    refine r_iload hJ dL_act_139 jg4 ?_
    refine r_iload hJ dL_act_141 jg5 ?_
    refine r_iload hJ dL_act_143 jg6 ?_
    refine r_H4 hJ kLH_57 ct dL_act_145 ⟨by decide, by decide⟩ (Nat.le_of_ble_eq_true rfl) (fun _ => hcap) ?_
    exact hF.1 _ _ _ rfl rfl dL_act_148
  · obtain ⟨v, S', K', n', hD, ct⟩ := o_wish (E := E) (o := o) (n := n) hst hi hI (h := h) (a := nn) (u := 1 + r) (by omega) (by omega) (by omega) hz hz6 (by omega)
    refine ⟨v, S', K', n', hD, Ct.of (by decide +kernel) hD.1 (Nat.le_of_ble_eq_true rfl) rfl (fun J hJ hF => ?_)⟩
    have hcap : n' ≤ n + (n' - n) := by
      have := hD.1
      omega
    refine act_pre hJ rfl hz6 cs c0 c1 c2 c3 l1 l2 l3 l0 ?_
    refine r_tableIn hJ (off := 69) (tgt := 138) dL_act_69 (by decide) (by decide) (by decide +kernel) (by decide) ?_
    refine r_aload_n hJ dL_act_138 rfl jg0 ?_
    refine r_iload hJ dL_act_139 jg4 ?_
    refine r_iload hJ dL_act_141 jg5 ?_
    refine r_iload hJ dL_act_143 jg6 ?_
    refine r_H4 hJ kLH_57 ct dL_act_145 ⟨by decide, by decide⟩ (Nat.le_of_ble_eq_true rfl) (fun _ => hcap) ?_
    exact hF.1 _ _ _ rfl rfl dL_act_148
  · obtain ⟨v, S', K', n', hD, ct⟩ := o_renew (E := E) (o := o) (n := n) hst hi hI (h := h) (a := nn) (u := 1 + r) (by omega) (by omega) (by omega) hz hz6 (by omega)
    refine ⟨v, S', K', n', hD, Ct.of (by decide +kernel) hD.1 (Nat.le_of_ble_eq_true rfl) rfl (fun J hJ hF => ?_)⟩
    have hcap : n' ≤ n + (n' - n) := by
      have := hD.1
      omega
    refine act_pre hJ rfl hz6 cs c0 c1 c2 c3 l1 l2 l3 l0 ?_
    refine r_tableIn hJ (off := 80) (tgt := 149) dL_act_69 (by decide) (by decide) (by decide +kernel) (by decide) ?_
    refine r_aload_n hJ dL_act_149 rfl jg0 ?_
    refine r_iload hJ dL_act_150 jg4 ?_
    refine r_iload hJ dL_act_152 jg5 ?_
    refine r_iload hJ dL_act_154 jg6 ?_
    refine r_H4 hJ kLH_59 ct dL_act_156 ⟨by decide, by decide⟩ (Nat.le_of_ble_eq_true rfl) (fun _ => hcap) ?_
    exact hF.1 _ _ _ rfl rfl dL_act_159
  · obtain ⟨r2, hr2, l6⟩ := c_low l E (S, (K, (o, n))) v3 (n := z - nn) (by omega) (by omega)
    obtain ⟨v, S', K', hD, ct⟩ := o_back (E := E) (o := o) (n := n) hi hI (h := h) (a := nn) (b := nn + r2) (by omega) hz hz6 (by omega) (by omega)
    refine ⟨v, S', K', n, hD, Ct.of (by decide +kernel) hD.1 (Nat.le_of_ble_eq_true rfl) rfl (fun J hJ hF => ?_)⟩
    refine act_pre hJ rfl hz6 cs c0 c1 c2 c3 l1 l2 l3 l0 ?_
    refine r_tableIn hJ (off := 91) (tgt := 160) dL_act_69 (by decide) (by decide) (by decide +kernel) (by decide) ?_
    refine r_aload_n hJ dL_act_160 rfl jg0 ?_
    refine r_iload hJ dL_act_161 jg4 ?_
    refine r_iload hJ dL_act_163 jg5 ?_
    refine r_iload hJ dL_act_165 jg5 ?_
    refine r_aload_n hJ dL_act_167 rfl jg1 ?_
    refine r_iload_n hJ dL_act_168 rfl jg2 ?_
    refine r_iconst hJ (v := nI 3) dL_act_169 (by decide) ?_
    refine r_iaddN hJ dL_act_170 ?_
    refine r_S2v hJ kL_41 (c3) dL_act_171 ⟨by decide, by decide⟩ (Nat.le_of_ble_eq_true rfl) ?_
    refine r_iload_n hJ dL_act_174 rfl jg3 ?_
    refine r_iload hJ dL_act_175 jg5 ?_
    refine r_isub hJ dL_act_177 ?_
    rw [pk_sub (by omega)]
    refine r_S2v hJ kL_47 (l6) dL_act_178 ⟨by decide, by decide⟩ (Nat.le_of_ble_eq_true rfl) ?_
    refine r_iaddN hJ dL_act_181 ?_
    refine r_V3vx hJ (x' := (K', (o, n))) rfl kL_61 (rcv4 E) (ct) dL_act_182 ⟨by decide, by decide⟩ (Nat.le_of_ble_eq_true rfl) ?_
    exact hF.1 _ _ _ rfl rfl dL_act_185
  · obtain ⟨v, S', K', n', hD, ct⟩ := o_unwish (E := E) (o := o) (n := n) hst hI (h := h) (a := nn) (by omega) hz hz6 (by omega)
    refine ⟨v, S', K', n', hD, Ct.of (by decide +kernel) hD.1 (Nat.le_of_ble_eq_true rfl) rfl (fun J hJ hF => ?_)⟩
    have hcap : n' ≤ n + (n' - n) := by
      have := hD.1
      omega
    refine act_pre hJ rfl hz6 cs c0 c1 c2 c3 l1 l2 l3 l0 ?_
    refine r_tableIn hJ (off := 117) (tgt := 186) dL_act_69 (by decide) (by decide) (by decide +kernel) (by decide) ?_
    refine r_aload_n hJ dL_act_186 rfl jg0 ?_
    refine r_iload hJ dL_act_187 jg4 ?_
    refine r_iload hJ dL_act_189 jg5 ?_
    refine r_H3 hJ kLH_64 ct dL_act_191 ⟨by decide, by decide⟩ (Nat.le_of_ble_eq_true rfl) (fun _ => hcap) ?_
    exact hF.1 _ _ _ rfl rfl dL_act_194
  · obtain ⟨v, S', K', hD, ct⟩ := o_pass (E := E) (o := o) (n := n) hi hI (b := 1 + r) (by omega) (by omega)
    refine ⟨v, S', K', n, hD, Ct.of (by decide +kernel) hD.1 (Nat.le_of_ble_eq_true rfl) rfl (fun J hJ hF => ?_)⟩
    refine act_pre hJ rfl hz6 cs c0 c1 c2 c3 l1 l2 l3 l0 ?_
    refine r_tableOut hJ (tgt := 195) dL_act_69 (Or.inr (by decide)) (by decide) ?_
    refine r_aload_n hJ dL_act_195 rfl jg0 ?_
    refine r_iload hJ dL_act_196 jg6 ?_
    refine r_V1vx hJ (x' := (K', (o, n))) rfl kL_66 (rcv4 E) (ct) dL_act_198 ⟨by decide, by decide⟩ (Nat.le_of_ble_eq_true rfl) ?_
    exact hF.1 _ _ _ rfl rfl dL_act_201

