def dwn (f : Nat → Int32 → Int32) : Nat → Int32 → Int32
  | 0, v => v
  | n + 1, v => dwn f n (f n v)
def hA (r : Nat → Int32) (h : Int32) (n : Nat) (v : Int32) : Int32 := v + (if r ((32 + 12 * n)) = h ∧ mStg r n = nI 1 then nI 1 else nI 0)
def hB (r : Nat → Int32) (h : Int32) (n : Nat) (v : Int32) : Int32 := v + (if r ((32 + 12 * n)) = h ∧ mStg r n = nI 2 then nI 1 else nI 0)
def hC (r : Nat → Int32) (h : Int32) (n : Nat) (v : Int32) : Int32 := v + (if (mWish r n h (toN (r ((32 + 12 * n) + 5)))).isSome = true then nI 1 else nI 0)
def hD (r : Nat → Int32) (h : Int32) (n : Nat) (v : Int32) : Int32 := if r ((32 + 12 * n)) = h then nI n else v
def hE (r : Nat → Int32) (h : Int32) (n : Nat) (v : Int32) : Int32 := if r ((32 + 12 * n)) = h ∧ mStg r n = nI 1 ∧ (v = -1 ∨ r ((32 + 12 * n) + 2) < v) then r ((32 + 12 * n) + 2) else v
def mHol (r : Nat → Int32) (z h : Nat) : Nat → Int32
  | 0 => dwn (hA r (nI h)) z (nI 0)
  | 1 => dwn (hB r (nI h)) z (nI 0)
  | 2 => dwn (hC r (nI h)) z (nI 0)
  | 3 => dwn (hD r (nI h)) z (-1)
  | 4 => dwn (hE r (nI h)) z (-1)
  | 5 => r (8 + h)
  | 6 => r (16 + h)
  | _ => r (24 + h)
theorem dec_at (n : Nat) : nI (n + 1) + Int32.ofInt (-1) = nI n := by
  rw [← nI_1]
  show nI n + 1 + -1 = nI n
  rw [Int32.add_assoc]
  exact Int32.add_zero _
theorem dec_0 (n : Nat) : nI n - nI 1 = nI n + Int32.ofInt (-1) := by
  show nI n - 1 = nI n + -1
  rw [Int32.sub_eq_add_neg]
theorem le07 {q : Nat} (h : q ≤ 7) : q = 0 ∨ q = 1 ∨ q = 2 ∨ q = 3 ∨ q = 4 ∨ q = 5 ∨ q = 6 ∨ q = 7 := by omega
theorem le4 {q : Nat} (h : q ≤ 4) : q = 0 ∨ q = 1 ∨ q = 2 ∨ q = 3 ∨ q = 4 := by omega
set_option maxRecDepth 100000 in
set_option maxHeartbeats 1000000 in
theorem c5_ofHolder (l : Launch) (E : jE) (S : jS) (x : jX) (T : jO) {z : Nat} (hM : MI (T 1) z) {h q : Nat} (hh : h < 8) (hq : q ≤ 7) : Ct l E yX5_ofHolder cX5_ofHolder 11 (some .int) 4 [.ref (ad E 10 0), .int (nI h), .int (nI q)] (setO S 10 T, x) (some (.int (mHol (T 1) z h q))) (setO S 10 T, x) := by
  refine Ct.of (by decide +kernel) (Nat.le_refl _) (Nat.le_of_ble_eq_true rfl) rfl (fun J hJ hF => ?_)
  have hz := hM.1.1
  have hz6 := hM.1.2.2
  have hz4 := hM.1.2.1
  by_cases hq4 : q ≤ 4
  · obtain ⟨fa, hfa⟩ : ∃ v, dwn (hA (T 1) (nI h)) z (nI 0) = v := ⟨_, rfl⟩
    obtain ⟨fb, hfb⟩ : ∃ v, dwn (hB (T 1) (nI h)) z (nI 0) = v := ⟨_, rfl⟩
    obtain ⟨fc, hfc⟩ : ∃ v, dwn (hC (T 1) (nI h)) z (nI 0) = v := ⟨_, rfl⟩
    obtain ⟨fd, hfd⟩ : ∃ v, dwn (hD (T 1) (nI h)) z (-1) = v := ⟨_, rfl⟩
    obtain ⟨fe, hfe⟩ : ∃ v, dwn (hE (T 1) (nI h)) z (-1) = v := ⟨_, rfl⟩
    have loop : ∀ (i : Nat) (a b c d e : Int32) (v9 v10 : Option Value), i ≤ z → nc2 v9 = true → nc2 v10 = true → dwn (hA (T 1) (nI h)) i a = fa → dwn (hB (T 1) (nI h)) i b = fb → dwn (hC (T 1) (nI h)) i c = fc → dwn (hD (T 1) (nI h)) i d = fd → dwn (hE (T 1) (nI h)) i e = fe → J (setO S 10 T, x) 64 [some (.ref (ad E 10 0)), some (.int (nI h)), some (.int (nI q)), some (.int a), some (.int b), some (.int c), some (.int d), some (.int e), some (.int (nI i + Int32.ofInt (-1))), v9, v10] [] := by
      intro i
      induction i with
      | zero =>
        intro a b c d e v9 v10 hiz h9 h10 ha hb hc hd he
        refine r_iload hJ dX5_ofHolder_64 jg8 ?_
        refine r_if_lt hJ (tgt := 238) dX5_ofHolder_66 (by decide) (fun c66 => ?_) (fun c66 => ?_)
        · obtain rfl : a = fa := ha
          obtain rfl : b = fb := hb
          obtain rfl : c = fc := hc
          obtain rfl : d = fd := hd
          obtain rfl : e = fe := he
          rcases le4 hq4 with rfl | rfl | rfl | rfl | rfl
          · refine r_iload_n hJ dX5_ofHolder_238 rfl jg2 ?_
            refine r_if_ne hJ (tgt := 246) dX5_ofHolder_239 (by decide) (fun c239 => ?_) (fun c239 => ?_)
            · exact absurd rfl c239
            · refine r_iload_n hJ dX5_ofHolder_242 rfl jg3 ?_
              refine r_goto hJ (tgt := 278) dX5_ofHolder_243 (by decide) ?_
              exact ret_i hF dX5_ofHolder_278 (congrArg (fun v => some (Value.int v)) hfa) rfl
          · refine r_iload_n hJ dX5_ofHolder_238 rfl jg2 ?_
            refine r_if_ne hJ (tgt := 246) dX5_ofHolder_239 (by decide) (fun c239 => ?_) (fun c239 => ?_)
            · refine r_iload_n hJ dX5_ofHolder_246 rfl jg2 ?_
              refine r_iconst hJ (v := nI 1) dX5_ofHolder_247 (by decide) ?_
              refine r_icmp_ne hJ (tgt := 256) dX5_ofHolder_248 (by decide) (fun c248 => ?_) (fun c248 => ?_)
              · exact absurd rfl c248
              · refine r_iload hJ dX5_ofHolder_251 jg4 ?_
                refine r_goto hJ (tgt := 278) dX5_ofHolder_253 (by decide) ?_
                exact ret_i hF dX5_ofHolder_278 (congrArg (fun v => some (Value.int v)) hfb) rfl
            · exact absurd c239 (by decide)
          · refine r_iload_n hJ dX5_ofHolder_238 rfl jg2 ?_
            refine r_if_ne hJ (tgt := 246) dX5_ofHolder_239 (by decide) (fun c239 => ?_) (fun c239 => ?_)
            · refine r_iload_n hJ dX5_ofHolder_246 rfl jg2 ?_
              refine r_iconst hJ (v := nI 1) dX5_ofHolder_247 (by decide) ?_
              refine r_icmp_ne hJ (tgt := 256) dX5_ofHolder_248 (by decide) (fun c248 => ?_) (fun c248 => ?_)
              · refine r_iload_n hJ dX5_ofHolder_256 rfl jg2 ?_
                refine r_iconst hJ (v := nI 2) dX5_ofHolder_257 (by decide) ?_
                refine r_icmp_ne hJ (tgt := 266) dX5_ofHolder_258 (by decide) (fun c258 => ?_) (fun c258 => ?_)
                · exact absurd rfl c258
                · refine r_iload hJ dX5_ofHolder_261 jg5 ?_
                  refine r_goto hJ (tgt := 278) dX5_ofHolder_263 (by decide) ?_
                  exact ret_i hF dX5_ofHolder_278 (congrArg (fun v => some (Value.int v)) hfc) rfl
              · exact absurd c248 (by decide)
            · exact absurd c239 (by decide)
          · refine r_iload_n hJ dX5_ofHolder_238 rfl jg2 ?_
            refine r_if_ne hJ (tgt := 246) dX5_ofHolder_239 (by decide) (fun c239 => ?_) (fun c239 => ?_)
            · refine r_iload_n hJ dX5_ofHolder_246 rfl jg2 ?_
              refine r_iconst hJ (v := nI 1) dX5_ofHolder_247 (by decide) ?_
              refine r_icmp_ne hJ (tgt := 256) dX5_ofHolder_248 (by decide) (fun c248 => ?_) (fun c248 => ?_)
              · refine r_iload_n hJ dX5_ofHolder_256 rfl jg2 ?_
                refine r_iconst hJ (v := nI 2) dX5_ofHolder_257 (by decide) ?_
                refine r_icmp_ne hJ (tgt := 266) dX5_ofHolder_258 (by decide) (fun c258 => ?_) (fun c258 => ?_)
                · refine r_iload_n hJ dX5_ofHolder_266 rfl jg2 ?_
                  refine r_iconst hJ (v := nI 3) dX5_ofHolder_267 (by decide) ?_
                  refine r_icmp_ne hJ (tgt := 276) dX5_ofHolder_268 (by decide) (fun c268 => ?_) (fun c268 => ?_)
                  · exact absurd rfl c268
                  · refine r_iload hJ dX5_ofHolder_271 jg6 ?_
                    refine r_goto hJ (tgt := 278) dX5_ofHolder_273 (by decide) ?_
                    exact ret_i hF dX5_ofHolder_278 (congrArg (fun v => some (Value.int v)) hfd) rfl
                · exact absurd c258 (by decide)
              · exact absurd c248 (by decide)
            · exact absurd c239 (by decide)
          · refine r_iload_n hJ dX5_ofHolder_238 rfl jg2 ?_
            refine r_if_ne hJ (tgt := 246) dX5_ofHolder_239 (by decide) (fun c239 => ?_) (fun c239 => ?_)
            · refine r_iload_n hJ dX5_ofHolder_246 rfl jg2 ?_
              refine r_iconst hJ (v := nI 1) dX5_ofHolder_247 (by decide) ?_
              refine r_icmp_ne hJ (tgt := 256) dX5_ofHolder_248 (by decide) (fun c248 => ?_) (fun c248 => ?_)
              · refine r_iload_n hJ dX5_ofHolder_256 rfl jg2 ?_
                refine r_iconst hJ (v := nI 2) dX5_ofHolder_257 (by decide) ?_
                refine r_icmp_ne hJ (tgt := 266) dX5_ofHolder_258 (by decide) (fun c258 => ?_) (fun c258 => ?_)
                · refine r_iload_n hJ dX5_ofHolder_266 rfl jg2 ?_
                  refine r_iconst hJ (v := nI 3) dX5_ofHolder_267 (by decide) ?_
                  refine r_icmp_ne hJ (tgt := 276) dX5_ofHolder_268 (by decide) (fun c268 => ?_) (fun c268 => ?_)
                  · refine r_iload hJ dX5_ofHolder_276 jg7 ?_
                    exact ret_i hF dX5_ofHolder_278 (congrArg (fun v => some (Value.int v)) hfe) rfl
                  · exact absurd c268 (by decide)
                · exact absurd c258 (by decide)
              · exact absurd c248 (by decide)
            · exact absurd c239 (by decide)
        · exact absurd (by decide) c66
      | succ n ihn0 =>
        intro a b c d e v9 v10 hiz h9 h10 ha hb hc hd he
        have hn : n < 64 := by omega
        have ihn : (∀ (a b c d e : Int32) (v9 v10 : Option Value), nc2 v9 = true → nc2 v10 = true → dwn (hA (T 1) (nI h)) n a = fa → dwn (hB (T 1) (nI h)) n b = fb → dwn (hC (T 1) (nI h)) n c = fc → dwn (hD (T 1) (nI h)) n d = fd → dwn (hE (T 1) (nI h)) n e = fe → J (setO S 10 T, x) 64 [some (.ref (ad E 10 0)), some (.int (nI h)), some (.int (nI q)), some (.int a), some (.int b), some (.int c), some (.int d), some (.int e), some (.int (nI n + Int32.ofInt (-1))), v9, v10] []) := fun a b c d e v9 v10 => ihn0 a b c d e v9 v10 (by omega)
        rw [dec_at]
        rw [dwn] at ha hb hc hd he
        refine r_iload hJ dX5_ofHolder_64 jg8 ?_
        refine r_if_lt hJ (tgt := 238) dX5_ofHolder_66 (by decide) (fun c66 => ?_) (fun c66 => ?_)
        · exact absurd c66 (nI_pos (by omega))
        · refine r_aload_n hJ dX5_ofHolder_69 rfl jg0 ?_
          refine r_g5_0 hJ m791 dX5_ofHolder_70 ?_
          refine r_iload hJ dX5_ofHolder_73 jg8 ?_
          refine r_S1v hJ kX5_40 (c5_row l E _ x n) dX5_ofHolder_75 ⟨by decide, by decide⟩ (Nat.le_of_ble_eq_true rfl) ?_
          refine r_ialdO hJ (by omega) (alM1 (by omega)) rfl dX5_ofHolder_78 ?_
          refine r_iload_n hJ dX5_ofHolder_79 rfl jg1 ?_
          refine r_icmp_ne hJ (tgt := 87) dX5_ofHolder_80 (by decide) (fun c80 => ?_) (fun c80 => ?_)
          · refine r_iconst hJ (v := nI 0) dX5_ofHolder_87 (by decide) ?_
            have hw : ¬ T 1 ((32 + 12 * n)) = nI h := c80
            have t165_0 : ∀ (a b c d e : Int32), dwn (hA (T 1) (nI h)) n a = fa → dwn (hB (T 1) (nI h)) n b = fb → dwn (hC (T 1) (nI h)) n c = fc → dwn (hD (T 1) (nI h)) n (hD (T 1) (nI h) n d) = fd → dwn (hE (T 1) (nI h)) n (hE (T 1) (nI h) n e) = fe → J (setO S 10 T, x) 165 [some (.ref (ad E 10 0)), some (.int (nI h)), some (.int (nI q)), some (.int a), some (.int b), some (.int c), some (.int d), some (.int e), some (.int (nI n)), some (.int (nI 0)), some (.int (mStg (T 1) n))] [] := by
              intro a b c d e ha hb hc hd he
              refine r_iload hJ dX5_ofHolder_165 jg9 ?_
              refine r_if_eq hJ (tgt := 175) dX5_ofHolder_167 (by decide) (fun c167 => ?_) (fun c167 => ?_)
              · refine r_iload hJ dX5_ofHolder_175 jg6 ?_
                refine r_istore hJ dX5_ofHolder_177 (jp6 rfl rfl) ?_
                refine r_iload hJ dX5_ofHolder_179 jg9 ?_
                refine r_if_eq hJ (tgt := 228) dX5_ofHolder_181 (by decide) (fun c181 => ?_) (fun c181 => ?_)
                · refine r_iload hJ dX5_ofHolder_228 jg7 ?_
                  refine r_istore hJ dX5_ofHolder_230 (jp7 rfl rfl) ?_
                  refine r_iinc hJ dX5_ofHolder_232 jg8 rfl (jp8 rfl rfl) ?_
                  refine r_goto hJ (tgt := 64) dX5_ofHolder_235 (by decide) ?_
                  exact ihn _ _ _ _ _ _ _ rfl rfl ha hb hc (by rw [← hd]; congr 1; exact Eq.symm (by unfold hD; rw [if_neg hw])) (by rw [← he]; congr 1; exact Eq.symm (by unfold hE; rw [if_neg (fun q => hw q.1)]))
                · exact absurd rfl c181
              · exact absurd rfl c167
            have t141_0 : ∀ (a b c d e : Int32), dwn (hA (T 1) (nI h)) n a = fa → dwn (hB (T 1) (nI h)) n b = fb → dwn (hC (T 1) (nI h)) n (hC (T 1) (nI h) n c) = fc → dwn (hD (T 1) (nI h)) n (hD (T 1) (nI h) n d) = fd → dwn (hE (T 1) (nI h)) n (hE (T 1) (nI h) n e) = fe → J (setO S 10 T, x) 141 [some (.ref (ad E 10 0)), some (.int (nI h)), some (.int (nI q)), some (.int a), some (.int b), some (.int c), some (.int d), some (.int e), some (.int (nI n)), some (.int (nI 0)), some (.int (mStg (T 1) n))] [] := by
              intro a b c d e ha hb hc hd he
              obtain ⟨-, w, hw4, hQ⟩ := hM.2 n hn
              refine r_iload hJ dX5_ofHolder_141 jg5 ?_
              refine r_aload_n hJ dX5_ofHolder_143 rfl jg0 ?_
              refine r_g5_0 hJ m791 dX5_ofHolder_144 ?_
              refine r_iload hJ dX5_ofHolder_147 jg8 ?_
              refine r_iload_n hJ dX5_ofHolder_149 rfl jg1 ?_
              refine r_S3v hJ kX5_90 (h5_wishOf l E S x T (Or.inl rfl) (n := n) hn hw4 hQ.1 (nI h)) dX5_ofHolder_150 ⟨by decide, by decide⟩ (Nat.le_of_ble_eq_true rfl) ?_
              refine r_iconst hJ (v := (-1)) dX5_ofHolder_153 (by decide) ?_
              refine r_icmp_ne hJ (tgt := 161) dX5_ofHolder_154 (by decide) (fun c154 => ?_) (fun c154 => ?_)
              · rw [mWish_m1 hw4] at c154
                have c154 := Option.isSome_iff_ne_none.mpr c154
                rw [← mQ_uniq hw4 hQ] at c154
                refine r_iconst hJ (v := nI 1) dX5_ofHolder_161 (by decide) ?_
                refine r_iadd hJ dX5_ofHolder_162 ?_
                refine r_istore hJ dX5_ofHolder_163 (jp5 rfl rfl) ?_
                exact t165_0 _ _ _ _ _ ha hb (by rw [← hc]; congr 1; unfold hC; rw [if_pos c154]) hd he
              · rw [mWish_m1 hw4] at c154
                rw [← mQ_uniq hw4 hQ] at c154
                refine r_iconst hJ (v := nI 0) dX5_ofHolder_157 (by decide) ?_
                refine r_goto hJ (tgt := 162) dX5_ofHolder_158 (by decide) ?_
                refine r_iadd hJ dX5_ofHolder_162 ?_
                refine r_istore hJ dX5_ofHolder_163 (jp5 rfl rfl) ?_
                exact t165_0 _ _ _ _ _ ha hb (by rw [← hc]; congr 1; unfold hC; rw [if_neg (by rw [c154]; decide)]) hd he
            refine r_istore hJ dX5_ofHolder_88 (jp9 rfl rfl) ?_
            refine r_aload_n hJ dX5_ofHolder_90 rfl jg0 ?_
            refine r_g5_0 hJ m791 dX5_ofHolder_91 ?_
            refine r_iload hJ dX5_ofHolder_94 jg8 ?_
            refine r_S2v hJ kX5_51 (h5_stageOf l E S x T (Or.inl rfl) (n := n) hn) dX5_ofHolder_96 ⟨by decide, by decide⟩ (Nat.le_of_ble_eq_true rfl) ?_
            refine r_istore hJ dX5_ofHolder_99 (jp10 rfl rfl) ?_
            refine r_iload_n hJ dX5_ofHolder_101 rfl jg3 ?_
            refine r_iload hJ dX5_ofHolder_102 jg9 ?_
            refine r_if_eq hJ (tgt := 117) dX5_ofHolder_104 (by decide) (fun c104 => ?_) (fun c104 => ?_)
            · refine r_iconst hJ (v := nI 0) dX5_ofHolder_117 (by decide) ?_
              refine r_iadd hJ dX5_ofHolder_118 ?_
              refine r_istore_n hJ dX5_ofHolder_119 rfl (jp3 rfl rfl) ?_
              refine r_iload hJ dX5_ofHolder_120 jg4 ?_
              refine r_iload hJ dX5_ofHolder_122 jg9 ?_
              refine r_if_eq hJ (tgt := 137) dX5_ofHolder_124 (by decide) (fun c124 => ?_) (fun c124 => ?_)
              · refine r_iconst hJ (v := nI 0) dX5_ofHolder_137 (by decide) ?_
                refine r_iadd hJ dX5_ofHolder_138 ?_
                refine r_istore hJ dX5_ofHolder_139 (jp4 rfl rfl) ?_
                exact t141_0 _ _ _ _ _ (by rw [← ha]; congr 1; unfold hA; rw [if_neg (fun q => hw q.1)]) (by rw [← hb]; congr 1; unfold hB; rw [if_neg (fun q => hw q.1)]) hc hd he
              · exact absurd rfl c124
            · exact absurd rfl c104
            
          · refine r_iconst hJ (v := nI 1) dX5_ofHolder_83 (by decide) ?_
            refine r_goto hJ (tgt := 88) dX5_ofHolder_84 (by decide) ?_
            have hw : T 1 ((32 + 12 * n)) = nI h := c80
            have t165_1 : ∀ (a b c d e : Int32), dwn (hA (T 1) (nI h)) n a = fa → dwn (hB (T 1) (nI h)) n b = fb → dwn (hC (T 1) (nI h)) n c = fc → dwn (hD (T 1) (nI h)) n (hD (T 1) (nI h) n d) = fd → dwn (hE (T 1) (nI h)) n (hE (T 1) (nI h) n e) = fe → J (setO S 10 T, x) 165 [some (.ref (ad E 10 0)), some (.int (nI h)), some (.int (nI q)), some (.int a), some (.int b), some (.int c), some (.int d), some (.int e), some (.int (nI n)), some (.int (nI 1)), some (.int (mStg (T 1) n))] [] := by
              intro a b c d e ha hb hc hd he
              refine r_iload hJ dX5_ofHolder_165 jg9 ?_
              refine r_if_eq hJ (tgt := 175) dX5_ofHolder_167 (by decide) (fun c167 => ?_) (fun c167 => ?_)
              · exact absurd c167 (by decide)
              · refine r_iload hJ dX5_ofHolder_170 jg8 ?_
                refine r_goto hJ (tgt := 177) dX5_ofHolder_172 (by decide) ?_
                refine r_istore hJ dX5_ofHolder_177 (jp6 rfl rfl) ?_
                refine r_iload hJ dX5_ofHolder_179 jg9 ?_
                refine r_if_eq hJ (tgt := 228) dX5_ofHolder_181 (by decide) (fun c181 => ?_) (fun c181 => ?_)
                · exact absurd c181 (by decide)
                · refine r_iload hJ dX5_ofHolder_184 jg10 ?_
                  refine r_iconst hJ (v := nI 1) dX5_ofHolder_186 (by decide) ?_
                  refine r_icmp_ne hJ (tgt := 228) dX5_ofHolder_187 (by decide) (fun c187 => ?_) (fun c187 => ?_)
                  · refine r_iload hJ dX5_ofHolder_228 jg7 ?_
                    refine r_istore hJ dX5_ofHolder_230 (jp7 rfl rfl) ?_
                    refine r_iinc hJ dX5_ofHolder_232 jg8 rfl (jp8 rfl rfl) ?_
                    refine r_goto hJ (tgt := 64) dX5_ofHolder_235 (by decide) ?_
                    exact ihn _ _ _ _ _ _ _ rfl rfl ha hb hc (by rw [← hd]; congr 1; exact Eq.symm (by unfold hD; rw [if_pos hw])) (by rw [← he]; congr 1; exact Eq.symm (by unfold hE; rw [if_neg (fun q => c187 q.2.1)]))
                  · refine r_iload hJ dX5_ofHolder_190 jg7 ?_
                    refine r_iconst hJ (v := (-1)) dX5_ofHolder_192 (by decide) ?_
                    refine r_icmp_eq hJ (tgt := 213) dX5_ofHolder_193 (by decide) (fun c193 => ?_) (fun c193 => ?_)
                    · refine r_aload_n hJ dX5_ofHolder_213 rfl jg0 ?_
                      refine r_g5_0 hJ m791 dX5_ofHolder_214 ?_
                      refine r_iload hJ dX5_ofHolder_217 jg8 ?_
                      refine r_S1v hJ kX5_40 (c5_row l E _ x n) dX5_ofHolder_219 ⟨by decide, by decide⟩ (Nat.le_of_ble_eq_true rfl) ?_
                      refine r_iconst hJ (v := nI 2) dX5_ofHolder_222 (by decide) ?_
                      refine r_iaddN hJ dX5_ofHolder_223 ?_
                      refine r_ialdO hJ (by omega) (alM1 (by omega)) rfl dX5_ofHolder_224 ?_
                      refine r_goto hJ (tgt := 230) dX5_ofHolder_225 (by decide) ?_
                      refine r_istore hJ dX5_ofHolder_230 (jp7 rfl rfl) ?_
                      refine r_iinc hJ dX5_ofHolder_232 jg8 rfl (jp8 rfl rfl) ?_
                      refine r_goto hJ (tgt := 64) dX5_ofHolder_235 (by decide) ?_
                      exact ihn _ _ _ _ _ _ _ rfl rfl ha hb hc (by rw [← hd]; congr 1; exact Eq.symm (by unfold hD; rw [if_pos hw])) (by rw [← he]; congr 1; exact Eq.symm (by unfold hE; rw [if_pos ⟨hw, c187, Or.inl c193⟩]))
                    · refine r_aload_n hJ dX5_ofHolder_196 rfl jg0 ?_
                      refine r_g5_0 hJ m791 dX5_ofHolder_197 ?_
                      refine r_iload hJ dX5_ofHolder_200 jg8 ?_
                      refine r_S1v hJ kX5_40 (c5_row l E _ x n) dX5_ofHolder_202 ⟨by decide, by decide⟩ (Nat.le_of_ble_eq_true rfl) ?_
                      refine r_iconst hJ (v := nI 2) dX5_ofHolder_205 (by decide) ?_
                      refine r_iaddN hJ dX5_ofHolder_206 ?_
                      refine r_ialdO hJ (by omega) (alM1 (by omega)) rfl dX5_ofHolder_207 ?_
                      refine r_iload hJ dX5_ofHolder_208 jg7 ?_
                      refine r_icmp_ge hJ (tgt := 228) dX5_ofHolder_210 (by decide) (fun c210 => ?_) (fun c210 => ?_)
                      · have c210 := Int32.not_lt.mpr c210
                        refine r_iload hJ dX5_ofHolder_228 jg7 ?_
                        refine r_istore hJ dX5_ofHolder_230 (jp7 rfl rfl) ?_
                        refine r_iinc hJ dX5_ofHolder_232 jg8 rfl (jp8 rfl rfl) ?_
                        refine r_goto hJ (tgt := 64) dX5_ofHolder_235 (by decide) ?_
                        exact ihn _ _ _ _ _ _ _ rfl rfl ha hb hc (by rw [← hd]; congr 1; exact Eq.symm (by unfold hD; rw [if_pos hw])) (by rw [← he]; congr 1; exact Eq.symm (by unfold hE; rw [if_neg (fun q => q.2.2.elim c193 c210)]))
                      · have c210 := Int32.not_le.mp c210
                        refine r_aload_n hJ dX5_ofHolder_213 rfl jg0 ?_
                        refine r_g5_0 hJ m791 dX5_ofHolder_214 ?_
                        refine r_iload hJ dX5_ofHolder_217 jg8 ?_
                        refine r_S1v hJ kX5_40 (c5_row l E _ x n) dX5_ofHolder_219 ⟨by decide, by decide⟩ (Nat.le_of_ble_eq_true rfl) ?_
                        refine r_iconst hJ (v := nI 2) dX5_ofHolder_222 (by decide) ?_
                        refine r_iaddN hJ dX5_ofHolder_223 ?_
                        refine r_ialdO hJ (by omega) (alM1 (by omega)) rfl dX5_ofHolder_224 ?_
                        refine r_goto hJ (tgt := 230) dX5_ofHolder_225 (by decide) ?_
                        refine r_istore hJ dX5_ofHolder_230 (jp7 rfl rfl) ?_
                        refine r_iinc hJ dX5_ofHolder_232 jg8 rfl (jp8 rfl rfl) ?_
                        refine r_goto hJ (tgt := 64) dX5_ofHolder_235 (by decide) ?_
                        exact ihn _ _ _ _ _ _ _ rfl rfl ha hb hc (by rw [← hd]; congr 1; exact Eq.symm (by unfold hD; rw [if_pos hw])) (by rw [← he]; congr 1; exact Eq.symm (by unfold hE; rw [if_pos ⟨hw, c187, Or.inr c210⟩]))
            have t141_1 : ∀ (a b c d e : Int32), dwn (hA (T 1) (nI h)) n a = fa → dwn (hB (T 1) (nI h)) n b = fb → dwn (hC (T 1) (nI h)) n (hC (T 1) (nI h) n c) = fc → dwn (hD (T 1) (nI h)) n (hD (T 1) (nI h) n d) = fd → dwn (hE (T 1) (nI h)) n (hE (T 1) (nI h) n e) = fe → J (setO S 10 T, x) 141 [some (.ref (ad E 10 0)), some (.int (nI h)), some (.int (nI q)), some (.int a), some (.int b), some (.int c), some (.int d), some (.int e), some (.int (nI n)), some (.int (nI 1)), some (.int (mStg (T 1) n))] [] := by
              intro a b c d e ha hb hc hd he
              obtain ⟨-, w, hw4, hQ⟩ := hM.2 n hn
              refine r_iload hJ dX5_ofHolder_141 jg5 ?_
              refine r_aload_n hJ dX5_ofHolder_143 rfl jg0 ?_
              refine r_g5_0 hJ m791 dX5_ofHolder_144 ?_
              refine r_iload hJ dX5_ofHolder_147 jg8 ?_
              refine r_iload_n hJ dX5_ofHolder_149 rfl jg1 ?_
              refine r_S3v hJ kX5_90 (h5_wishOf l E S x T (Or.inl rfl) (n := n) hn hw4 hQ.1 (nI h)) dX5_ofHolder_150 ⟨by decide, by decide⟩ (Nat.le_of_ble_eq_true rfl) ?_
              refine r_iconst hJ (v := (-1)) dX5_ofHolder_153 (by decide) ?_
              refine r_icmp_ne hJ (tgt := 161) dX5_ofHolder_154 (by decide) (fun c154 => ?_) (fun c154 => ?_)
              · rw [mWish_m1 hw4] at c154
                have c154 := Option.isSome_iff_ne_none.mpr c154
                rw [← mQ_uniq hw4 hQ] at c154
                refine r_iconst hJ (v := nI 1) dX5_ofHolder_161 (by decide) ?_
                refine r_iadd hJ dX5_ofHolder_162 ?_
                refine r_istore hJ dX5_ofHolder_163 (jp5 rfl rfl) ?_
                exact t165_1 _ _ _ _ _ ha hb (by rw [← hc]; congr 1; unfold hC; rw [if_pos c154]) hd he
              · rw [mWish_m1 hw4] at c154
                rw [← mQ_uniq hw4 hQ] at c154
                refine r_iconst hJ (v := nI 0) dX5_ofHolder_157 (by decide) ?_
                refine r_goto hJ (tgt := 162) dX5_ofHolder_158 (by decide) ?_
                refine r_iadd hJ dX5_ofHolder_162 ?_
                refine r_istore hJ dX5_ofHolder_163 (jp5 rfl rfl) ?_
                exact t165_1 _ _ _ _ _ ha hb (by rw [← hc]; congr 1; unfold hC; rw [if_neg (by rw [c154]; decide)]) hd he
            refine r_istore hJ dX5_ofHolder_88 (jp9 rfl rfl) ?_
            refine r_aload_n hJ dX5_ofHolder_90 rfl jg0 ?_
            refine r_g5_0 hJ m791 dX5_ofHolder_91 ?_
            refine r_iload hJ dX5_ofHolder_94 jg8 ?_
            refine r_S2v hJ kX5_51 (h5_stageOf l E S x T (Or.inl rfl) (n := n) hn) dX5_ofHolder_96 ⟨by decide, by decide⟩ (Nat.le_of_ble_eq_true rfl) ?_
            refine r_istore hJ dX5_ofHolder_99 (jp10 rfl rfl) ?_
            refine r_iload_n hJ dX5_ofHolder_101 rfl jg3 ?_
            refine r_iload hJ dX5_ofHolder_102 jg9 ?_
            refine r_if_eq hJ (tgt := 117) dX5_ofHolder_104 (by decide) (fun c104 => ?_) (fun c104 => ?_)
            · exact absurd c104 (by decide)
            · refine r_iload hJ dX5_ofHolder_107 jg10 ?_
              refine r_iconst hJ (v := nI 1) dX5_ofHolder_109 (by decide) ?_
              refine r_icmp_ne hJ (tgt := 117) dX5_ofHolder_110 (by decide) (fun c110 => ?_) (fun c110 => ?_)
              · refine r_iconst hJ (v := nI 0) dX5_ofHolder_117 (by decide) ?_
                refine r_iadd hJ dX5_ofHolder_118 ?_
                refine r_istore_n hJ dX5_ofHolder_119 rfl (jp3 rfl rfl) ?_
                refine r_iload hJ dX5_ofHolder_120 jg4 ?_
                refine r_iload hJ dX5_ofHolder_122 jg9 ?_
                refine r_if_eq hJ (tgt := 137) dX5_ofHolder_124 (by decide) (fun c124 => ?_) (fun c124 => ?_)
                · exact absurd c124 (by decide)
                · refine r_iload hJ dX5_ofHolder_127 jg10 ?_
                  refine r_iconst hJ (v := nI 2) dX5_ofHolder_129 (by decide) ?_
                  refine r_icmp_ne hJ (tgt := 137) dX5_ofHolder_130 (by decide) (fun c130 => ?_) (fun c130 => ?_)
                  · refine r_iconst hJ (v := nI 0) dX5_ofHolder_137 (by decide) ?_
                    refine r_iadd hJ dX5_ofHolder_138 ?_
                    refine r_istore hJ dX5_ofHolder_139 (jp4 rfl rfl) ?_
                    exact t141_1 _ _ _ _ _ (by rw [← ha]; congr 1; unfold hA; rw [if_neg (fun q => c110 q.2)]) (by rw [← hb]; congr 1; unfold hB; rw [if_neg (fun q => c130 q.2)]) hc hd he
                  · refine r_iconst hJ (v := nI 1) dX5_ofHolder_133 (by decide) ?_
                    refine r_goto hJ (tgt := 138) dX5_ofHolder_134 (by decide) ?_
                    refine r_iadd hJ dX5_ofHolder_138 ?_
                    refine r_istore hJ dX5_ofHolder_139 (jp4 rfl rfl) ?_
                    exact t141_1 _ _ _ _ _ (by rw [← ha]; congr 1; unfold hA; rw [if_neg (fun q => c110 q.2)]) (by rw [← hb]; congr 1; unfold hB; rw [if_pos ⟨hw, c130⟩]) hc hd he
              · refine r_iconst hJ (v := nI 1) dX5_ofHolder_113 (by decide) ?_
                refine r_goto hJ (tgt := 118) dX5_ofHolder_114 (by decide) ?_
                refine r_iadd hJ dX5_ofHolder_118 ?_
                refine r_istore_n hJ dX5_ofHolder_119 rfl (jp3 rfl rfl) ?_
                refine r_iload hJ dX5_ofHolder_120 jg4 ?_
                refine r_iload hJ dX5_ofHolder_122 jg9 ?_
                refine r_if_eq hJ (tgt := 137) dX5_ofHolder_124 (by decide) (fun c124 => ?_) (fun c124 => ?_)
                · exact absurd c124 (by decide)
                · refine r_iload hJ dX5_ofHolder_127 jg10 ?_
                  refine r_iconst hJ (v := nI 2) dX5_ofHolder_129 (by decide) ?_
                  refine r_icmp_ne hJ (tgt := 137) dX5_ofHolder_130 (by decide) (fun c130 => ?_) (fun c130 => ?_)
                  · refine r_iconst hJ (v := nI 0) dX5_ofHolder_137 (by decide) ?_
                    refine r_iadd hJ dX5_ofHolder_138 ?_
                    refine r_istore hJ dX5_ofHolder_139 (jp4 rfl rfl) ?_
                    exact t141_1 _ _ _ _ _ (by rw [← ha]; congr 1; unfold hA; rw [if_pos ⟨hw, c110⟩]) (by rw [← hb]; congr 1; unfold hB; rw [if_neg (fun q => c130 q.2)]) hc hd he
                  · refine r_iconst hJ (v := nI 1) dX5_ofHolder_133 (by decide) ?_
                    refine r_goto hJ (tgt := 138) dX5_ofHolder_134 (by decide) ?_
                    refine r_iadd hJ dX5_ofHolder_138 ?_
                    refine r_istore hJ dX5_ofHolder_139 (jp4 rfl rfl) ?_
                    exact t141_1 _ _ _ _ _ (by rw [← ha]; congr 1; unfold hA; rw [if_pos ⟨hw, c110⟩]) (by rw [← hb]; congr 1; unfold hB; rw [if_pos ⟨hw, c130⟩]) hc hd he
            
    refine r_iload_n hJ dX5_ofHolder_0 rfl jg2 ?_
    refine r_iconst hJ (v := nI 4) dX5_ofHolder_1 (by decide) ?_
    refine r_icmp_le hJ (tgt := 40) dX5_ofHolder_2 (by decide) (fun c2 => ?_) (fun c2 => ?_)
    · refine r_iconst hJ (v := nI 0) dX5_ofHolder_40 (by decide) ?_
      refine r_istore_n hJ dX5_ofHolder_41 rfl (jp3 rfl rfl) ?_
      refine r_iconst hJ (v := nI 0) dX5_ofHolder_42 (by decide) ?_
      refine r_istore hJ dX5_ofHolder_43 (jp4 rfl rfl) ?_
      refine r_iconst hJ (v := nI 0) dX5_ofHolder_45 (by decide) ?_
      refine r_istore hJ dX5_ofHolder_46 (jp5 rfl rfl) ?_
      refine r_iconst hJ (v := (-1)) dX5_ofHolder_48 (by decide) ?_
      refine r_istore hJ dX5_ofHolder_49 (jp6 rfl rfl) ?_
      refine r_iconst hJ (v := (-1)) dX5_ofHolder_51 (by decide) ?_
      refine r_istore hJ dX5_ofHolder_52 (jp7 rfl rfl) ?_
      refine r_aload_n hJ dX5_ofHolder_54 rfl jg0 ?_
      refine r_g5_0 hJ m791 dX5_ofHolder_55 ?_
      refine r_iconst hJ (v := nI 4) dX5_ofHolder_58 (by decide) ?_
      refine r_ialdO hJ (by omega) (alM1 (by omega)) rfl dX5_ofHolder_59 ?_
      refine r_iconst hJ (v := nI 1) dX5_ofHolder_60 (by decide) ?_
      refine r_isub hJ dX5_ofHolder_61 ?_
      rw [show T 1 4 = nI z from hz, dec_0]
      refine r_istore hJ dX5_ofHolder_62 (jp8 rfl rfl) ?_
      exact loop z (nI 0) (nI 0) (nI 0) (-1) (-1) none none (Nat.le_refl _) rfl rfl hfa hfb hfc hfd hfe
    · exact absurd (nI_le hq4 (by decide)) c2
  · rcases (show q = 5 ∨ q = 6 ∨ q = 7 by omega) with rfl | rfl | rfl
    · refine r_iload_n hJ dX5_ofHolder_0 rfl jg2 ?_
      refine r_iconst hJ (v := nI 4) dX5_ofHolder_1 (by decide) ?_
      refine r_icmp_le hJ (tgt := 40) dX5_ofHolder_2 (by decide) (fun c2 => ?_) (fun c2 => ?_)
      · exact absurd c2 (by decide)
      · refine r_aload_n hJ dX5_ofHolder_5 rfl jg0 ?_
        refine r_g5_0 hJ m791 dX5_ofHolder_6 ?_
        refine r_iload_n hJ dX5_ofHolder_9 rfl jg2 ?_
        refine r_iconst hJ (v := nI 5) dX5_ofHolder_10 (by decide) ?_
        refine r_icmp_ne hJ (tgt := 21) dX5_ofHolder_11 (by decide) (fun c11 => ?_) (fun c11 => ?_)
        · exact absurd rfl c11
        · refine r_bipush hJ (v := nI 8) dX5_ofHolder_14 (by decide) ?_
          refine r_iload_n hJ dX5_ofHolder_16 rfl jg1 ?_
          refine r_iaddN hJ dX5_ofHolder_17 ?_
          refine r_goto hJ (tgt := 38) dX5_ofHolder_18 (by decide) ?_
          refine r_ialdO hJ (by omega) (alM1 (by omega)) rfl dX5_ofHolder_38 ?_
          exact ret_i hF dX5_ofHolder_39 rfl rfl
    · refine r_iload_n hJ dX5_ofHolder_0 rfl jg2 ?_
      refine r_iconst hJ (v := nI 4) dX5_ofHolder_1 (by decide) ?_
      refine r_icmp_le hJ (tgt := 40) dX5_ofHolder_2 (by decide) (fun c2 => ?_) (fun c2 => ?_)
      · exact absurd c2 (by decide)
      · refine r_aload_n hJ dX5_ofHolder_5 rfl jg0 ?_
        refine r_g5_0 hJ m791 dX5_ofHolder_6 ?_
        refine r_iload_n hJ dX5_ofHolder_9 rfl jg2 ?_
        refine r_iconst hJ (v := nI 5) dX5_ofHolder_10 (by decide) ?_
        refine r_icmp_ne hJ (tgt := 21) dX5_ofHolder_11 (by decide) (fun c11 => ?_) (fun c11 => ?_)
        · refine r_iload_n hJ dX5_ofHolder_21 rfl jg2 ?_
          refine r_bipush hJ (v := nI 6) dX5_ofHolder_22 (by decide) ?_
          refine r_icmp_ne hJ (tgt := 34) dX5_ofHolder_24 (by decide) (fun c24 => ?_) (fun c24 => ?_)
          · exact absurd rfl c24
          · refine r_bipush hJ (v := nI 16) dX5_ofHolder_27 (by decide) ?_
            refine r_iload_n hJ dX5_ofHolder_29 rfl jg1 ?_
            refine r_iaddN hJ dX5_ofHolder_30 ?_
            refine r_goto hJ (tgt := 38) dX5_ofHolder_31 (by decide) ?_
            refine r_ialdO hJ (by omega) (alM1 (by omega)) rfl dX5_ofHolder_38 ?_
            exact ret_i hF dX5_ofHolder_39 rfl rfl
        · exact absurd c11 (by decide)
    · refine r_iload_n hJ dX5_ofHolder_0 rfl jg2 ?_
      refine r_iconst hJ (v := nI 4) dX5_ofHolder_1 (by decide) ?_
      refine r_icmp_le hJ (tgt := 40) dX5_ofHolder_2 (by decide) (fun c2 => ?_) (fun c2 => ?_)
      · exact absurd c2 (by decide)
      · refine r_aload_n hJ dX5_ofHolder_5 rfl jg0 ?_
        refine r_g5_0 hJ m791 dX5_ofHolder_6 ?_
        refine r_iload_n hJ dX5_ofHolder_9 rfl jg2 ?_
        refine r_iconst hJ (v := nI 5) dX5_ofHolder_10 (by decide) ?_
        refine r_icmp_ne hJ (tgt := 21) dX5_ofHolder_11 (by decide) (fun c11 => ?_) (fun c11 => ?_)
        · refine r_iload_n hJ dX5_ofHolder_21 rfl jg2 ?_
          refine r_bipush hJ (v := nI 6) dX5_ofHolder_22 (by decide) ?_
          refine r_icmp_ne hJ (tgt := 34) dX5_ofHolder_24 (by decide) (fun c24 => ?_) (fun c24 => ?_)
          · refine r_bipush hJ (v := nI 24) dX5_ofHolder_34 (by decide) ?_
            refine r_iload_n hJ dX5_ofHolder_36 rfl jg1 ?_
            refine r_iaddN hJ dX5_ofHolder_37 ?_
            refine r_ialdO hJ (by omega) (alM1 (by omega)) rfl dX5_ofHolder_38 ?_
            exact ret_i hF dX5_ofHolder_39 rfl rfl
          · exact absurd c24 (by decide)
        · exact absurd c11 (by decide)

def mHolder (T : jO) (z : Nat) (h q : Int32) : Int32 × jO :=
  if witQ h (nI 0) (nI 7) = true then
    if witQ q (nI 0) (nI 7) = true then (mHol (T 1) z (toN h) (toN q), thr T (nI 0)) else (nI 0, thr (thr T (nI 0)) (nI 2))
  else (nI 0, thr (thr T (nI 0)) (nI 1))
set_option maxRecDepth 100000 in
set_option maxHeartbeats 1000000 in
theorem c5_holder (l : Launch) (E : jE) (S : jS) (x : jX) (T : jO) {z : Nat} (hM : MI (T 1) z) (h q : Int32) : Ct l E yX5_holder cX5_holder 3 (some .int) 5 [.ref (ad E 10 0), .int h, .int q] (setO S 10 T, x) (some (.int (mHolder T z h q).1)) (setO S 10 (mHolder T z h q).2, x) := by
  refine Ct.of (by decide +kernel) (Nat.le_refl _) (Nat.le_of_ble_eq_true rfl) rfl (fun J hJ hF => ?_)
  have hz := hM.1.1
  have hz6 := hM.1.2.2
  have hz4 := hM.1.2.1
  refine r_aload_n hJ dX5_holder_0 rfl jg0 ?_
  refine r_iconst hJ (v := nI 0) dX5_holder_1 (by decide) ?_
  refine r_p5_6 hJ m797 dX5_holder_2 ?_
  refine r_iload_n hJ dX5_holder_5 rfl jg1 ?_
  refine r_S1v hJ kX5_73 (c5_isHolder l E _ x h) dX5_holder_6 ⟨by decide, by decide⟩ (Nat.le_of_ble_eq_true rfl) ?_
  refine r_if_ne hJ (tgt := 18) dX5_holder_9 (by decide) (fun c9 => ?_) (fun c9 => ?_)
  · have c9 : witQ h (nI 0) (nI 7) = true := bI_ne c9
    refine r_iload_n hJ dX5_holder_18 rfl jg2 ?_
    refine r_iconst hJ (v := nI 0) dX5_holder_19 (by decide) ?_
    refine r_bipush hJ (v := nI 7) dX5_holder_20 (by decide) ?_
    refine r_S3v hJ kX5_29 (c5_in l E _ x q (nI 0) (nI 7)) dX5_holder_22 ⟨by decide, by decide⟩ (Nat.le_of_ble_eq_true rfl) ?_
    refine r_if_eq hJ (tgt := 37) dX5_holder_25 (by decide) (fun c25 => ?_) (fun c25 => ?_)
    · have c25 : witQ q (nI 0) (nI 7) = false := bI_0.mp c25
      refine r_aload_n hJ dX5_holder_37 rfl jg0 ?_
      refine r_iconst hJ (v := nI 2) dX5_holder_38 (by decide) ?_
      refine r_V1v hJ kX5_36 (rcv5 E) (c5_fails l E _ x _ (nI 2)) dX5_holder_39 ⟨by decide, by decide⟩ (Nat.le_of_ble_eq_true rfl) ?_
      exact ret_i hF dX5_holder_42 (by simp [mHolder, c9, c25, thr_1]) (by simp [mHolder, thr, c9, c25, thr_1])
    · have c25 : witQ q (nI 0) (nI 7) = true := bI_ne c25
      refine r_aload_n hJ dX5_holder_28 rfl jg0 ?_
      refine r_iload_n hJ dX5_holder_29 rfl jg1 ?_
      refine r_iload_n hJ dX5_holder_30 rfl jg2 ?_
      obtain ⟨n1, n2⟩ := wit_N (by decide) c9
      obtain ⟨q1, q2⟩ := wit_N (by decide) c25
      have hon := c5_ofHolder l E S x (thr T (nI 0)) hM (h := toN h) (q := toN q) (by omega) q2
      rw [← n1, ← q1] at hon
      refine r_V2v hJ kX5_168 (rcv5 E) (hon) dX5_holder_31 ⟨by decide, by decide⟩ (Nat.le_of_ble_eq_true rfl) ?_
      refine r_goto hJ (tgt := 42) dX5_holder_34 (by decide) ?_
      exact ret_i hF dX5_holder_42 (by simp [mHolder, c9, c25, thr_1]) (by simp [mHolder, thr, c9, c25, thr_1])
  · have c9 : witQ h (nI 0) (nI 7) = false := bI_0.mp c9
    refine r_aload_n hJ dX5_holder_12 rfl jg0 ?_
    refine r_iconst hJ (v := nI 1) dX5_holder_13 (by decide) ?_
    refine r_V1v hJ kX5_36 (rcv5 E) (c5_fails l E _ x _ (nI 1)) dX5_holder_14 ⟨by decide, by decide⟩ (Nat.le_of_ble_eq_true rfl) ?_
    exact ret_i hF dX5_holder_17 (by simp [mHolder, c9, thr_1]) (by simp [mHolder, thr, c9, thr_1])
