/-! WHAT ONE STEP OF THE LAW DOES -/
section CASES
variable {l : Launch} {E : jE} {b Ls : Nat} {xs : Nat → Int32} {J : jT} {S : jS} {K : Nat → Nat} {o : Int64} {n C i : Nat}
abbrev lawL (E : jE) (b i : Nat) (a5 a6 a7 a8 : Option Value) : List (Option Value) := [some (.ref b), some (.ref (ad E 11 0)), some (.ref (ad E 10 0)), some (.ref (ad E 12 0)), some (.int (nI (4 * i))), a5, a6, a7, a8]
/-- the step is over, and all stands as it should -/
def lawK (E : jE) (J : jT) (b i n C : Nat) : Prop := ∀ (S' : jS) (K' : Nat → Nat) (o' : Int64) (n' : Nat) (a5 a6 a7 a8 : Option Value), COUP S' K' (C + 400000) → n ≤ n' → n' ≤ n + 1 → J (S', (K', (o', n'))) 1491 (lawL E b i a5 a6 a7 a8) []
theorem out_le {y : MethodName} {cc : ByteArray} {nL d : Nat} {av : List Value} {G G1 : jG} {cls : List String} {k : Nat} {v : Int32} (h : Out l E y cc nL d av G cls k v G1) : k ≤ cls.length := by
  rcases h with ⟨rfl, -⟩ | ⟨j, c, rfl, h, -⟩
  · exact Nat.zero_le _
  · exact (List.getElem?_eq_some_iff.mp h).1
theorem nI_zero {k m : Nat} (h : k ≤ m) (hc : nI k = 0) (hm : m < 2 ^ 31 := by decide) : k = 0 := by
  have h1 : nI k = nI 0 := hc
  rwa [nI_eq (by omega) (by decide)] at h1
theorem q_take (hJ : jRX l E RL cL_law 9 12 0 512 b Ls xs J) (hst : l.stackTraces = false) (hc : COUP S K C) (hi : 4 * i + 3 < Ls) (hL : Ls ≤ 5000) (hn : n + 1 ≤ 512) (hK : lawK E J b i n C) (a5 a6 a7 a8 : Option Value) : J (S, (K, (o, n))) 152 (lawL E b i a5 a6 a7 a8) [] := by
  have hJr := hJ.r
  obtain ⟨k, v, S1, K1, ho, hm⟩ := p_take (E := E) (y := (o, n)) hst hc (xs (4 * i + 1)) (xs (4 * i + 2))
  obtain ⟨o', n', hn1, hn2, hv, ct⟩ := w_take ho
  obtain ⟨b1, T1, cm, hT, hb, hC⟩ := hm (o', n')
  refine r_aload_n hJr dL_law_152 rfl jg1 ?_
  refine r_aload_n hJr dL_law_153 rfl jg0 ?_
  refine r_iload hJr dL_law_154 jg4 ?_
  refine r_iconst hJr (v := nI 1) dL_law_156 (by decide) ?_
  refine r_iaddN hJr dL_law_157 ?_
  refine r_sld hJ (by omega) (by omega) dL_law_158 ?_
  refine r_aload_n hJr dL_law_159 rfl jg0 ?_
  refine r_iload hJr dL_law_160 jg4 ?_
  refine r_iconst hJr (v := nI 2) dL_law_162 (by decide) ?_
  refine r_iaddN hJr dL_law_163 ?_
  refine r_sld hJ (by omega) (by omega) dL_law_164 ?_
  refine r_aload_n hJr dL_law_165 rfl jg3 ?_
  refine r_H4 hJr kLH_80 ct dL_law_166 ⟨by decide, by decide⟩ (Nat.le_of_ble_eq_true rfl) (by show n ≤ 0 + 512 → n' ≤ 0 + 512; omega) ?_
  refine r_istore hJr dL_law_169 (jp5 rfl rfl) ?_
  refine r_aload_n hJr dL_law_171 rfl jg2 ?_
  refine r_aload_n hJr dL_law_172 rfl jg0 ?_
  refine r_iload hJr dL_law_173 jg4 ?_
  refine r_iconst hJr (v := nI 1) dL_law_175 (by decide) ?_
  refine r_iaddN hJr dL_law_176 ?_
  refine r_sld hJ (by omega) (by omega) dL_law_177 ?_
  refine r_aload_n hJr dL_law_178 rfl jg0 ?_
  refine r_iload hJr dL_law_179 jg4 ?_
  refine r_iconst hJr (v := nI 2) dL_law_181 (by decide) ?_
  refine r_iaddN hJr dL_law_182 ?_
  refine r_sld hJ (by omega) (by omega) dL_law_183 ?_
  refine r_V2v hJr kL_85 (rcv5 E) cm dL_law_184 ⟨by decide, by decide⟩ (Nat.le_of_ble_eq_true rfl) ?_
  refine r_istore hJr dL_law_187 (jp6 rfl rfl) ?_
  refine r_aload_n hJr dL_law_189 rfl jg2 ?_
  refine r_V0v hJr kL_86 (rcv5 E) (c5_thrown l E S1 _ T1) dL_law_190 ⟨by decide, by decide⟩ (Nat.le_of_ble_eq_true rfl) ?_
  rw [hT]
  refine r_iload hJr dL_law_193 jg5 ?_
  refine r_icmp_eq hJr (tgt := 200) dL_law_195 (by decide) (fun _ => ?_) (fun c => absurd rfl c)
  refine r_iload hJr dL_law_200 jg5 ?_
  refine r_if_ne hJr (tgt := 217) dL_law_202 (by decide) (fun _ => ?_) (fun c => ?_)
  · refine r_goto hJr (tgt := 1491) dL_law_217 (by decide) ?_
    exact hK _ _ _ _ _ _ _ _ hC hn1 hn2
  have hk : k = 0 := nI_zero (out_le ho) c
  have e1 := hv hk
  have e2 := hb hk
  subst e1
  subst e2
  refine r_aload_n hJr dL_law_205 rfl jg3 ?_
  refine r_iconst hJr (v := nI 0) dL_law_206 (by decide) ?_
  refine r_lald hJr dL_law_207 ?_
  refine r_iload hJr dL_law_208 jg6 ?_
  refine r_i2l hJr dL_law_210 rfl ?_
  refine r_lcmp hJr dL_law_211 ?_
  rw [lg_cmp_self]
  refine r_if_eq hJr (tgt := 217) dL_law_212 (by decide) (fun _ => ?_) (fun c => absurd rfl c)
  refine r_goto hJr (tgt := 1491) dL_law_217 (by decide) ?_
  exact hK _ _ _ _ _ _ _ _ hC hn1 hn2
theorem q_takeSpan (hJ : jRX l E RL cL_law 9 12 0 512 b Ls xs J) (hst : l.stackTraces = false) (hc : COUP S K C) (hi : 4 * i + 3 < Ls) (hL : Ls ≤ 5000) (hn : n + 1 ≤ 512) (hK : lawK E J b i n C) (a5 a6 a7 a8 : Option Value) : J (S, (K, (o, n))) 220 (lawL E b i a5 a6 a7 a8) [] := by
  have hJr := hJ.r
  obtain ⟨k, v, S1, K1, ho, hm⟩ := p_takeSpan (E := E) (y := (o, n)) hst hc (xs (4 * i + 1)) (xs (4 * i + 2)) (xs (4 * i + 3))
  obtain ⟨o', n', hn1, hn2, hv, ct⟩ := w_takeSpan ho
  obtain ⟨b1, T1, cm, hT, hb, hC⟩ := hm (o', n')
  refine r_aload_n hJr dL_law_220 rfl jg1 ?_
  refine r_aload_n hJr dL_law_221 rfl jg0 ?_
  refine r_iload hJr dL_law_222 jg4 ?_
  refine r_iconst hJr (v := nI 1) dL_law_224 (by decide) ?_
  refine r_iaddN hJr dL_law_225 ?_
  refine r_sld hJ (by omega) (by omega) dL_law_226 ?_
  refine r_aload_n hJr dL_law_227 rfl jg0 ?_
  refine r_iload hJr dL_law_228 jg4 ?_
  refine r_iconst hJr (v := nI 2) dL_law_230 (by decide) ?_
  refine r_iaddN hJr dL_law_231 ?_
  refine r_sld hJ (by omega) (by omega) dL_law_232 ?_
  refine r_aload_n hJr dL_law_233 rfl jg0 ?_
  refine r_iload hJr dL_law_234 jg4 ?_
  refine r_iconst hJr (v := nI 3) dL_law_236 (by decide) ?_
  refine r_iaddN hJr dL_law_237 ?_
  refine r_sld hJ (by omega) (by omega) dL_law_238 ?_
  refine r_aload_n hJr dL_law_239 rfl jg3 ?_
  refine r_H5 hJr kLH_89 ct dL_law_240 ⟨by decide, by decide⟩ (Nat.le_of_ble_eq_true rfl) (by show n ≤ 0 + 512 → n' ≤ 0 + 512; omega) ?_
  refine r_istore hJr dL_law_243 (jp5 rfl rfl) ?_
  refine r_aload_n hJr dL_law_245 rfl jg2 ?_
  refine r_aload_n hJr dL_law_246 rfl jg0 ?_
  refine r_iload hJr dL_law_247 jg4 ?_
  refine r_iconst hJr (v := nI 1) dL_law_249 (by decide) ?_
  refine r_iaddN hJr dL_law_250 ?_
  refine r_sld hJ (by omega) (by omega) dL_law_251 ?_
  refine r_aload_n hJr dL_law_252 rfl jg0 ?_
  refine r_iload hJr dL_law_253 jg4 ?_
  refine r_iconst hJr (v := nI 2) dL_law_255 (by decide) ?_
  refine r_iaddN hJr dL_law_256 ?_
  refine r_sld hJ (by omega) (by omega) dL_law_257 ?_
  refine r_aload_n hJr dL_law_258 rfl jg0 ?_
  refine r_iload hJr dL_law_259 jg4 ?_
  refine r_iconst hJr (v := nI 3) dL_law_261 (by decide) ?_
  refine r_iaddN hJr dL_law_262 ?_
  refine r_sld hJ (by omega) (by omega) dL_law_263 ?_
  refine r_V3v hJr kL_92 (rcv5 E) cm dL_law_264 ⟨by decide, by decide⟩ (Nat.le_of_ble_eq_true rfl) ?_
  refine r_istore hJr dL_law_267 (jp6 rfl rfl) ?_
  refine r_aload_n hJr dL_law_269 rfl jg2 ?_
  refine r_V0v hJr kL_86 (rcv5 E) (c5_thrown l E S1 _ T1) dL_law_270 ⟨by decide, by decide⟩ (Nat.le_of_ble_eq_true rfl) ?_
  rw [hT]
  refine r_iload hJr dL_law_273 jg5 ?_
  refine r_icmp_eq hJr (tgt := 280) dL_law_275 (by decide) (fun _ => ?_) (fun c => absurd rfl c)
  refine r_iload hJr dL_law_280 jg5 ?_
  refine r_if_ne hJr (tgt := 297) dL_law_282 (by decide) (fun _ => ?_) (fun c => ?_)
  · refine r_goto hJr (tgt := 1491) dL_law_297 (by decide) ?_
    exact hK _ _ _ _ _ _ _ _ hC hn1 hn2
  have hk : k = 0 := nI_zero (out_le ho) c
  have e1 := hv hk
  have e2 := hb hk
  subst e1
  subst e2
  refine r_aload_n hJr dL_law_285 rfl jg3 ?_
  refine r_iconst hJr (v := nI 0) dL_law_286 (by decide) ?_
  refine r_lald hJr dL_law_287 ?_
  refine r_iload hJr dL_law_288 jg6 ?_
  refine r_i2l hJr dL_law_290 rfl ?_
  refine r_lcmp hJr dL_law_291 ?_
  rw [lg_cmp_self]
  refine r_if_eq hJr (tgt := 297) dL_law_292 (by decide) (fun _ => ?_) (fun c => absurd rfl c)
  refine r_goto hJr (tgt := 1491) dL_law_297 (by decide) ?_
  exact hK _ _ _ _ _ _ _ _ hC hn1 hn2
theorem q_wish (hJ : jRX l E RL cL_law 9 12 0 512 b Ls xs J) (hst : l.stackTraces = false) (hc : COUP S K C) (hi : 4 * i + 3 < Ls) (hL : Ls ≤ 5000) (hn : n + 1 ≤ 512) (hK : lawK E J b i n C) (a5 a6 a7 a8 : Option Value) : J (S, (K, (o, n))) 300 (lawL E b i a5 a6 a7 a8) [] := by
  have hJr := hJ.r
  obtain ⟨k, v, S1, K1, ho, hm⟩ := p_wish (E := E) (y := (o, n)) hst hc (xs (4 * i + 1)) (xs (4 * i + 2)) (xs (4 * i + 3))
  obtain ⟨o', n', hn1, hn2, hv, ct⟩ := w_wish ho
  obtain ⟨b1, T1, cm, hT, hb, hC⟩ := hm (o', n')
  refine r_aload_n hJr dL_law_300 rfl jg1 ?_
  refine r_aload_n hJr dL_law_301 rfl jg0 ?_
  refine r_iload hJr dL_law_302 jg4 ?_
  refine r_iconst hJr (v := nI 1) dL_law_304 (by decide) ?_
  refine r_iaddN hJr dL_law_305 ?_
  refine r_sld hJ (by omega) (by omega) dL_law_306 ?_
  refine r_aload_n hJr dL_law_307 rfl jg0 ?_
  refine r_iload hJr dL_law_308 jg4 ?_
  refine r_iconst hJr (v := nI 2) dL_law_310 (by decide) ?_
  refine r_iaddN hJr dL_law_311 ?_
  refine r_sld hJ (by omega) (by omega) dL_law_312 ?_
  refine r_aload_n hJr dL_law_313 rfl jg0 ?_
  refine r_iload hJr dL_law_314 jg4 ?_
  refine r_iconst hJr (v := nI 3) dL_law_316 (by decide) ?_
  refine r_iaddN hJr dL_law_317 ?_
  refine r_sld hJ (by omega) (by omega) dL_law_318 ?_
  refine r_aload_n hJr dL_law_319 rfl jg3 ?_
  refine r_H5 hJr kLH_93 ct dL_law_320 ⟨by decide, by decide⟩ (Nat.le_of_ble_eq_true rfl) (by show n ≤ 0 + 512 → n' ≤ 0 + 512; omega) ?_
  refine r_istore hJr dL_law_323 (jp5 rfl rfl) ?_
  refine r_aload_n hJr dL_law_325 rfl jg2 ?_
  refine r_aload_n hJr dL_law_326 rfl jg0 ?_
  refine r_iload hJr dL_law_327 jg4 ?_
  refine r_iconst hJr (v := nI 1) dL_law_329 (by decide) ?_
  refine r_iaddN hJr dL_law_330 ?_
  refine r_sld hJ (by omega) (by omega) dL_law_331 ?_
  refine r_aload_n hJr dL_law_332 rfl jg0 ?_
  refine r_iload hJr dL_law_333 jg4 ?_
  refine r_iconst hJr (v := nI 2) dL_law_335 (by decide) ?_
  refine r_iaddN hJr dL_law_336 ?_
  refine r_sld hJ (by omega) (by omega) dL_law_337 ?_
  refine r_aload_n hJr dL_law_338 rfl jg0 ?_
  refine r_iload hJr dL_law_339 jg4 ?_
  refine r_iconst hJr (v := nI 3) dL_law_341 (by decide) ?_
  refine r_iaddN hJr dL_law_342 ?_
  refine r_sld hJ (by omega) (by omega) dL_law_343 ?_
  refine r_V3v hJr kL_95 (rcv5 E) cm dL_law_344 ⟨by decide, by decide⟩ (Nat.le_of_ble_eq_true rfl) ?_
  refine r_istore hJr dL_law_347 (jp6 rfl rfl) ?_
  refine r_aload_n hJr dL_law_349 rfl jg2 ?_
  refine r_V0v hJr kL_86 (rcv5 E) (c5_thrown l E S1 _ T1) dL_law_350 ⟨by decide, by decide⟩ (Nat.le_of_ble_eq_true rfl) ?_
  rw [hT]
  refine r_iload hJr dL_law_353 jg5 ?_
  refine r_icmp_eq hJr (tgt := 360) dL_law_355 (by decide) (fun _ => ?_) (fun c => absurd rfl c)
  refine r_iload hJr dL_law_360 jg5 ?_
  refine r_if_ne hJr (tgt := 377) dL_law_362 (by decide) (fun _ => ?_) (fun c => ?_)
  · refine r_goto hJr (tgt := 1491) dL_law_377 (by decide) ?_
    exact hK _ _ _ _ _ _ _ _ hC hn1 hn2
  have hk : k = 0 := nI_zero (out_le ho) c
  have e1 := hv hk
  have e2 := hb hk
  subst e1
  subst e2
  refine r_aload_n hJr dL_law_365 rfl jg3 ?_
  refine r_iconst hJr (v := nI 0) dL_law_366 (by decide) ?_
  refine r_lald hJr dL_law_367 ?_
  refine r_iload hJr dL_law_368 jg6 ?_
  refine r_i2l hJr dL_law_370 rfl ?_
  refine r_lcmp hJr dL_law_371 ?_
  rw [lg_cmp_self]
  refine r_if_eq hJr (tgt := 377) dL_law_372 (by decide) (fun _ => ?_) (fun c => absurd rfl c)
  refine r_goto hJr (tgt := 1491) dL_law_377 (by decide) ?_
  exact hK _ _ _ _ _ _ _ _ hC hn1 hn2
theorem q_unwish (hJ : jRX l E RL cL_law 9 12 0 512 b Ls xs J) (hst : l.stackTraces = false) (hc : COUP S K C) (hi : 4 * i + 3 < Ls) (hL : Ls ≤ 5000) (hn : n + 1 ≤ 512) (hK : lawK E J b i n C) (a5 a6 a7 a8 : Option Value) : J (S, (K, (o, n))) 380 (lawL E b i a5 a6 a7 a8) [] := by
  have hJr := hJ.r
  obtain ⟨k, v, S1, K1, ho, hm⟩ := p_unwish (E := E) (y := (o, n)) hst hc (xs (4 * i + 1)) (xs (4 * i + 2))
  obtain ⟨o', n', hn1, hn2, hv, ct⟩ := w_unwish ho
  obtain ⟨b1, T1, cm, hT, hb, hC⟩ := hm (o', n')
  refine r_aload_n hJr dL_law_380 rfl jg1 ?_
  refine r_aload_n hJr dL_law_381 rfl jg0 ?_
  refine r_iload hJr dL_law_382 jg4 ?_
  refine r_iconst hJr (v := nI 1) dL_law_384 (by decide) ?_
  refine r_iaddN hJr dL_law_385 ?_
  refine r_sld hJ (by omega) (by omega) dL_law_386 ?_
  refine r_aload_n hJr dL_law_387 rfl jg0 ?_
  refine r_iload hJr dL_law_388 jg4 ?_
  refine r_iconst hJr (v := nI 2) dL_law_390 (by decide) ?_
  refine r_iaddN hJr dL_law_391 ?_
  refine r_sld hJ (by omega) (by omega) dL_law_392 ?_
  refine r_aload_n hJr dL_law_393 rfl jg3 ?_
  refine r_H4 hJr kLH_96 ct dL_law_394 ⟨by decide, by decide⟩ (Nat.le_of_ble_eq_true rfl) (by show n ≤ 0 + 512 → n' ≤ 0 + 512; omega) ?_
  refine r_istore hJr dL_law_397 (jp5 rfl rfl) ?_
  refine r_aload_n hJr dL_law_399 rfl jg2 ?_
  refine r_aload_n hJr dL_law_400 rfl jg0 ?_
  refine r_iload hJr dL_law_401 jg4 ?_
  refine r_iconst hJr (v := nI 1) dL_law_403 (by decide) ?_
  refine r_iaddN hJr dL_law_404 ?_
  refine r_sld hJ (by omega) (by omega) dL_law_405 ?_
  refine r_aload_n hJr dL_law_406 rfl jg0 ?_
  refine r_iload hJr dL_law_407 jg4 ?_
  refine r_iconst hJr (v := nI 2) dL_law_409 (by decide) ?_
  refine r_iaddN hJr dL_law_410 ?_
  refine r_sld hJ (by omega) (by omega) dL_law_411 ?_
  refine r_V2v hJr kL_98 (rcv5 E) cm dL_law_412 ⟨by decide, by decide⟩ (Nat.le_of_ble_eq_true rfl) ?_
  refine r_istore hJr dL_law_415 (jp6 rfl rfl) ?_
  refine r_aload_n hJr dL_law_417 rfl jg2 ?_
  refine r_V0v hJr kL_86 (rcv5 E) (c5_thrown l E S1 _ T1) dL_law_418 ⟨by decide, by decide⟩ (Nat.le_of_ble_eq_true rfl) ?_
  rw [hT]
  refine r_iload hJr dL_law_421 jg5 ?_
  refine r_icmp_eq hJr (tgt := 428) dL_law_423 (by decide) (fun _ => ?_) (fun c => absurd rfl c)
  refine r_iload hJr dL_law_428 jg5 ?_
  refine r_if_ne hJr (tgt := 445) dL_law_430 (by decide) (fun _ => ?_) (fun c => ?_)
  · refine r_goto hJr (tgt := 1491) dL_law_445 (by decide) ?_
    exact hK _ _ _ _ _ _ _ _ hC hn1 hn2
  have hk : k = 0 := nI_zero (out_le ho) c
  have e1 := hv hk
  have e2 := hb hk
  subst e1
  subst e2
  refine r_aload_n hJr dL_law_433 rfl jg3 ?_
  refine r_iconst hJr (v := nI 0) dL_law_434 (by decide) ?_
  refine r_lald hJr dL_law_435 ?_
  refine r_iload hJr dL_law_436 jg6 ?_
  refine r_i2l hJr dL_law_438 rfl ?_
  refine r_lcmp hJr dL_law_439 ?_
  rw [lg_cmp_self]
  refine r_if_eq hJr (tgt := 445) dL_law_440 (by decide) (fun _ => ?_) (fun c => absurd rfl c)
  refine r_goto hJr (tgt := 1491) dL_law_445 (by decide) ?_
  exact hK _ _ _ _ _ _ _ _ hC hn1 hn2
theorem q_renew (hJ : jRX l E RL cL_law 9 12 0 512 b Ls xs J) (hst : l.stackTraces = false) (hc : COUP S K C) (hi : 4 * i + 3 < Ls) (hL : Ls ≤ 5000) (hn : n + 1 ≤ 512) (hK : lawK E J b i n C) (a5 a6 a7 a8 : Option Value) : J (S, (K, (o, n))) 448 (lawL E b i a5 a6 a7 a8) [] := by
  have hJr := hJ.r
  obtain ⟨k, v, S1, K1, ho, hm⟩ := p_renew (E := E) (y := (o, n)) hst hc (xs (4 * i + 1)) (xs (4 * i + 2)) (xs (4 * i + 3))
  obtain ⟨o', n', hn1, hn2, hv, ct⟩ := w_renew ho
  obtain ⟨b1, T1, cm, hT, hb, hC⟩ := hm (o', n')
  refine r_aload_n hJr dL_law_448 rfl jg1 ?_
  refine r_aload_n hJr dL_law_449 rfl jg0 ?_
  refine r_iload hJr dL_law_450 jg4 ?_
  refine r_iconst hJr (v := nI 1) dL_law_452 (by decide) ?_
  refine r_iaddN hJr dL_law_453 ?_
  refine r_sld hJ (by omega) (by omega) dL_law_454 ?_
  refine r_aload_n hJr dL_law_455 rfl jg0 ?_
  refine r_iload hJr dL_law_456 jg4 ?_
  refine r_iconst hJr (v := nI 2) dL_law_458 (by decide) ?_
  refine r_iaddN hJr dL_law_459 ?_
  refine r_sld hJ (by omega) (by omega) dL_law_460 ?_
  refine r_aload_n hJr dL_law_461 rfl jg0 ?_
  refine r_iload hJr dL_law_462 jg4 ?_
  refine r_iconst hJr (v := nI 3) dL_law_464 (by decide) ?_
  refine r_iaddN hJr dL_law_465 ?_
  refine r_sld hJ (by omega) (by omega) dL_law_466 ?_
  refine r_aload_n hJr dL_law_467 rfl jg3 ?_
  refine r_H5 hJr kLH_99 ct dL_law_468 ⟨by decide, by decide⟩ (Nat.le_of_ble_eq_true rfl) (by show n ≤ 0 + 512 → n' ≤ 0 + 512; omega) ?_
  refine r_istore hJr dL_law_471 (jp5 rfl rfl) ?_
  refine r_aload_n hJr dL_law_473 rfl jg2 ?_
  refine r_aload_n hJr dL_law_474 rfl jg0 ?_
  refine r_iload hJr dL_law_475 jg4 ?_
  refine r_iconst hJr (v := nI 1) dL_law_477 (by decide) ?_
  refine r_iaddN hJr dL_law_478 ?_
  refine r_sld hJ (by omega) (by omega) dL_law_479 ?_
  refine r_aload_n hJr dL_law_480 rfl jg0 ?_
  refine r_iload hJr dL_law_481 jg4 ?_
  refine r_iconst hJr (v := nI 2) dL_law_483 (by decide) ?_
  refine r_iaddN hJr dL_law_484 ?_
  refine r_sld hJ (by omega) (by omega) dL_law_485 ?_
  refine r_aload_n hJr dL_law_486 rfl jg0 ?_
  refine r_iload hJr dL_law_487 jg4 ?_
  refine r_iconst hJr (v := nI 3) dL_law_489 (by decide) ?_
  refine r_iaddN hJr dL_law_490 ?_
  refine r_sld hJ (by omega) (by omega) dL_law_491 ?_
  refine r_V3v hJr kL_101 (rcv5 E) cm dL_law_492 ⟨by decide, by decide⟩ (Nat.le_of_ble_eq_true rfl) ?_
  refine r_istore hJr dL_law_495 (jp6 rfl rfl) ?_
  refine r_aload_n hJr dL_law_497 rfl jg2 ?_
  refine r_V0v hJr kL_86 (rcv5 E) (c5_thrown l E S1 _ T1) dL_law_498 ⟨by decide, by decide⟩ (Nat.le_of_ble_eq_true rfl) ?_
  rw [hT]
  refine r_iload hJr dL_law_501 jg5 ?_
  refine r_icmp_eq hJr (tgt := 508) dL_law_503 (by decide) (fun _ => ?_) (fun c => absurd rfl c)
  refine r_iload hJr dL_law_508 jg5 ?_
  refine r_if_ne hJr (tgt := 525) dL_law_510 (by decide) (fun _ => ?_) (fun c => ?_)
  · refine r_goto hJr (tgt := 1491) dL_law_525 (by decide) ?_
    exact hK _ _ _ _ _ _ _ _ hC hn1 hn2
  have hk : k = 0 := nI_zero (out_le ho) c
  have e1 := hv hk
  have e2 := hb hk
  subst e1
  subst e2
  refine r_aload_n hJr dL_law_513 rfl jg3 ?_
  refine r_iconst hJr (v := nI 0) dL_law_514 (by decide) ?_
  refine r_lald hJr dL_law_515 ?_
  refine r_iload hJr dL_law_516 jg6 ?_
  refine r_i2l hJr dL_law_518 rfl ?_
  refine r_lcmp hJr dL_law_519 ?_
  rw [lg_cmp_self]
  refine r_if_eq hJr (tgt := 525) dL_law_520 (by decide) (fun _ => ?_) (fun c => absurd rfl c)
  refine r_goto hJr (tgt := 1491) dL_law_525 (by decide) ?_
  exact hK _ _ _ _ _ _ _ _ hC hn1 hn2
theorem q_giveBack (hJ : jRX l E RL cL_law 9 12 0 512 b Ls xs J) (hst : l.stackTraces = false) (hc : COUP S K C) (hi : 4 * i + 3 < Ls) (hL : Ls ≤ 5000) (hn : n + 1 ≤ 512) (hK : lawK E J b i n C) (a5 a6 a7 a8 : Option Value) : J (S, (K, (o, n))) 528 (lawL E b i a5 a6 a7 a8) [] := by
  have hJr := hJ.r
  obtain ⟨k, v, S1, K1, ho, hm⟩ := p_giveBack (E := E) (y := (o, n)) hst hc (xs (4 * i + 1)) (xs (4 * i + 2)) (xs (4 * i + 3))
  obtain ⟨o', n', hn1, hn2, hv, ct⟩ := w_giveBack ho
  obtain ⟨b1, T1, cm, hT, hb, hC⟩ := hm (o', n')
  refine r_aload_n hJr dL_law_528 rfl jg1 ?_
  refine r_aload_n hJr dL_law_529 rfl jg0 ?_
  refine r_iload hJr dL_law_530 jg4 ?_
  refine r_iconst hJr (v := nI 1) dL_law_532 (by decide) ?_
  refine r_iaddN hJr dL_law_533 ?_
  refine r_sld hJ (by omega) (by omega) dL_law_534 ?_
  refine r_aload_n hJr dL_law_535 rfl jg0 ?_
  refine r_iload hJr dL_law_536 jg4 ?_
  refine r_iconst hJr (v := nI 2) dL_law_538 (by decide) ?_
  refine r_iaddN hJr dL_law_539 ?_
  refine r_sld hJ (by omega) (by omega) dL_law_540 ?_
  refine r_aload_n hJr dL_law_541 rfl jg0 ?_
  refine r_iload hJr dL_law_542 jg4 ?_
  refine r_iconst hJr (v := nI 3) dL_law_544 (by decide) ?_
  refine r_iaddN hJr dL_law_545 ?_
  refine r_sld hJ (by omega) (by omega) dL_law_546 ?_
  refine r_aload_n hJr dL_law_547 rfl jg3 ?_
  refine r_H5 hJr kLH_102 ct dL_law_548 ⟨by decide, by decide⟩ (Nat.le_of_ble_eq_true rfl) (by show n ≤ 0 + 512 → n' ≤ 0 + 512; omega) ?_
  refine r_istore hJr dL_law_551 (jp5 rfl rfl) ?_
  refine r_aload_n hJr dL_law_553 rfl jg2 ?_
  refine r_aload_n hJr dL_law_554 rfl jg0 ?_
  refine r_iload hJr dL_law_555 jg4 ?_
  refine r_iconst hJr (v := nI 1) dL_law_557 (by decide) ?_
  refine r_iaddN hJr dL_law_558 ?_
  refine r_sld hJ (by omega) (by omega) dL_law_559 ?_
  refine r_aload_n hJr dL_law_560 rfl jg0 ?_
  refine r_iload hJr dL_law_561 jg4 ?_
  refine r_iconst hJr (v := nI 2) dL_law_563 (by decide) ?_
  refine r_iaddN hJr dL_law_564 ?_
  refine r_sld hJ (by omega) (by omega) dL_law_565 ?_
  refine r_aload_n hJr dL_law_566 rfl jg0 ?_
  refine r_iload hJr dL_law_567 jg4 ?_
  refine r_iconst hJr (v := nI 3) dL_law_569 (by decide) ?_
  refine r_iaddN hJr dL_law_570 ?_
  refine r_sld hJ (by omega) (by omega) dL_law_571 ?_
  refine r_V3v hJr kL_104 (rcv5 E) cm dL_law_572 ⟨by decide, by decide⟩ (Nat.le_of_ble_eq_true rfl) ?_
  refine r_istore hJr dL_law_575 (jp6 rfl rfl) ?_
  refine r_aload_n hJr dL_law_577 rfl jg2 ?_
  refine r_V0v hJr kL_86 (rcv5 E) (c5_thrown l E S1 _ T1) dL_law_578 ⟨by decide, by decide⟩ (Nat.le_of_ble_eq_true rfl) ?_
  rw [hT]
  refine r_iload hJr dL_law_581 jg5 ?_
  refine r_icmp_eq hJr (tgt := 588) dL_law_583 (by decide) (fun _ => ?_) (fun c => absurd rfl c)
  refine r_iload hJr dL_law_588 jg5 ?_
  refine r_if_ne hJr (tgt := 605) dL_law_590 (by decide) (fun _ => ?_) (fun c => ?_)
  · refine r_goto hJr (tgt := 1491) dL_law_605 (by decide) ?_
    exact hK _ _ _ _ _ _ _ _ hC hn1 hn2
  have hk : k = 0 := nI_zero (out_le ho) c
  have e1 := hv hk
  have e2 := hb hk
  subst e1
  subst e2
  refine r_aload_n hJr dL_law_593 rfl jg3 ?_
  refine r_iconst hJr (v := nI 0) dL_law_594 (by decide) ?_
  refine r_lald hJr dL_law_595 ?_
  refine r_iload hJr dL_law_596 jg6 ?_
  refine r_i2l hJr dL_law_598 rfl ?_
  refine r_lcmp hJr dL_law_599 ?_
  rw [lg_cmp_self]
  refine r_if_eq hJr (tgt := 605) dL_law_600 (by decide) (fun _ => ?_) (fun c => absurd rfl c)
  refine r_goto hJr (tgt := 1491) dL_law_605 (by decide) ?_
  exact hK _ _ _ _ _ _ _ _ hC hn1 hn2
theorem q_pass (hJ : jRX l E RL cL_law 9 12 0 512 b Ls xs J) (hst : l.stackTraces = false) (hc : COUP S K C) (hi : 4 * i + 3 < Ls) (hL : Ls ≤ 5000) (hn : n + 1 ≤ 512) (hK : lawK E J b i n C) (a5 a6 a7 a8 : Option Value) : J (S, (K, (o, n))) 608 (lawL E b i a5 a6 a7 a8) [] := by
  have hJr := hJ.r
  obtain ⟨k, v, S1, K1, ho, hm⟩ := p_pass (E := E) (y := (o, n)) hst hc (xs (4 * i + 1))
  obtain ⟨o', n', hn1, hn2, hv, ct⟩ := w_pass ho
  obtain ⟨b1, T1, cm, hT, hb, hC⟩ := hm (o', n')
  refine r_aload_n hJr dL_law_608 rfl jg1 ?_
  refine r_aload_n hJr dL_law_609 rfl jg0 ?_
  refine r_iload hJr dL_law_610 jg4 ?_
  refine r_iconst hJr (v := nI 1) dL_law_612 (by decide) ?_
  refine r_iaddN hJr dL_law_613 ?_
  refine r_sld hJ (by omega) (by omega) dL_law_614 ?_
  refine r_aload_n hJr dL_law_615 rfl jg3 ?_
  refine r_H3 hJr kLH_105 ct dL_law_616 ⟨by decide, by decide⟩ (Nat.le_of_ble_eq_true rfl) (by show n ≤ 0 + 512 → n' ≤ 0 + 512; omega) ?_
  refine r_istore hJr dL_law_619 (jp5 rfl rfl) ?_
  refine r_aload_n hJr dL_law_621 rfl jg2 ?_
  refine r_aload_n hJr dL_law_622 rfl jg0 ?_
  refine r_iload hJr dL_law_623 jg4 ?_
  refine r_iconst hJr (v := nI 1) dL_law_625 (by decide) ?_
  refine r_iaddN hJr dL_law_626 ?_
  refine r_sld hJ (by omega) (by omega) dL_law_627 ?_
  refine r_V1v hJr kL_108 (rcv5 E) cm dL_law_628 ⟨by decide, by decide⟩ (Nat.le_of_ble_eq_true rfl) ?_
  refine r_istore hJr dL_law_631 (jp6 rfl rfl) ?_
  refine r_aload_n hJr dL_law_633 rfl jg2 ?_
  refine r_V0v hJr kL_86 (rcv5 E) (c5_thrown l E S1 _ T1) dL_law_634 ⟨by decide, by decide⟩ (Nat.le_of_ble_eq_true rfl) ?_
  rw [hT]
  refine r_iload hJr dL_law_637 jg5 ?_
  refine r_icmp_eq hJr (tgt := 644) dL_law_639 (by decide) (fun _ => ?_) (fun c => absurd rfl c)
  refine r_iload hJr dL_law_644 jg5 ?_
  refine r_if_ne hJr (tgt := 661) dL_law_646 (by decide) (fun _ => ?_) (fun c => ?_)
  · refine r_goto hJr (tgt := 1491) dL_law_661 (by decide) ?_
    exact hK _ _ _ _ _ _ _ _ hC hn1 hn2
  have hk : k = 0 := nI_zero (out_le ho) c
  have e1 := hv hk
  have e2 := hb hk
  subst e1
  subst e2
  refine r_aload_n hJr dL_law_649 rfl jg3 ?_
  refine r_iconst hJr (v := nI 0) dL_law_650 (by decide) ?_
  refine r_lald hJr dL_law_651 ?_
  refine r_iload hJr dL_law_652 jg6 ?_
  refine r_i2l hJr dL_law_654 rfl ?_
  refine r_lcmp hJr dL_law_655 ?_
  rw [lg_cmp_self]
  refine r_if_eq hJr (tgt := 661) dL_law_656 (by decide) (fun _ => ?_) (fun c => absurd rfl c)
  refine r_goto hJr (tgt := 1491) dL_law_661 (by decide) ?_
  exact hK _ _ _ _ _ _ _ _ hC hn1 hn2
theorem q_set (hJ : jRX l E RL cL_law 9 12 0 512 b Ls xs J) (hst : l.stackTraces = false) (hc : COUP S K C) (hi : 4 * i + 3 < Ls) (hL : Ls ≤ 5000) (hn : n + 1 ≤ 512) (hK : lawK E J b i n C) (a5 a6 a7 a8 : Option Value) : J (S, (K, (o, n))) 664 (lawL E b i a5 a6 a7 a8) [] := by
  have hJr := hJ.r
  obtain ⟨k, v, S1, K1, ho, hm⟩ := p_set (E := E) (y := (o, n)) hst hc (xs (4 * i + 1)) (xs (4 * i + 2))
  obtain ⟨o', n', hn1, hn2, hv, ct⟩ := w_set ho
  obtain ⟨b1, T1, cm, hT, hb, hC⟩ := hm (o', n')
  refine r_aload_n hJr dL_law_664 rfl jg1 ?_
  refine r_aload_n hJr dL_law_665 rfl jg0 ?_
  refine r_iload hJr dL_law_666 jg4 ?_
  refine r_iconst hJr (v := nI 1) dL_law_668 (by decide) ?_
  refine r_iaddN hJr dL_law_669 ?_
  refine r_sld hJ (by omega) (by omega) dL_law_670 ?_
  refine r_aload_n hJr dL_law_671 rfl jg0 ?_
  refine r_iload hJr dL_law_672 jg4 ?_
  refine r_iconst hJr (v := nI 2) dL_law_674 (by decide) ?_
  refine r_iaddN hJr dL_law_675 ?_
  refine r_sld hJ (by omega) (by omega) dL_law_676 ?_
  refine r_aload_n hJr dL_law_677 rfl jg3 ?_
  refine r_H4 hJr kLH_109 ct dL_law_678 ⟨by decide, by decide⟩ (Nat.le_of_ble_eq_true rfl) (by show n ≤ 0 + 512 → n' ≤ 0 + 512; omega) ?_
  refine r_istore hJr dL_law_681 (jp5 rfl rfl) ?_
  refine r_aload_n hJr dL_law_683 rfl jg2 ?_
  refine r_aload_n hJr dL_law_684 rfl jg0 ?_
  refine r_iload hJr dL_law_685 jg4 ?_
  refine r_iconst hJr (v := nI 1) dL_law_687 (by decide) ?_
  refine r_iaddN hJr dL_law_688 ?_
  refine r_sld hJ (by omega) (by omega) dL_law_689 ?_
  refine r_aload_n hJr dL_law_690 rfl jg0 ?_
  refine r_iload hJr dL_law_691 jg4 ?_
  refine r_iconst hJr (v := nI 2) dL_law_693 (by decide) ?_
  refine r_iaddN hJr dL_law_694 ?_
  refine r_sld hJ (by omega) (by omega) dL_law_695 ?_
  refine r_V2v hJr kL_111 (rcv5 E) cm dL_law_696 ⟨by decide, by decide⟩ (Nat.le_of_ble_eq_true rfl) ?_
  refine r_istore hJr dL_law_699 (jp6 rfl rfl) ?_
  refine r_aload_n hJr dL_law_701 rfl jg2 ?_
  refine r_V0v hJr kL_86 (rcv5 E) (c5_thrown l E S1 _ T1) dL_law_702 ⟨by decide, by decide⟩ (Nat.le_of_ble_eq_true rfl) ?_
  rw [hT]
  refine r_iload hJr dL_law_705 jg5 ?_
  refine r_icmp_eq hJr (tgt := 712) dL_law_707 (by decide) (fun _ => ?_) (fun c => absurd rfl c)
  refine r_iload hJr dL_law_712 jg5 ?_
  refine r_if_ne hJr (tgt := 729) dL_law_714 (by decide) (fun _ => ?_) (fun c => ?_)
  · refine r_goto hJr (tgt := 1491) dL_law_729 (by decide) ?_
    exact hK _ _ _ _ _ _ _ _ hC hn1 hn2
  have hk : k = 0 := nI_zero (out_le ho) c
  have e1 := hv hk
  have e2 := hb hk
  subst e1
  subst e2
  refine r_aload_n hJr dL_law_717 rfl jg3 ?_
  refine r_iconst hJr (v := nI 0) dL_law_718 (by decide) ?_
  refine r_lald hJr dL_law_719 ?_
  refine r_iload hJr dL_law_720 jg6 ?_
  refine r_i2l hJr dL_law_722 rfl ?_
  refine r_lcmp hJr dL_law_723 ?_
  rw [lg_cmp_self]
  refine r_if_eq hJr (tgt := 729) dL_law_724 (by decide) (fun _ => ?_) (fun c => absurd rfl c)
  refine r_goto hJr (tgt := 1491) dL_law_729 (by decide) ?_
  exact hK _ _ _ _ _ _ _ _ hC hn1 hn2
theorem q_append (hJ : jRX l E RL cL_law 9 12 0 512 b Ls xs J) (hst : l.stackTraces = false) (hc : COUP S K C) (hi : 4 * i + 3 < Ls) (hL : Ls ≤ 5000) (hn : n + 1 ≤ 512) (hK : lawK E J b i n C) (a5 a6 a7 a8 : Option Value) : J (S, (K, (o, n))) 732 (lawL E b i a5 a6 a7 a8) [] := by
  have hJr := hJ.r
  obtain ⟨k, v, S1, K1, ho, hm⟩ := p_append (E := E) (y := (o, n)) hst hc (xs (4 * i + 1))
  obtain ⟨o', n', hn1, hn2, hv, ct⟩ := w_append ho
  obtain ⟨b1, T1, cm, hT, hb, hC⟩ := hm (o', n')
  refine r_aload_n hJr dL_law_732 rfl jg1 ?_
  refine r_aload_n hJr dL_law_733 rfl jg0 ?_
  refine r_iload hJr dL_law_734 jg4 ?_
  refine r_iconst hJr (v := nI 1) dL_law_736 (by decide) ?_
  refine r_iaddN hJr dL_law_737 ?_
  refine r_sld hJ (by omega) (by omega) dL_law_738 ?_
  refine r_aload_n hJr dL_law_739 rfl jg3 ?_
  refine r_H3 hJr kLH_112 ct dL_law_740 ⟨by decide, by decide⟩ (Nat.le_of_ble_eq_true rfl) (by show n ≤ 0 + 512 → n' ≤ 0 + 512; omega) ?_
  refine r_istore hJr dL_law_743 (jp5 rfl rfl) ?_
  refine r_aload_n hJr dL_law_745 rfl jg2 ?_
  refine r_aload_n hJr dL_law_746 rfl jg0 ?_
  refine r_iload hJr dL_law_747 jg4 ?_
  refine r_iconst hJr (v := nI 1) dL_law_749 (by decide) ?_
  refine r_iaddN hJr dL_law_750 ?_
  refine r_sld hJ (by omega) (by omega) dL_law_751 ?_
  refine r_V1v hJr kL_114 (rcv5 E) cm dL_law_752 ⟨by decide, by decide⟩ (Nat.le_of_ble_eq_true rfl) ?_
  refine r_istore hJr dL_law_755 (jp6 rfl rfl) ?_
  refine r_aload_n hJr dL_law_757 rfl jg2 ?_
  refine r_V0v hJr kL_86 (rcv5 E) (c5_thrown l E S1 _ T1) dL_law_758 ⟨by decide, by decide⟩ (Nat.le_of_ble_eq_true rfl) ?_
  rw [hT]
  refine r_iload hJr dL_law_761 jg5 ?_
  refine r_icmp_eq hJr (tgt := 768) dL_law_763 (by decide) (fun _ => ?_) (fun c => absurd rfl c)
  refine r_iload hJr dL_law_768 jg5 ?_
  refine r_if_ne hJr (tgt := 785) dL_law_770 (by decide) (fun _ => ?_) (fun c => ?_)
  · refine r_goto hJr (tgt := 1491) dL_law_785 (by decide) ?_
    exact hK _ _ _ _ _ _ _ _ hC hn1 hn2
  have hk : k = 0 := nI_zero (out_le ho) c
  have e1 := hv hk
  have e2 := hb hk
  subst e1
  subst e2
  refine r_aload_n hJr dL_law_773 rfl jg3 ?_
  refine r_iconst hJr (v := nI 0) dL_law_774 (by decide) ?_
  refine r_lald hJr dL_law_775 ?_
  refine r_iload hJr dL_law_776 jg6 ?_
  refine r_i2l hJr dL_law_778 rfl ?_
  refine r_lcmp hJr dL_law_779 ?_
  rw [lg_cmp_self]
  refine r_if_eq hJr (tgt := 785) dL_law_780 (by decide) (fun _ => ?_) (fun c => absurd rfl c)
  refine r_goto hJr (tgt := 1491) dL_law_785 (by decide) ?_
  exact hK _ _ _ _ _ _ _ _ hC hn1 hn2
theorem q_clearBuffer (hJ : jRX l E RL cL_law 9 12 0 512 b Ls xs J) (hc : COUP S K C) (hn : n + 1 ≤ 512) (hK : lawK E J b i n C) (a5 a6 a7 a8 : Option Value) : J (S, (K, (o, n))) 788 (lawL E b i a5 a6 a7 a8) [] := by
  have hJr := hJ.r
  obtain ⟨v, S1, T1, ⟨r, rfl⟩, c4, c5, hC⟩ := p_clearBuffer (E := E) (y := (o, n)) hc
  refine r_aload_n hJr dL_law_788 rfl jg1 ?_
  refine r_V0v hJr kL_115 (rcv4 E) c4 dL_law_789 ⟨by decide, by decide⟩ (Nat.le_of_ble_eq_true rfl) ?_
  refine r_aload_n hJr dL_law_792 rfl jg2 ?_
  refine r_V0v hJr kL_118 (rcv5 E) c5 dL_law_793 ⟨by decide, by decide⟩ (Nat.le_of_ble_eq_true rfl) ?_
  refine r_icmp_eq hJr (tgt := 1491) dL_law_796 (by decide) (fun _ => ?_) (fun c => absurd rfl c)
  exact hK _ _ _ _ _ _ _ _ hC (Nat.le_refl _) (Nat.le_succ _)
theorem q_firstError (hJ : jRX l E RL cL_law 9 12 0 512 b Ls xs J) (hc : COUP S K C) (hn : n + 1 ≤ 512) (hK : lawK E J b i n C) (a5 a6 a7 a8 : Option Value) : J (S, (K, (o, n))) 801 (lawL E b i a5 a6 a7 a8) [] := by
  have hJr := hJ.r
  obtain ⟨v, S1, T1, ⟨r, rfl⟩, c4, c5, hC⟩ := p_firstError (E := E) (y := (o, n)) hc
  refine r_aload_n hJr dL_law_801 rfl jg1 ?_
  refine r_V0v hJr kL_119 (rcv4 E) c4 dL_law_802 ⟨by decide, by decide⟩ (Nat.le_of_ble_eq_true rfl) ?_
  refine r_aload_n hJr dL_law_805 rfl jg2 ?_
  refine r_V0v hJr kL_122 (rcv5 E) c5 dL_law_806 ⟨by decide, by decide⟩ (Nat.le_of_ble_eq_true rfl) ?_
  refine r_icmp_eq hJr (tgt := 1491) dL_law_809 (by decide) (fun _ => ?_) (fun c => absurd rfl c)
  exact hK _ _ _ _ _ _ _ _ hC (Nat.le_refl _) (Nat.le_succ _)
theorem q_run (hJ : jRX l E RL cL_law 9 12 0 512 b Ls xs J) (hst : l.stackTraces = false) (hc : COUP S K C) (hn : n + 1 ≤ 512) (hK : lawK E J b i n C) (a5 a6 a7 a8 : Option Value) : J (S, (K, (o, n))) 814 (lawL E b i a5 a6 a7 a8) [] := by
  have hJr := hJ.r
  obtain ⟨k, v, S1, K1, ho, hm⟩ := p_run (E := E) (y := (o, n)) hst hc 
  obtain ⟨o', n', hn1, hn2, hv, ct⟩ := w_run ho
  obtain ⟨b1, T1, cm, hT, hb, hC⟩ := hm (o', n')
  refine r_aload_n hJr dL_law_814 rfl jg1 ?_
  refine r_aload_n hJr dL_law_815 rfl jg3 ?_
  refine r_H2 hJr kLH_123 ct dL_law_816 ⟨by decide, by decide⟩ (Nat.le_of_ble_eq_true rfl) (by show n ≤ 0 + 512 → n' ≤ 0 + 512; omega) ?_
  refine r_istore hJr dL_law_819 (jp5 rfl rfl) ?_
  refine r_aload_n hJr dL_law_821 rfl jg2 ?_
  refine r_V0v hJr kL_126 (rcv5 E) cm dL_law_822 ⟨by decide, by decide⟩ (Nat.le_of_ble_eq_true rfl) ?_
  refine r_istore hJr dL_law_825 (jp6 rfl rfl) ?_
  refine r_aload_n hJr dL_law_827 rfl jg2 ?_
  refine r_V0v hJr kL_86 (rcv5 E) (c5_thrown l E S1 _ T1) dL_law_828 ⟨by decide, by decide⟩ (Nat.le_of_ble_eq_true rfl) ?_
  rw [hT]
  refine r_iload hJr dL_law_831 jg5 ?_
  refine r_icmp_eq hJr (tgt := 838) dL_law_833 (by decide) (fun _ => ?_) (fun c => absurd rfl c)
  refine r_iload hJr dL_law_838 jg5 ?_
  refine r_if_ne hJr (tgt := 855) dL_law_840 (by decide) (fun _ => ?_) (fun c => ?_)
  · refine r_goto hJr (tgt := 1491) dL_law_855 (by decide) ?_
    exact hK _ _ _ _ _ _ _ _ hC hn1 hn2
  have hk : k = 0 := nI_zero (out_le ho) c
  have e1 := hv hk
  have e2 := hb hk
  subst e1
  subst e2
  refine r_aload_n hJr dL_law_843 rfl jg3 ?_
  refine r_iconst hJr (v := nI 0) dL_law_844 (by decide) ?_
  refine r_lald hJr dL_law_845 ?_
  refine r_iload hJr dL_law_846 jg6 ?_
  refine r_i2l hJr dL_law_848 rfl ?_
  refine r_lcmp hJr dL_law_849 ?_
  rw [lg_cmp_self]
  refine r_if_eq hJr (tgt := 855) dL_law_850 (by decide) (fun _ => ?_) (fun c => absurd rfl c)
  refine r_goto hJr (tgt := 1491) dL_law_855 (by decide) ?_
  exact hK _ _ _ _ _ _ _ _ hC hn1 hn2
theorem q_undo (hJ : jRX l E RL cL_law 9 12 0 512 b Ls xs J) (hst : l.stackTraces = false) (hc : COUP S K C) (hn : n + 1 ≤ 512) (hK : lawK E J b i n C) (a5 a6 a7 a8 : Option Value) : J (S, (K, (o, n))) 858 (lawL E b i a5 a6 a7 a8) [] := by
  have hJr := hJ.r
  obtain ⟨k, v, S1, K1, ho, hm⟩ := p_undo (E := E) (y := (o, n)) hst hc 
  obtain ⟨o', n', hn1, hn2, hv, ct⟩ := w_undo ho
  obtain ⟨b1, T1, cm, hT, hb, hC⟩ := hm (o', n')
  refine r_aload_n hJr dL_law_858 rfl jg1 ?_
  refine r_aload_n hJr dL_law_859 rfl jg3 ?_
  refine r_H2 hJr kLH_127 ct dL_law_860 ⟨by decide, by decide⟩ (Nat.le_of_ble_eq_true rfl) (by show n ≤ 0 + 512 → n' ≤ 0 + 512; omega) ?_
  refine r_istore hJr dL_law_863 (jp5 rfl rfl) ?_
  refine r_aload_n hJr dL_law_865 rfl jg2 ?_
  refine r_V0v hJr kL_129 (rcv5 E) cm dL_law_866 ⟨by decide, by decide⟩ (Nat.le_of_ble_eq_true rfl) ?_
  refine r_istore hJr dL_law_869 (jp6 rfl rfl) ?_
  refine r_aload_n hJr dL_law_871 rfl jg2 ?_
  refine r_V0v hJr kL_86 (rcv5 E) (c5_thrown l E S1 _ T1) dL_law_872 ⟨by decide, by decide⟩ (Nat.le_of_ble_eq_true rfl) ?_
  rw [hT]
  refine r_iload hJr dL_law_875 jg5 ?_
  refine r_icmp_eq hJr (tgt := 882) dL_law_877 (by decide) (fun _ => ?_) (fun c => absurd rfl c)
  refine r_iload hJr dL_law_882 jg5 ?_
  refine r_if_ne hJr (tgt := 899) dL_law_884 (by decide) (fun _ => ?_) (fun c => ?_)
  · refine r_goto hJr (tgt := 1491) dL_law_899 (by decide) ?_
    exact hK _ _ _ _ _ _ _ _ hC hn1 hn2
  have hk : k = 0 := nI_zero (out_le ho) c
  have e1 := hv hk
  have e2 := hb hk
  subst e1
  subst e2
  refine r_aload_n hJr dL_law_887 rfl jg3 ?_
  refine r_iconst hJr (v := nI 0) dL_law_888 (by decide) ?_
  refine r_lald hJr dL_law_889 ?_
  refine r_iload hJr dL_law_890 jg6 ?_
  refine r_i2l hJr dL_law_892 rfl ?_
  refine r_lcmp hJr dL_law_893 ?_
  rw [lg_cmp_self]
  refine r_if_eq hJr (tgt := 899) dL_law_894 (by decide) (fun _ => ?_) (fun c => absurd rfl c)
  refine r_goto hJr (tgt := 1491) dL_law_899 (by decide) ?_
  exact hK _ _ _ _ _ _ _ _ hC hn1 hn2
theorem q_number (hJ : jRX l E RL cL_law 9 12 0 512 b Ls xs J) (hst : l.stackTraces = false) (hc : COUP S K C) (hi : 4 * i + 3 < Ls) (hL : Ls ≤ 5000) (hn : n + 1 ≤ 512) (hK : lawK E J b i n C) (a5 a6 a7 a8 : Option Value) : J (S, (K, (o, n))) 902 (lawL E b i a5 a6 a7 a8) [] := by
  have hJr := hJ.r
  obtain ⟨k, v, S1, K1, ho, hm⟩ := p_number (E := E) (y := (o, n)) hst hc (xs (4 * i + 1)) (xs (4 * i + 2))
  obtain ⟨o', n', hn1, hn2, hv, ct⟩ := w_number ho
  obtain ⟨b1, T1, cm, hT, hb, hC⟩ := hm (o', n')
  refine r_aload_n hJr dL_law_902 rfl jg1 ?_
  refine r_aload_n hJr dL_law_903 rfl jg0 ?_
  refine r_iload hJr dL_law_904 jg4 ?_
  refine r_iconst hJr (v := nI 1) dL_law_906 (by decide) ?_
  refine r_iaddN hJr dL_law_907 ?_
  refine r_sld hJ (by omega) (by omega) dL_law_908 ?_
  refine r_aload_n hJr dL_law_909 rfl jg0 ?_
  refine r_iload hJr dL_law_910 jg4 ?_
  refine r_iconst hJr (v := nI 2) dL_law_912 (by decide) ?_
  refine r_iaddN hJr dL_law_913 ?_
  refine r_sld hJ (by omega) (by omega) dL_law_914 ?_
  refine r_aload_n hJr dL_law_915 rfl jg3 ?_
  refine r_H4 hJr kLH_130 ct dL_law_916 ⟨by decide, by decide⟩ (Nat.le_of_ble_eq_true rfl) (by show n ≤ 0 + 512 → n' ≤ 0 + 512; omega) ?_
  refine r_istore hJr dL_law_919 (jp5 rfl rfl) ?_
  refine r_aload_n hJr dL_law_921 rfl jg2 ?_
  refine r_aload_n hJr dL_law_922 rfl jg0 ?_
  refine r_iload hJr dL_law_923 jg4 ?_
  refine r_iconst hJr (v := nI 1) dL_law_925 (by decide) ?_
  refine r_iaddN hJr dL_law_926 ?_
  refine r_sld hJ (by omega) (by omega) dL_law_927 ?_
  refine r_aload_n hJr dL_law_928 rfl jg0 ?_
  refine r_iload hJr dL_law_929 jg4 ?_
  refine r_iconst hJr (v := nI 2) dL_law_931 (by decide) ?_
  refine r_iaddN hJr dL_law_932 ?_
  refine r_sld hJ (by omega) (by omega) dL_law_933 ?_
  refine r_V2v hJr kL_132 (rcv5 E) cm dL_law_934 ⟨by decide, by decide⟩ (Nat.le_of_ble_eq_true rfl) ?_
  refine r_istore hJr dL_law_937 (jp6 rfl rfl) ?_
  refine r_aload_n hJr dL_law_939 rfl jg2 ?_
  refine r_V0v hJr kL_86 (rcv5 E) (c5_thrown l E S1 _ T1) dL_law_940 ⟨by decide, by decide⟩ (Nat.le_of_ble_eq_true rfl) ?_
  rw [hT]
  refine r_iload hJr dL_law_943 jg5 ?_
  refine r_icmp_eq hJr (tgt := 950) dL_law_945 (by decide) (fun _ => ?_) (fun c => absurd rfl c)
  refine r_iload hJr dL_law_950 jg5 ?_
  refine r_if_ne hJr (tgt := 967) dL_law_952 (by decide) (fun _ => ?_) (fun c => ?_)
  · refine r_goto hJr (tgt := 1491) dL_law_967 (by decide) ?_
    exact hK _ _ _ _ _ _ _ _ hC hn1 hn2
  have hk : k = 0 := nI_zero (out_le ho) c
  have e1 := hv hk
  have e2 := hb hk
  subst e1
  subst e2
  refine r_aload_n hJr dL_law_955 rfl jg3 ?_
  refine r_iconst hJr (v := nI 0) dL_law_956 (by decide) ?_
  refine r_lald hJr dL_law_957 ?_
  refine r_iload hJr dL_law_958 jg6 ?_
  refine r_i2l hJr dL_law_960 rfl ?_
  refine r_lcmp hJr dL_law_961 ?_
  rw [lg_cmp_self]
  refine r_if_eq hJr (tgt := 967) dL_law_962 (by decide) (fun _ => ?_) (fun c => absurd rfl c)
  refine r_goto hJr (tgt := 1491) dL_law_967 (by decide) ?_
  exact hK _ _ _ _ _ _ _ _ hC hn1 hn2
theorem q_holder (hJ : jRX l E RL cL_law 9 12 0 512 b Ls xs J) (hst : l.stackTraces = false) (hc : COUP S K C) (hi : 4 * i + 3 < Ls) (hL : Ls ≤ 5000) (hn : n + 1 ≤ 512) (hK : lawK E J b i n C) (a5 a6 a7 a8 : Option Value) : J (S, (K, (o, n))) 970 (lawL E b i a5 a6 a7 a8) [] := by
  have hJr := hJ.r
  obtain ⟨k, v, S1, K1, ho, hm⟩ := p_holder (E := E) (y := (o, n)) hst hc (xs (4 * i + 1)) (xs (4 * i + 2))
  obtain ⟨o', n', hn1, hn2, hv, ct⟩ := w_holder ho
  obtain ⟨b1, T1, cm, hT, hb, hC⟩ := hm (o', n')
  refine r_aload_n hJr dL_law_970 rfl jg1 ?_
  refine r_aload_n hJr dL_law_971 rfl jg0 ?_
  refine r_iload hJr dL_law_972 jg4 ?_
  refine r_iconst hJr (v := nI 1) dL_law_974 (by decide) ?_
  refine r_iaddN hJr dL_law_975 ?_
  refine r_sld hJ (by omega) (by omega) dL_law_976 ?_
  refine r_aload_n hJr dL_law_977 rfl jg0 ?_
  refine r_iload hJr dL_law_978 jg4 ?_
  refine r_iconst hJr (v := nI 2) dL_law_980 (by decide) ?_
  refine r_iaddN hJr dL_law_981 ?_
  refine r_sld hJ (by omega) (by omega) dL_law_982 ?_
  refine r_aload_n hJr dL_law_983 rfl jg3 ?_
  refine r_H4 hJr kLH_133 ct dL_law_984 ⟨by decide, by decide⟩ (Nat.le_of_ble_eq_true rfl) (by show n ≤ 0 + 512 → n' ≤ 0 + 512; omega) ?_
  refine r_istore hJr dL_law_987 (jp5 rfl rfl) ?_
  refine r_aload_n hJr dL_law_989 rfl jg2 ?_
  refine r_aload_n hJr dL_law_990 rfl jg0 ?_
  refine r_iload hJr dL_law_991 jg4 ?_
  refine r_iconst hJr (v := nI 1) dL_law_993 (by decide) ?_
  refine r_iaddN hJr dL_law_994 ?_
  refine r_sld hJ (by omega) (by omega) dL_law_995 ?_
  refine r_aload_n hJr dL_law_996 rfl jg0 ?_
  refine r_iload hJr dL_law_997 jg4 ?_
  refine r_iconst hJr (v := nI 2) dL_law_999 (by decide) ?_
  refine r_iaddN hJr dL_law_1000 ?_
  refine r_sld hJ (by omega) (by omega) dL_law_1001 ?_
  refine r_V2v hJr kL_135 (rcv5 E) cm dL_law_1002 ⟨by decide, by decide⟩ (Nat.le_of_ble_eq_true rfl) ?_
  refine r_istore hJr dL_law_1005 (jp6 rfl rfl) ?_
  refine r_aload_n hJr dL_law_1007 rfl jg2 ?_
  refine r_V0v hJr kL_86 (rcv5 E) (c5_thrown l E S1 _ T1) dL_law_1008 ⟨by decide, by decide⟩ (Nat.le_of_ble_eq_true rfl) ?_
  rw [hT]
  refine r_iload hJr dL_law_1011 jg5 ?_
  refine r_icmp_eq hJr (tgt := 1018) dL_law_1013 (by decide) (fun _ => ?_) (fun c => absurd rfl c)
  refine r_iload hJr dL_law_1018 jg5 ?_
  refine r_if_ne hJr (tgt := 1035) dL_law_1020 (by decide) (fun _ => ?_) (fun c => ?_)
  · refine r_goto hJr (tgt := 1491) dL_law_1035 (by decide) ?_
    exact hK _ _ _ _ _ _ _ _ hC hn1 hn2
  have hk : k = 0 := nI_zero (out_le ho) c
  have e1 := hv hk
  have e2 := hb hk
  subst e1
  subst e2
  refine r_aload_n hJr dL_law_1023 rfl jg3 ?_
  refine r_iconst hJr (v := nI 0) dL_law_1024 (by decide) ?_
  refine r_lald hJr dL_law_1025 ?_
  refine r_iload hJr dL_law_1026 jg6 ?_
  refine r_i2l hJr dL_law_1028 rfl ?_
  refine r_lcmp hJr dL_law_1029 ?_
  rw [lg_cmp_self]
  refine r_if_eq hJr (tgt := 1035) dL_law_1030 (by decide) (fun _ => ?_) (fun c => absurd rfl c)
  refine r_goto hJr (tgt := 1491) dL_law_1035 (by decide) ?_
  exact hK _ _ _ _ _ _ _ _ hC hn1 hn2
theorem q_span (hJ : jRX l E RL cL_law 9 12 0 512 b Ls xs J) (hst : l.stackTraces = false) (hc : COUP S K C) (hi : 4 * i + 3 < Ls) (hL : Ls ≤ 5000) (hn : n + 1 ≤ 512) (hK : lawK E J b i n C) (a5 a6 a7 a8 : Option Value) : J (S, (K, (o, n))) 1038 (lawL E b i a5 a6 a7 a8) [] := by
  have hJr := hJ.r
  obtain ⟨k, v, S1, K1, ho, hm⟩ := p_span (E := E) (y := (o, n)) hst hc (xs (4 * i + 1)) (xs (4 * i + 2))
  obtain ⟨o', n', hn1, hn2, hv, ct⟩ := w_span ho
  obtain ⟨b1, T1, cm, hT, hb, hC⟩ := hm (o', n')
  refine r_aload_n hJr dL_law_1038 rfl jg1 ?_
  refine r_aload_n hJr dL_law_1039 rfl jg0 ?_
  refine r_iload hJr dL_law_1040 jg4 ?_
  refine r_iconst hJr (v := nI 1) dL_law_1042 (by decide) ?_
  refine r_iaddN hJr dL_law_1043 ?_
  refine r_sld hJ (by omega) (by omega) dL_law_1044 ?_
  refine r_aload_n hJr dL_law_1045 rfl jg0 ?_
  refine r_iload hJr dL_law_1046 jg4 ?_
  refine r_iconst hJr (v := nI 2) dL_law_1048 (by decide) ?_
  refine r_iaddN hJr dL_law_1049 ?_
  refine r_sld hJ (by omega) (by omega) dL_law_1050 ?_
  refine r_aload_n hJr dL_law_1051 rfl jg3 ?_
  refine r_H4 hJr kLH_136 ct dL_law_1052 ⟨by decide, by decide⟩ (Nat.le_of_ble_eq_true rfl) (by show n ≤ 0 + 512 → n' ≤ 0 + 512; omega) ?_
  refine r_istore hJr dL_law_1055 (jp5 rfl rfl) ?_
  refine r_aload_n hJr dL_law_1057 rfl jg2 ?_
  refine r_aload_n hJr dL_law_1058 rfl jg0 ?_
  refine r_iload hJr dL_law_1059 jg4 ?_
  refine r_iconst hJr (v := nI 1) dL_law_1061 (by decide) ?_
  refine r_iaddN hJr dL_law_1062 ?_
  refine r_sld hJ (by omega) (by omega) dL_law_1063 ?_
  refine r_aload_n hJr dL_law_1064 rfl jg0 ?_
  refine r_iload hJr dL_law_1065 jg4 ?_
  refine r_iconst hJr (v := nI 2) dL_law_1067 (by decide) ?_
  refine r_iaddN hJr dL_law_1068 ?_
  refine r_sld hJ (by omega) (by omega) dL_law_1069 ?_
  refine r_V2v hJr kL_138 (rcv5 E) cm dL_law_1070 ⟨by decide, by decide⟩ (Nat.le_of_ble_eq_true rfl) ?_
  refine r_istore hJr dL_law_1073 (jp6 rfl rfl) ?_
  refine r_aload_n hJr dL_law_1075 rfl jg2 ?_
  refine r_V0v hJr kL_86 (rcv5 E) (c5_thrown l E S1 _ T1) dL_law_1076 ⟨by decide, by decide⟩ (Nat.le_of_ble_eq_true rfl) ?_
  rw [hT]
  refine r_iload hJr dL_law_1079 jg5 ?_
  refine r_icmp_eq hJr (tgt := 1086) dL_law_1081 (by decide) (fun _ => ?_) (fun c => absurd rfl c)
  refine r_iload hJr dL_law_1086 jg5 ?_
  refine r_if_ne hJr (tgt := 1103) dL_law_1088 (by decide) (fun _ => ?_) (fun c => ?_)
  · refine r_goto hJr (tgt := 1491) dL_law_1103 (by decide) ?_
    exact hK _ _ _ _ _ _ _ _ hC hn1 hn2
  have hk : k = 0 := nI_zero (out_le ho) c
  have e1 := hv hk
  have e2 := hb hk
  subst e1
  subst e2
  refine r_aload_n hJr dL_law_1091 rfl jg3 ?_
  refine r_iconst hJr (v := nI 0) dL_law_1092 (by decide) ?_
  refine r_lald hJr dL_law_1093 ?_
  refine r_iload hJr dL_law_1094 jg6 ?_
  refine r_i2l hJr dL_law_1096 rfl ?_
  refine r_lcmp hJr dL_law_1097 ?_
  rw [lg_cmp_self]
  refine r_if_eq hJr (tgt := 1103) dL_law_1098 (by decide) (fun _ => ?_) (fun c => absurd rfl c)
  refine r_goto hJr (tgt := 1491) dL_law_1103 (by decide) ?_
  exact hK _ _ _ _ _ _ _ _ hC hn1 hn2
theorem q_count (hJ : jRX l E RL cL_law 9 12 0 512 b Ls xs J) (hst : l.stackTraces = false) (hc : COUP S K C) (hi : 4 * i + 3 < Ls) (hL : Ls ≤ 5000) (hn : n + 1 ≤ 512) (hK : lawK E J b i n C) (a5 a6 a7 a8 : Option Value) : J (S, (K, (o, n))) 1106 (lawL E b i a5 a6 a7 a8) [] := by
  have hJr := hJ.r
  obtain ⟨k, v, S1, K1, ho, hm⟩ := p_count (E := E) (y := (o, n)) hst hc (xs (4 * i + 1))
  obtain ⟨o', n', hn1, hn2, hv, ct⟩ := w_count ho
  obtain ⟨b1, T1, cm, hT, hb, hC⟩ := hm (o', n')
  refine r_aload_n hJr dL_law_1106 rfl jg1 ?_
  refine r_aload_n hJr dL_law_1107 rfl jg0 ?_
  refine r_iload hJr dL_law_1108 jg4 ?_
  refine r_iconst hJr (v := nI 1) dL_law_1110 (by decide) ?_
  refine r_iaddN hJr dL_law_1111 ?_
  refine r_sld hJ (by omega) (by omega) dL_law_1112 ?_
  refine r_aload_n hJr dL_law_1113 rfl jg3 ?_
  refine r_H3 hJr kLH_139 ct dL_law_1114 ⟨by decide, by decide⟩ (Nat.le_of_ble_eq_true rfl) (by show n ≤ 0 + 512 → n' ≤ 0 + 512; omega) ?_
  refine r_istore hJr dL_law_1117 (jp5 rfl rfl) ?_
  refine r_aload_n hJr dL_law_1119 rfl jg2 ?_
  refine r_aload_n hJr dL_law_1120 rfl jg0 ?_
  refine r_iload hJr dL_law_1121 jg4 ?_
  refine r_iconst hJr (v := nI 1) dL_law_1123 (by decide) ?_
  refine r_iaddN hJr dL_law_1124 ?_
  refine r_sld hJ (by omega) (by omega) dL_law_1125 ?_
  refine r_V1v hJr kL_141 (rcv5 E) cm dL_law_1126 ⟨by decide, by decide⟩ (Nat.le_of_ble_eq_true rfl) ?_
  refine r_istore hJr dL_law_1129 (jp6 rfl rfl) ?_
  refine r_aload_n hJr dL_law_1131 rfl jg2 ?_
  refine r_V0v hJr kL_86 (rcv5 E) (c5_thrown l E S1 _ T1) dL_law_1132 ⟨by decide, by decide⟩ (Nat.le_of_ble_eq_true rfl) ?_
  rw [hT]
  refine r_iload hJr dL_law_1135 jg5 ?_
  refine r_icmp_eq hJr (tgt := 1142) dL_law_1137 (by decide) (fun _ => ?_) (fun c => absurd rfl c)
  refine r_iload hJr dL_law_1142 jg5 ?_
  refine r_if_ne hJr (tgt := 1159) dL_law_1144 (by decide) (fun _ => ?_) (fun c => ?_)
  · refine r_goto hJr (tgt := 1491) dL_law_1159 (by decide) ?_
    exact hK _ _ _ _ _ _ _ _ hC hn1 hn2
  have hk : k = 0 := nI_zero (out_le ho) c
  have e1 := hv hk
  have e2 := hb hk
  subst e1
  subst e2
  refine r_aload_n hJr dL_law_1147 rfl jg3 ?_
  refine r_iconst hJr (v := nI 0) dL_law_1148 (by decide) ?_
  refine r_lald hJr dL_law_1149 ?_
  refine r_iload hJr dL_law_1150 jg6 ?_
  refine r_i2l hJr dL_law_1152 rfl ?_
  refine r_lcmp hJr dL_law_1153 ?_
  rw [lg_cmp_self]
  refine r_if_eq hJr (tgt := 1159) dL_law_1154 (by decide) (fun _ => ?_) (fun c => absurd rfl c)
  refine r_goto hJr (tgt := 1491) dL_law_1159 (by decide) ?_
  exact hK _ _ _ _ _ _ _ _ hC hn1 hn2
theorem q_setting (hJ : jRX l E RL cL_law 9 12 0 512 b Ls xs J) (hst : l.stackTraces = false) (hc : COUP S K C) (hi : 4 * i + 3 < Ls) (hL : Ls ≤ 5000) (hn : n + 1 ≤ 512) (hK : lawK E J b i n C) (a5 a6 a7 a8 : Option Value) : J (S, (K, (o, n))) 1162 (lawL E b i a5 a6 a7 a8) [] := by
  have hJr := hJ.r
  obtain ⟨k, v, S1, K1, ho, hm⟩ := p_setting (E := E) (y := (o, n)) hst hc (xs (4 * i + 1))
  obtain ⟨o', n', hn1, hn2, hv, ct⟩ := w_setting ho
  obtain ⟨b1, T1, cm, hT, hb, hC⟩ := hm (o', n')
  refine r_aload_n hJr dL_law_1162 rfl jg1 ?_
  refine r_aload_n hJr dL_law_1163 rfl jg0 ?_
  refine r_iload hJr dL_law_1164 jg4 ?_
  refine r_iconst hJr (v := nI 1) dL_law_1166 (by decide) ?_
  refine r_iaddN hJr dL_law_1167 ?_
  refine r_sld hJ (by omega) (by omega) dL_law_1168 ?_
  refine r_aload_n hJr dL_law_1169 rfl jg3 ?_
  refine r_H3 hJr kLH_142 ct dL_law_1170 ⟨by decide, by decide⟩ (Nat.le_of_ble_eq_true rfl) (by show n ≤ 0 + 512 → n' ≤ 0 + 512; omega) ?_
  refine r_istore hJr dL_law_1173 (jp5 rfl rfl) ?_
  refine r_aload_n hJr dL_law_1175 rfl jg2 ?_
  refine r_aload_n hJr dL_law_1176 rfl jg0 ?_
  refine r_iload hJr dL_law_1177 jg4 ?_
  refine r_iconst hJr (v := nI 1) dL_law_1179 (by decide) ?_
  refine r_iaddN hJr dL_law_1180 ?_
  refine r_sld hJ (by omega) (by omega) dL_law_1181 ?_
  refine r_V1v hJr kL_144 (rcv5 E) cm dL_law_1182 ⟨by decide, by decide⟩ (Nat.le_of_ble_eq_true rfl) ?_
  refine r_istore hJr dL_law_1185 (jp6 rfl rfl) ?_
  refine r_aload_n hJr dL_law_1187 rfl jg2 ?_
  refine r_V0v hJr kL_86 (rcv5 E) (c5_thrown l E S1 _ T1) dL_law_1188 ⟨by decide, by decide⟩ (Nat.le_of_ble_eq_true rfl) ?_
  rw [hT]
  refine r_iload hJr dL_law_1191 jg5 ?_
  refine r_icmp_eq hJr (tgt := 1198) dL_law_1193 (by decide) (fun _ => ?_) (fun c => absurd rfl c)
  refine r_iload hJr dL_law_1198 jg5 ?_
  refine r_if_ne hJr (tgt := 1215) dL_law_1200 (by decide) (fun _ => ?_) (fun c => ?_)
  · refine r_goto hJr (tgt := 1491) dL_law_1215 (by decide) ?_
    exact hK _ _ _ _ _ _ _ _ hC hn1 hn2
  have hk : k = 0 := nI_zero (out_le ho) c
  have e1 := hv hk
  have e2 := hb hk
  subst e1
  subst e2
  refine r_aload_n hJr dL_law_1203 rfl jg3 ?_
  refine r_iconst hJr (v := nI 0) dL_law_1204 (by decide) ?_
  refine r_lald hJr dL_law_1205 ?_
  refine r_iload hJr dL_law_1206 jg6 ?_
  refine r_i2l hJr dL_law_1208 rfl ?_
  refine r_lcmp hJr dL_law_1209 ?_
  rw [lg_cmp_self]
  refine r_if_eq hJr (tgt := 1215) dL_law_1210 (by decide) (fun _ => ?_) (fun c => absurd rfl c)
  refine r_goto hJr (tgt := 1491) dL_law_1215 (by decide) ?_
  exact hK _ _ _ _ _ _ _ _ hC hn1 hn2
theorem q_whoAfter (hJ : jRX l E RL cL_law 9 12 0 512 b Ls xs J) (hst : l.stackTraces = false) (hc : COUP S K C) (hi : 4 * i + 3 < Ls) (hL : Ls ≤ 5000) (hn : n + 1 ≤ 512) (hK : lawK E J b i n C) (a5 a6 a7 a8 : Option Value) : J (S, (K, (o, n))) 1218 (lawL E b i a5 a6 a7 a8) [] := by
  have hJr := hJ.r
  obtain ⟨k, v, S1, K1, ho, hm⟩ := p_whoAfter (E := E) (y := (o, n)) hst hc (xs (4 * i + 1)) (xs (4 * i + 2))
  obtain ⟨o', n', hn1, hn2, hv, ct⟩ := w_whoAfter ho
  obtain ⟨b1, T1, cm, hT, hb, hC⟩ := hm (o', n')
  refine r_aload_n hJr dL_law_1218 rfl jg1 ?_
  refine r_aload_n hJr dL_law_1219 rfl jg0 ?_
  refine r_iload hJr dL_law_1220 jg4 ?_
  refine r_iconst hJr (v := nI 1) dL_law_1222 (by decide) ?_
  refine r_iaddN hJr dL_law_1223 ?_
  refine r_sld hJ (by omega) (by omega) dL_law_1224 ?_
  refine r_aload_n hJr dL_law_1225 rfl jg0 ?_
  refine r_iload hJr dL_law_1226 jg4 ?_
  refine r_iconst hJr (v := nI 2) dL_law_1228 (by decide) ?_
  refine r_iaddN hJr dL_law_1229 ?_
  refine r_sld hJ (by omega) (by omega) dL_law_1230 ?_
  refine r_aload_n hJr dL_law_1231 rfl jg3 ?_
  refine r_H4 hJr kLH_145 ct dL_law_1232 ⟨by decide, by decide⟩ (Nat.le_of_ble_eq_true rfl) (by show n ≤ 0 + 512 → n' ≤ 0 + 512; omega) ?_
  refine r_istore hJr dL_law_1235 (jp5 rfl rfl) ?_
  refine r_aload_n hJr dL_law_1237 rfl jg2 ?_
  refine r_aload_n hJr dL_law_1238 rfl jg0 ?_
  refine r_iload hJr dL_law_1239 jg4 ?_
  refine r_iconst hJr (v := nI 1) dL_law_1241 (by decide) ?_
  refine r_iaddN hJr dL_law_1242 ?_
  refine r_sld hJ (by omega) (by omega) dL_law_1243 ?_
  refine r_aload_n hJr dL_law_1244 rfl jg0 ?_
  refine r_iload hJr dL_law_1245 jg4 ?_
  refine r_iconst hJr (v := nI 2) dL_law_1247 (by decide) ?_
  refine r_iaddN hJr dL_law_1248 ?_
  refine r_sld hJ (by omega) (by omega) dL_law_1249 ?_
  refine r_V2v hJr kL_147 (rcv5 E) cm dL_law_1250 ⟨by decide, by decide⟩ (Nat.le_of_ble_eq_true rfl) ?_
  refine r_istore hJr dL_law_1253 (jp6 rfl rfl) ?_
  refine r_aload_n hJr dL_law_1255 rfl jg2 ?_
  refine r_V0v hJr kL_86 (rcv5 E) (c5_thrown l E S1 _ T1) dL_law_1256 ⟨by decide, by decide⟩ (Nat.le_of_ble_eq_true rfl) ?_
  rw [hT]
  refine r_iload hJr dL_law_1259 jg5 ?_
  refine r_icmp_eq hJr (tgt := 1266) dL_law_1261 (by decide) (fun _ => ?_) (fun c => absurd rfl c)
  refine r_iload hJr dL_law_1266 jg5 ?_
  refine r_if_ne hJr (tgt := 1283) dL_law_1268 (by decide) (fun _ => ?_) (fun c => ?_)
  · refine r_goto hJr (tgt := 1491) dL_law_1283 (by decide) ?_
    exact hK _ _ _ _ _ _ _ _ hC hn1 hn2
  have hk : k = 0 := nI_zero (out_le ho) c
  have e1 := hv hk
  have e2 := hb hk
  subst e1
  subst e2
  refine r_aload_n hJr dL_law_1271 rfl jg3 ?_
  refine r_iconst hJr (v := nI 0) dL_law_1272 (by decide) ?_
  refine r_lald hJr dL_law_1273 ?_
  refine r_iload hJr dL_law_1274 jg6 ?_
  refine r_i2l hJr dL_law_1276 rfl ?_
  refine r_lcmp hJr dL_law_1277 ?_
  rw [lg_cmp_self]
  refine r_if_eq hJr (tgt := 1283) dL_law_1278 (by decide) (fun _ => ?_) (fun c => absurd rfl c)
  refine r_goto hJr (tgt := 1491) dL_law_1283 (by decide) ?_
  exact hK _ _ _ _ _ _ _ _ hC hn1 hn2
theorem q_freeIn (hJ : jRX l E RL cL_law 9 12 0 512 b Ls xs J) (hst : l.stackTraces = false) (hc : COUP S K C) (hi : 4 * i + 3 < Ls) (hL : Ls ≤ 5000) (hn : n + 1 ≤ 512) (hK : lawK E J b i n C) (a5 a6 a7 a8 : Option Value) : J (S, (K, (o, n))) 1286 (lawL E b i a5 a6 a7 a8) [] := by
  have hJr := hJ.r
  obtain ⟨k, v, S1, K1, ho, hm⟩ := p_freeIn (E := E) (y := (o, n)) hst hc (xs (4 * i + 1))
  obtain ⟨o', n', hn1, hn2, hv, ct⟩ := w_freeIn ho
  obtain ⟨b1, T1, cm, hT, hb, hC⟩ := hm (o', n')
  refine r_aload_n hJr dL_law_1286 rfl jg1 ?_
  refine r_aload_n hJr dL_law_1287 rfl jg0 ?_
  refine r_iload hJr dL_law_1288 jg4 ?_
  refine r_iconst hJr (v := nI 1) dL_law_1290 (by decide) ?_
  refine r_iaddN hJr dL_law_1291 ?_
  refine r_sld hJ (by omega) (by omega) dL_law_1292 ?_
  refine r_aload_n hJr dL_law_1293 rfl jg3 ?_
  refine r_H3 hJr kLH_148 ct dL_law_1294 ⟨by decide, by decide⟩ (Nat.le_of_ble_eq_true rfl) (by show n ≤ 0 + 512 → n' ≤ 0 + 512; omega) ?_
  refine r_istore hJr dL_law_1297 (jp5 rfl rfl) ?_
  refine r_aload_n hJr dL_law_1299 rfl jg2 ?_
  refine r_aload_n hJr dL_law_1300 rfl jg0 ?_
  refine r_iload hJr dL_law_1301 jg4 ?_
  refine r_iconst hJr (v := nI 1) dL_law_1303 (by decide) ?_
  refine r_iaddN hJr dL_law_1304 ?_
  refine r_sld hJ (by omega) (by omega) dL_law_1305 ?_
  refine r_V1v hJr kL_150 (rcv5 E) cm dL_law_1306 ⟨by decide, by decide⟩ (Nat.le_of_ble_eq_true rfl) ?_
  refine r_istore hJr dL_law_1309 (jp6 rfl rfl) ?_
  refine r_aload_n hJr dL_law_1311 rfl jg2 ?_
  refine r_V0v hJr kL_86 (rcv5 E) (c5_thrown l E S1 _ T1) dL_law_1312 ⟨by decide, by decide⟩ (Nat.le_of_ble_eq_true rfl) ?_
  rw [hT]
  refine r_iload hJr dL_law_1315 jg5 ?_
  refine r_icmp_eq hJr (tgt := 1322) dL_law_1317 (by decide) (fun _ => ?_) (fun c => absurd rfl c)
  refine r_iload hJr dL_law_1322 jg5 ?_
  refine r_if_ne hJr (tgt := 1339) dL_law_1324 (by decide) (fun _ => ?_) (fun c => ?_)
  · refine r_goto hJr (tgt := 1491) dL_law_1339 (by decide) ?_
    exact hK _ _ _ _ _ _ _ _ hC hn1 hn2
  have hk : k = 0 := nI_zero (out_le ho) c
  have e1 := hv hk
  have e2 := hb hk
  subst e1
  subst e2
  refine r_aload_n hJr dL_law_1327 rfl jg3 ?_
  refine r_iconst hJr (v := nI 0) dL_law_1328 (by decide) ?_
  refine r_lald hJr dL_law_1329 ?_
  refine r_iload hJr dL_law_1330 jg6 ?_
  refine r_i2l hJr dL_law_1332 rfl ?_
  refine r_lcmp hJr dL_law_1333 ?_
  rw [lg_cmp_self]
  refine r_if_eq hJr (tgt := 1339) dL_law_1334 (by decide) (fun _ => ?_) (fun c => absurd rfl c)
  refine r_goto hJr (tgt := 1491) dL_law_1339 (by decide) ?_
  exact hK _ _ _ _ _ _ _ _ hC hn1 hn2
theorem q_wishedIn (hJ : jRX l E RL cL_law 9 12 0 512 b Ls xs J) (hst : l.stackTraces = false) (hc : COUP S K C) (hi : 4 * i + 3 < Ls) (hL : Ls ≤ 5000) (hn : n + 1 ≤ 512) (hK : lawK E J b i n C) (a5 a6 a7 a8 : Option Value) : J (S, (K, (o, n))) 1342 (lawL E b i a5 a6 a7 a8) [] := by
  have hJr := hJ.r
  obtain ⟨k, v, S1, K1, ho, hm⟩ := p_wishedIn (E := E) (y := (o, n)) hst hc (xs (4 * i + 1)) (xs (4 * i + 2))
  obtain ⟨o', n', hn1, hn2, hv, ct⟩ := w_wishedIn ho
  obtain ⟨b1, T1, cm, hT, hb, hC⟩ := hm (o', n')
  refine r_aload_n hJr dL_law_1342 rfl jg1 ?_
  refine r_aload_n hJr dL_law_1343 rfl jg0 ?_
  refine r_iload hJr dL_law_1344 jg4 ?_
  refine r_iconst hJr (v := nI 1) dL_law_1346 (by decide) ?_
  refine r_iaddN hJr dL_law_1347 ?_
  refine r_sld hJ (by omega) (by omega) dL_law_1348 ?_
  refine r_aload_n hJr dL_law_1349 rfl jg0 ?_
  refine r_iload hJr dL_law_1350 jg4 ?_
  refine r_iconst hJr (v := nI 2) dL_law_1352 (by decide) ?_
  refine r_iaddN hJr dL_law_1353 ?_
  refine r_sld hJ (by omega) (by omega) dL_law_1354 ?_
  refine r_aload_n hJr dL_law_1355 rfl jg3 ?_
  refine r_H4 hJr kLH_151 ct dL_law_1356 ⟨by decide, by decide⟩ (Nat.le_of_ble_eq_true rfl) (by show n ≤ 0 + 512 → n' ≤ 0 + 512; omega) ?_
  refine r_istore hJr dL_law_1359 (jp5 rfl rfl) ?_
  refine r_aload_n hJr dL_law_1361 rfl jg2 ?_
  refine r_aload_n hJr dL_law_1362 rfl jg0 ?_
  refine r_iload hJr dL_law_1363 jg4 ?_
  refine r_iconst hJr (v := nI 1) dL_law_1365 (by decide) ?_
  refine r_iaddN hJr dL_law_1366 ?_
  refine r_sld hJ (by omega) (by omega) dL_law_1367 ?_
  refine r_aload_n hJr dL_law_1368 rfl jg0 ?_
  refine r_iload hJr dL_law_1369 jg4 ?_
  refine r_iconst hJr (v := nI 2) dL_law_1371 (by decide) ?_
  refine r_iaddN hJr dL_law_1372 ?_
  refine r_sld hJ (by omega) (by omega) dL_law_1373 ?_
  refine r_V2v hJr kL_153 (rcv5 E) cm dL_law_1374 ⟨by decide, by decide⟩ (Nat.le_of_ble_eq_true rfl) ?_
  refine r_istore hJr dL_law_1377 (jp6 rfl rfl) ?_
  refine r_aload_n hJr dL_law_1379 rfl jg2 ?_
  refine r_V0v hJr kL_86 (rcv5 E) (c5_thrown l E S1 _ T1) dL_law_1380 ⟨by decide, by decide⟩ (Nat.le_of_ble_eq_true rfl) ?_
  rw [hT]
  refine r_iload hJr dL_law_1383 jg5 ?_
  refine r_icmp_eq hJr (tgt := 1390) dL_law_1385 (by decide) (fun _ => ?_) (fun c => absurd rfl c)
  refine r_iload hJr dL_law_1390 jg5 ?_
  refine r_if_ne hJr (tgt := 1407) dL_law_1392 (by decide) (fun _ => ?_) (fun c => ?_)
  · refine r_goto hJr (tgt := 1491) dL_law_1407 (by decide) ?_
    exact hK _ _ _ _ _ _ _ _ hC hn1 hn2
  have hk : k = 0 := nI_zero (out_le ho) c
  have e1 := hv hk
  have e2 := hb hk
  subst e1
  subst e2
  refine r_aload_n hJr dL_law_1395 rfl jg3 ?_
  refine r_iconst hJr (v := nI 0) dL_law_1396 (by decide) ?_
  refine r_lald hJr dL_law_1397 ?_
  refine r_iload hJr dL_law_1398 jg6 ?_
  refine r_i2l hJr dL_law_1400 rfl ?_
  refine r_lcmp hJr dL_law_1401 ?_
  rw [lg_cmp_self]
  refine r_if_eq hJr (tgt := 1407) dL_law_1402 (by decide) (fun _ => ?_) (fun c => absurd rfl c)
  refine r_goto hJr (tgt := 1491) dL_law_1407 (by decide) ?_
  exact hK _ _ _ _ _ _ _ _ hC hn1 hn2
theorem q_fullness (hJ : jRX l E RL cL_law 9 12 0 512 b Ls xs J) (hc : COUP S K C) (hC9 : C ≤ 250000000) (hn : n + 1 ≤ 512) (hK : lawK E J b i n C) (a5 a6 a7 a8 : Option Value) : J (S, (K, (o, n))) 1410 (lawL E b i a5 a6 a7 a8) [] := by
  have hJr := hJ.r
  obtain ⟨v, S1, T1, ⟨r, rfl⟩, c4, c5, hC⟩ := p_fullness (E := E) (y := (o, n)) hc hC9
  refine r_aload_n hJr dL_law_1410 rfl jg1 ?_
  refine r_V0v hJr kL_154 (rcv4 E) c4 dL_law_1411 ⟨by decide, by decide⟩ (Nat.le_of_ble_eq_true rfl) ?_
  refine r_aload_n hJr dL_law_1414 rfl jg2 ?_
  refine r_V0v hJr kL_157 (rcv5 E) c5 dL_law_1415 ⟨by decide, by decide⟩ (Nat.le_of_ble_eq_true rfl) ?_
  refine r_icmp_eq hJr (tgt := 1491) dL_law_1418 (by decide) (fun _ => ?_) (fun c => absurd rfl c)
  exact hK _ _ _ _ _ _ _ _ hC (Nat.le_refl _) (Nat.le_succ _)
theorem q_scatter (hJ : jRX l E RL cL_law 9 12 0 512 b Ls xs J) (hc : COUP S K C) (hC9 : C ≤ 250000000) (hn : n + 1 ≤ 512) (hK : lawK E J b i n C) (a5 a6 a7 a8 : Option Value) : J (S, (K, (o, n))) 1423 (lawL E b i a5 a6 a7 a8) [] := by
  have hJr := hJ.r
  obtain ⟨v, S1, T1, ⟨r, rfl⟩, c4, c5, hC⟩ := p_scatter (E := E) (y := (o, n)) hc hC9
  refine r_aload_n hJr dL_law_1423 rfl jg1 ?_
  refine r_V0v hJr kL_158 (rcv4 E) c4 dL_law_1424 ⟨by decide, by decide⟩ (Nat.le_of_ble_eq_true rfl) ?_
  refine r_aload_n hJr dL_law_1427 rfl jg2 ?_
  refine r_V0v hJr kL_161 (rcv5 E) c5 dL_law_1428 ⟨by decide, by decide⟩ (Nat.le_of_ble_eq_true rfl) ?_
  refine r_icmp_eq hJr (tgt := 1491) dL_law_1431 (by decide) (fun _ => ?_) (fun c => absurd rfl c)
  exact hK _ _ _ _ _ _ _ _ hC (Nat.le_refl _) (Nat.le_succ _)
theorem q_meanHeld (hJ : jRX l E RL cL_law 9 12 0 512 b Ls xs J) (hc : COUP S K C) (hC9 : C ≤ 250000000) (hn : n + 1 ≤ 512) (hK : lawK E J b i n C) (a5 a6 a7 a8 : Option Value) : J (S, (K, (o, n))) 1436 (lawL E b i a5 a6 a7 a8) [] := by
  have hJr := hJ.r
  obtain ⟨v, S1, T1, ⟨r, rfl⟩, c4, c5, hC⟩ := p_meanHeld (E := E) (y := (o, n)) hc hC9
  refine r_aload_n hJr dL_law_1436 rfl jg1 ?_
  refine r_V0v hJr kL_162 (rcv4 E) c4 dL_law_1437 ⟨by decide, by decide⟩ (Nat.le_of_ble_eq_true rfl) ?_
  refine r_dstore hJr dL_law_1440 (jq5 rfl rfl) ?_
  refine r_aload_n hJr dL_law_1442 rfl jg2 ?_
  refine r_V0v hJr kL_166 (rcv5 E) c5 dL_law_1443 ⟨by decide, by decide⟩ (Nat.le_of_ble_eq_true rfl) ?_
  refine r_dstore hJr dL_law_1446 (jq7 rfl rfl) ?_
  refine r_dload hJr dL_law_1448 jg5 ?_
  refine r_dload hJr dL_law_1450 jg7 ?_
  refine r_dcmp hJr dL_law_1452 ?_
  refine r_if_eq hJr (tgt := 1474) dL_law_1453 (by decide) (fun _ => ?_) (fun c => ?_)
  · refine r_goto hJr (tgt := 1491) dL_law_1474 (by decide) ?_
    exact hK _ _ _ _ _ _ _ _ hC (Nat.le_refl _) (Nat.le_succ _)
  refine r_dload hJr dL_law_1456 jg5 ?_
  refine r_dload hJr dL_law_1458 jg5 ?_
  refine r_dcmp hJr dL_law_1460 ?_
  refine r_if_eq hJr (tgt := 1472) dL_law_1461 (by decide) (fun c2 => absurd c2 c) (fun _ => ?_)
  refine r_dload hJr dL_law_1464 jg7 ?_
  refine r_dload hJr dL_law_1466 jg7 ?_
  refine r_dcmp hJr dL_law_1468 ?_
  refine r_if_ne hJr (tgt := 1474) dL_law_1469 (by decide) (fun _ => ?_) (fun c2 => absurd c2 c)
  refine r_goto hJr (tgt := 1491) dL_law_1474 (by decide) ?_
  exact hK _ _ _ _ _ _ _ _ hC (Nat.le_refl _) (Nat.le_succ _)
theorem q_digest (hJ : jRX l E RL cL_law 9 12 0 512 b Ls xs J) (hc : COUP S K C) (hC9 : C ≤ 250000000) (hn : n + 1 ≤ 512) (hK : lawK E J b i n C) (a5 a6 a7 a8 : Option Value) : J (S, (K, (o, n))) 1477 (lawL E b i a5 a6 a7 a8) [] := by
  have hJr := hJ.r
  obtain ⟨v, S1, T1, ⟨r, rfl⟩, c4, c5, hC⟩ := p_digest (E := E) (y := (o, n)) hc hC9
  refine r_aload_n hJr dL_law_1477 rfl jg1 ?_
  refine r_V0v hJr kL_167 (rcv4 E) c4 dL_law_1478 ⟨by decide, by decide⟩ (Nat.le_of_ble_eq_true rfl) ?_
  refine r_aload_n hJr dL_law_1481 rfl jg2 ?_
  refine r_V0v hJr kL_171 (rcv5 E) c5 dL_law_1482 ⟨by decide, by decide⟩ (Nat.le_of_ble_eq_true rfl) ?_
  refine r_lcmp hJr dL_law_1485 ?_
  rw [lg_cmp_self]
  refine r_if_eq hJr (tgt := 1491) dL_law_1486 (by decide) (fun _ => ?_) (fun c => absurd rfl c)
  exact hK _ _ _ _ _ _ _ _ hC (Nat.le_refl _) (Nat.le_succ _)
end CASES
