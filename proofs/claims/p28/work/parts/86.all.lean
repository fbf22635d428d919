/-! ALL OF THE CLASS: the pool and the saved ones -/
def XK (P : jO) (T C R : Nat) : Prop := ∃ z t, t ≤ T ∧ XV P z t 64 C R
def INV (S : jS) (K : Nat → Nat) (i : Nat) : Prop := XK (S 0) (12 * i) (1000 * i) i ∧ KI K ∧ ∃ m, m ≤ 6 ∧ S 9 0 0 = nI m ∧ ∀ k, k < m → XK (S (K k)) (12 * i) (1000 * i) i
theorem XK_mono {P : jO} {T C R T' C' R' : Nat} (hT : T ≤ T') (hC : C ≤ C') (hR : R ≤ R') (h : XK P T C R) : XK P T' C' R' := by
  obtain ⟨z, t, h1, h2⟩ := h
  exact ⟨z, t, by omega, XV_mono hC hR h2⟩
theorem INV_SI {S : jS} {K : Nat → Nat} {i : Nat} (h : INV S K i) : SI S K := by
  obtain ⟨-, a, m, b, c, -⟩ := h
  exact ⟨a, m, b, c⟩
theorem INV_mono {S : jS} {K : Nat → Nat} {i j : Nat} (hij : i ≤ j) (h : INV S K i) : INV S K j := by
  obtain ⟨a, b, m, c, d, e⟩ := h
  exact ⟨XK_mono (by omega) (by omega) hij a, b, m, c, d, fun k hk => XK_mono (by omega) (by omega) hij (e k hk)⟩
theorem INV_1 {S : jS} {K : Nat → Nat} {i : Nat} (A : jO) (h : INV S K i) : INV (setO S 1 A) K i := by
  obtain ⟨a, b, m, c, d, e⟩ := h
  refine ⟨by rw [setO_ne (by decide)]; exact a, b, m, c, by rw [setO_ne (by decide)]; exact d, fun k hk => ?_⟩
  have := b.1 k (by omega)
  rw [setO_ne (by omega)]
  exact e k hk
theorem kp_lt {S : jS} {K : Nat → Nat} {m : Nat} (hm : m < 6) (h : S 9 0 0 = nI m) : kpS S K = setO (setO S (K m) (S 0)) 9 (put (S 9) 0 0 (S 9 0 0 + nI 1)) ∧ kpK S K = K := by
  have hn : ¬ S 9 0 0 = nI 6 := fun q => by
    rw [h] at q
    have := (nI_eq (by omega) (by omega)).mp q
    omega
  unfold kpS kpK
  rw [if_neg hn, if_neg hn, h, toN_nI (by omega)]
  exact ⟨rfl, rfl⟩
/-- a thing is done: the state from before it is saved, the pool is new -/
theorem INV_do {S : jS} {K : Nat → Nat} {i j : Nat} {P' : jO} (hij : i ≤ j) (h : INV S K i) (hP : XK P' (12 * j) (1000 * j) j) : INV (setO (kpS S K) 0 P') (kpK S K) j := by
  obtain ⟨a, hK, m, hm, h9, hs⟩ := INV_mono hij h
  rcases Nat.lt_or_ge m 6 with h6 | h6
  · obtain ⟨e1, e2⟩ := kp_lt (K := K) h6 h9
    rw [e1, e2]
    refine ⟨by rw [setO_at]; exact hP, hK, m + 1, by omega, ?_, fun k hk => ?_⟩
    · rw [setO_ne (by decide), setO_at, put_at, if_pos rfl, h9, nI_add]
    · have hKi := hK.1 k (by omega)
      rw [setO_ne (by omega), setO_ne (by omega)]
      by_cases him : k = m
      · subst him
        rw [setO_at]
        exact a
      · have hne : K k ≠ K m := fun q => him (hK.2 k m (by omega) (by omega) q)
        rw [setO_ne hne]
        exact hs k (by omega)
  · obtain rfl : m = 6 := by omega
    have e1 : kpS S K = setO (setO S (rotK K 5) (S 0)) 9 (put (put (S 9) 0 0 (S 9 0 0 - nI 1)) 0 0 (put (S 9) 0 0 (S 9 0 0 - nI 1) 0 0 + nI 1)) := by
      unfold kpS
      rw [if_pos h9]
    have e2 : kpK S K = rotK K := by
      unfold kpK
      rw [if_pos h9]
    have hR := KI_rot hK
    rw [e1, e2]
    refine ⟨by rw [setO_at]; exact hP, hR, 6, by omega, ?_, fun k hk => ?_⟩
    · rw [setO_ne (by decide), setO_at, put_at, if_pos rfl, put_at, if_pos rfl, h9]
      decide
    · have hKi := hR.1 k (by omega)
      rw [setO_ne (by omega), setO_ne (by omega)]
      by_cases him : k = 5
      · subst him
        rw [setO_at]
        exact a
      · have hne : rotK K k ≠ rotK K 5 := fun q => him (hR.2 k 5 (by omega) (by omega) q)
        rw [setO_ne hne, rotK_at, if_pos (by omega)]
        exact hs (k + 1) (by omega)
/-- a state is restored -/
theorem INV_undo {S : jS} {K : Nat → Nat} {i m : Nat} (h : INV S K i) (hm6 : m ≤ 6) (h9 : S 9 0 0 = nI m) (hm : 0 < m) : INV (setO (setO S 9 (put (S 9) 0 0 (S 9 0 0 - nI 1))) 0 (S (K (m - 1)))) K i := by
  obtain ⟨a, hK, m', hm', h9', hs⟩ := h
  have hmm : m = m' := by
    rw [h9] at h9'
    exact (nI_eq (by omega) (by omega)).mp h9'
  subst hmm
  refine ⟨by rw [setO_at]; exact hs (m - 1) (by omega), hK, m - 1, by omega, ?_, fun k hk => ?_⟩
  · rw [setO_ne (by decide), setO_at, put_at, if_pos rfl, h9, pk_sub (by omega)]
  · have hKi := hK.1 k (by omega)
    rw [setO_ne (by omega), setO_ne (by omega)]
    exact hs k (by omega)
theorem kp_9 {S : jS} {K : Nat → Nat} {i : Nat} (h : INV S K i) : S 0 1 3 = S 0 1 3 := rfl
/-! each thing that the law does -/
theorem lim {i : Nat} (hi : i ≤ 60) : 12 * i ≤ 720 ∧ 1000 * i ≤ 60000 := by omega
theorem do_row {S : jS} {K : Nat → Nat} {i z h m u : Nat} (hi : i < 60) (hh : h < 8) (h1 : 1 ≤ u) (h9 : u ≤ 999) (hm1 : 1 ≤ m) (hm : m ≤ 64) (hz : S 0 1 3 = nI z) (hz6 : z ≤ 64) (hI : INV S K i) : INV (setO (kpS S K) 0 (leaseRowP (S 0) z h m (nI u))) (kpK S K) (i + 1) := by
  obtain ⟨z', t, ht, hX⟩ := hI.1
  have e := hX.2.1.2.1
  have hzz : z = z' := by
    rw [hz] at e
    exact (nI_eq (by omega) (by omega)).mp e.1
  subst hzz
  exact INV_do (by omega) hI ⟨z, t, by omega, XV_mono (by omega) (by omega) (leaseRow_ok hh (by omega) h1 h9 hm1 hm (by omega) hX)⟩
theorem do_wish {S : jS} {K : Nat → Nat} {i z h n u : Nat} (hi : i < 60) (hh : h < 8) (hn : n < z) (hz : S 0 1 3 = nI z) (hz6 : z ≤ 64) (h1 : 1 ≤ u) (h9 : u ≤ 999) (hm : mayW (S 0) (nI h) n = true) (hI : INV S K i) : INV (setO (kpS S K) 0 (addW (S 0) h n (nI u))) (kpK S K) (i + 1) := by
  obtain ⟨z', t, ht, hX⟩ := hI.1
  have e := hX.2.1.2.1
  have hzz : z = z' := by
    rw [hz] at e
    exact (nI_eq (by omega) (by omega)).mp e.1
  subst hzz
  exact INV_do (by omega) hI ⟨z, t, by omega, XV_mono (by omega) (by omega) (addW_ok hn hh (by omega) (by omega) h1 h9 hm hX)⟩
theorem do_drop {S : jS} {K : Nat → Nat} {i n k : Nat} (hn : n < 64) (hk : k < toN (S 0 7 n)) (hI : INV S K i) : INV (setO (kpS S K) 0 (dropP (S 0) n k)) (kpK S K) (i + 1) := by
  obtain ⟨z, t, ht, hX⟩ := hI.1
  exact INV_do (by omega) hI ⟨z, t, by omega, XV_mono (by omega) (by omega) (dropW_ok hn hk hX)⟩
theorem do_renew {S : jS} {K : Nat → Nat} {i h n u : Nat} (hi : i < 60) (hn : n < 64) (hh : h < 8) (h1 : 1 ≤ u) (h9 : u ≤ 999) (hf : S 0 2 n = nI h) (hI : INV S K i) : INV (setO (kpS S K) 0 (prolP (S 0) n (nI u))) (kpK S K) (i + 1) := by
  obtain ⟨z, t, ht, hX⟩ := hI.1
  exact INV_do (by omega) hI ⟨z, t, by omega, XV_mono (by omega) (by omega) (prol_ok hn (by omega) h1 h9 (by rw [hf]; exact nI_m1 (by omega)) hX)⟩
theorem do_back {S : jS} {K : Nat → Nat} {i h k n : Nat} (hi : i < 60) (hh : h < 8) (hk : n + k ≤ 64) (hI : INV S K i) : INV (setO (kpS S K) 0 (spanN (nI h) k n (S 0, 0)).1) (kpK S K) (i + 1) := by
  obtain ⟨z, t, ht, hX⟩ := hI.1
  exact INV_do (by omega) hI ⟨z, t, by omega, XV_mono (by omega) (by omega) (span_ok hh (by omega) k n (1000 * i) 0 (S 0) hk (by omega) hX)⟩
theorem do_pass {S : jS} {K : Nat → Nat} {i b : Nat} (hi : i < 60) (hb : b ≤ 12) (hI : INV S K i) : INV (setO (kpS S K) 0 (passN b (S 0))) (kpK S K) (i + 1) := by
  obtain ⟨z, t, ht, hX⟩ := hI.1
  exact INV_do (by omega) hI ⟨z, t + b, by omega, XV_mono (by omega) (by omega) (pass_ok b t (1000 * i) (S 0) (by omega) (by omega) hX)⟩
theorem do_set {S : jS} {K : Nat → Nat} {i q : Nat} {v : Int32} (hq : q < 3) (h0 : ∃ g, g ≤ 64 ∧ v = nI g) (hI : INV S K i) : INV (setO (kpS S K) 0 (put (S 0) 1 q v)) (kpK S K) (i + 1) := by
  obtain ⟨z, t, ht, hX⟩ := hI.1
  exact INV_do (by omega) hI ⟨z, t, by omega, XV_mono (by omega) (by omega) (set_ok (by omega) (fun _ => h0) (fun x => by omega) (fun _ => rfl) (fun n a b => XV_tail hX b a) hX)⟩
theorem do_size {S : jS} {K : Nat → Nat} {i z' : Nat} (h4 : 4 ≤ z') (h6 : z' ≤ 64) (hf : ∀ n, n < 64 → S 0 2 n = -1) (hI : INV S K i) : INV (setO (kpS S K) 0 (put (S 0) 1 3 (nI z'))) (kpK S K) (i + 1) := by
  obtain ⟨z, t, ht, hX⟩ := hI.1
  exact INV_do (by omega) hI ⟨z', t, by omega, XV_mono (by omega) (by omega) (set_ok (by omega) (fun x => absurd rfl x) (fun _ => ⟨rfl, h4, h6⟩) (fun x => absurd rfl x) (fun n a _ => hf n a) hX)⟩
/-! the least free number -/
theorem low_first {P : jO} {z f : Nat} (hz : z ≤ 64) (h : lowR P z (nI 1) = some f) : f < z ∧ P 2 f = -1 ∧ ofSp P z (nI 0) (nI 0) = nI f := by
  obtain ⟨a, b, -⟩ := low_some hz (by omega) h
  have hff : P 2 f = -1 := of_decide_eq_true (row_all1 b f (Nat.le_refl _) (by omega))
  have hlow : ∀ i, i < f → ¬ P 2 i = -1 := by
    intro i hi q
    have hx : ∀ (k n : Nat), fnd (fun n => decide (nI 1 ≤ nI (rowP P z n))) k n = some f → n ≤ i → False := by
      intro k
      induction k with
      | zero => intro n e _; rw [fnd] at e; cases e
      | succ k ih =>
        intro n e hn
        rw [fnd] at e
        split at e
        · cases e; omega
        · rename_i hc
          rcases (by omega : n = i ∨ n + 1 ≤ i) with r | r
          · apply hc
            rw [r]
            refine decide_eq_true (nI_le ?_ ?_)
            · unfold rowP
              rw [show z - i = (z - i - 1) + 1 by omega, row, if_pos (frP_t q)]
              omega
            · have := row_le (frP P) (z - i) i
              unfold rowP
              omega
          · exact ih (n + 1) e r
    exact hx z 0 h (Nat.zero_le _)
  refine ⟨a, hff, ?_⟩
  have hs : stS P f = true := stS_iff.mpr ⟨hff, by
    rcases Nat.eq_zero_or_pos f with q | q
    · exact Or.inl q
    · exact Or.inr (hlow (f - 1) (by omega))⟩
  have hc : cnt (stS P) f = 0 := cnt_zero (fun i hi => by
    rw [← Bool.not_eq_true, stS_iff]
    exact fun q => hlow i hi q.1)
  unfold ofSp
  rcases span_sp (P := P) (q := 0) (by omega) z 0 0 (by omega) rfl with ⟨f', x, y, w, v, u⟩ | ⟨x, y⟩
  · rw [x]
    have e : f' = f := by
      rcases Nat.lt_trichotomy f' f with r | r | r
      · exact absurd (stS_iff.mp v).1 (hlow f' r)
      · exact r
      · have := cnt_mono (p := stS P) (a := f + 1) (b := f') (by omega)
        rw [cnt_s hs] at this
        omega
    rw [e]
    exact if_pos rfl
  · exact absurd hc (y f (Nat.zero_le _) (by omega) hs)
theorem take_free {P : jO} {z h f : Nat} {u : Int32} (hh : h < 8) (hz : z ≤ 64) (hl : lowR P z (nI 1) = some f) : cS P 0 z = cS (leaseRowP P z h 1 u) 0 z + 1 := by
  obtain ⟨a, b, -⟩ := low_first hz hl
  have e : leaseRowP P z h 1 u = leaseP P h f u := by
    unfold leaseRowP
    rw [hl]
    rfl
  have e2 : ∀ i, leaseP P h f u 2 i = if i = f then nI h else P 2 i := by
    intro i
    rw [leaseP_app]
    simp
  rw [e, cS_0, cS_0, cnt_upd (p := frP (leaseP P h f u)) (q := frP P) (n := f) (fun i hi => by unfold frP; rw [e2, if_neg hi]) (frP_f (by rw [e2, if_pos rfl]; exact nI_m1 (by omega))) (frP_t b) z, if_pos a]
