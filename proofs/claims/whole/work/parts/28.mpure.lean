/-! the model's row: what it does, what holds of it -/
def mServeS (r : Nat → Int32) (n z : Nat) : Nat → Int32 :=
  let h := r ((32 + 12 * n) + 6)
  let t := r ((32 + 12 * n) + 6 + 1)
  let r1 := mDrop r n 0
  if mRoom r1 z h (nI 1) = true then mGives r1 n (toN h) t else upd r1 (16 + toN h) (r1 (16 + toN h) + nI 1)
def mServe (n z : Nat) : Nat → (Nat → Int32) → (Nat → Int32)
  | 0, r => r
  | k + 1, r => if r ((32 + 12 * n)) = -1 ∧ 0 < r ((32 + 12 * n) + 5) then mServe n z k (mServeS r n z) else r
def mFreeR (r : Nat → Int32) (n z : Nat) : Nat → Int32 := let r1 := upd r ((32 + 12 * n)) (-1); mServe n z 3 (upd r1 7 (r1 7 + nI 1))
def mUnits (r : Nat → Int32) : Nat → Nat → (Nat → Int32)
  | 0, _ => r
  | k + 1, n => mUnits (if mStg r n = 1 then upd r (24 + toN (r ((32 + 12 * n)))) (r (24 + toN (r ((32 + 12 * n)))) + nI 1) else r) k (n + 1)
def mDue (z : Nat) (r : Nat → Int32) : Nat → Nat → (Nat → Int32)
  | 0, _ => r
  | k + 1, n => mDue z (if ¬ r ((32 + 12 * n)) = -1 ∧ r ((32 + 12 * n) + 3) = r 0 then mFreeR r n z else r) k (n + 1)
def mTick (r : Nat → Int32) (z : Nat) : Nat → Int32 := let r1 := mUnits r z 0; mDue z (upd r1 0 (r1 0 + nI 1)) z 0
def mFirst (r : Nat → Int32) (m : Int32) : Nat → Nat → Nat → Int32
  | 0, _, _ => -1
  | k + 1, n, c => if nI (if mFree r n = true then c + 1 else 0) = m then nI n - m + nI 1 else mFirst r m k (n + 1) (if mFree r n = true then c + 1 else 0)
def mWish (r : Nat → Int32) (n : Nat) (h : Int32) (w : Nat) : Option Nat := fnd (fun k => decide (r ((32 + 12 * n) + 6 + 2 * k) = h)) w 0
def mQ (r : Nat → Int32) (n w : Nat) : Prop := r ((32 + 12 * n) + 5) = nI w ∧ ∀ k, k < w → ∃ h, h < 8 ∧ r ((32 + 12 * n) + 6 + 2 * k) = nI h
def MI (r : Nat → Int32) (z : Nat) : Prop := (r 4 = nI z ∧ 4 ≤ z ∧ z ≤ 64) ∧ ∀ n, n < 64 → (r ((32 + 12 * n)) = -1 ∨ ∃ h, h < 8 ∧ r ((32 + 12 * n)) = nI h) ∧ ∃ w, w ≤ 3 ∧ mQ r n w
theorem mShift_at (n : Nat) : ∀ (c i : Nat) (r : Nat → Int32) (q : Nat), i + c ≤ 2 → mShift n c i r q = if (32 + 12 * n) + 6 + 2 * i ≤ q ∧ q < (32 + 12 * n) + 6 + 2 * i + 2 * c then r (q + 2) else r q
  | 0, i, r, q, _ => by
    rw [mShift, if_neg (by omega)]
  | c + 1, i, r, q, hc => by
    rw [mShift, mShift_at n c (i + 1) _ q (by omega)]
    simp only [upd]
    by_cases h1 : q = (32 + 12 * n) + 6 + 2 * i
    · subst h1
      have h2 : ¬ ((32 + 12 * n) + 6 + 2 * (i + 1) ≤ (32 + 12 * n) + 6 + 2 * i ∧ (32 + 12 * n) + 6 + 2 * i < (32 + 12 * n) + 6 + 2 * (i + 1) + 2 * c) := by omega
      have h3 : (32 + 12 * n) + 6 + 2 * i ≤ (32 + 12 * n) + 6 + 2 * i ∧ (32 + 12 * n) + 6 + 2 * i < (32 + 12 * n) + 6 + 2 * i + 2 * (c + 1) := by omega
      rw [if_neg h2, if_pos h3]
      simp
    · by_cases h4 : q = (32 + 12 * n) + 6 + 2 * i + 1
      · subst h4
        have h2 : ¬ ((32 + 12 * n) + 6 + 2 * (i + 1) ≤ (32 + 12 * n) + 6 + 2 * i + 1 ∧ (32 + 12 * n) + 6 + 2 * i + 1 < (32 + 12 * n) + 6 + 2 * (i + 1) + 2 * c) := by omega
        have h3 : (32 + 12 * n) + 6 + 2 * i ≤ (32 + 12 * n) + 6 + 2 * i + 1 ∧ (32 + 12 * n) + 6 + 2 * i + 1 < (32 + 12 * n) + 6 + 2 * i + 2 * (c + 1) := by omega
        rw [if_neg h2, if_pos h3]
        simp
      · by_cases h5 : (32 + 12 * n) + 6 + 2 * i ≤ q ∧ q < (32 + 12 * n) + 6 + 2 * i + 2 * (c + 1)
        · rw [if_pos h5, if_pos (by omega)]
          rw [if_neg (by omega), if_neg (by omega)]
        · rw [if_neg h5, if_neg (by omega)]
          rw [if_neg h4, if_neg h1]
theorem mDrop_at (r : Nat → Int32) (n k q : Nat) (hk : k ≤ 2) : mDrop r n k q = if q = (32 + 12 * n) + 5 then r ((32 + 12 * n) + 5) - nI 1 else if (32 + 12 * n) + 6 + 2 * k ≤ q ∧ q < (32 + 12 * n) + 10 then r (q + 2) else r q := by
  unfold mDrop
  simp only [upd]
  rw [mShift_at n (2 - k) k r _ (by omega), mShift_at n (2 - k) k r _ (by omega)]
  by_cases h : q = (32 + 12 * n) + 5
  · rw [if_pos h, if_pos h, if_neg (by omega)]
  · rw [if_neg h, if_neg h]
    by_cases h2 : (32 + 12 * n) + 6 + 2 * k ≤ q ∧ q < (32 + 12 * n) + 10
    · rw [if_pos h2, if_pos (by omega)]
    · rw [if_neg h2, if_neg (by omega)]
theorem mGives_at (r : Nat → Int32) (n h : Nat) (t : Int32) (hh : h < 8) (q : Nat) : mGives r n h t q = if q = (32 + 12 * n) then nI h else if q = (32 + 12 * n) + 1 then r 0 else if q = (32 + 12 * n) + 2 then r 0 + t else if q = (32 + 12 * n) + 3 then r 0 + t + r 1 else if q = (32 + 12 * n) + 4 then r ((32 + 12 * n) + 4) + nI 1 else if q = 8 + h then r (8 + h) + nI 1 else r q := by
  simp only [mGives, upd]
  by_cases h0 : q = (32 + 12 * n)
  · subst h0
    have : ¬ (32 + 12 * n) = 8 + h := by omega
    simp [this]
  by_cases h1 : q = (32 + 12 * n) + 1
  · subst h1
    have : ¬ (32 + 12 * n) + 1 = 8 + h := by omega
    simp [this]
    intro q
    omega
  by_cases h2 : q = (32 + 12 * n) + 2
  · subst h2
    have : ¬ (32 + 12 * n) + 2 = 8 + h := by omega
    simp [this]
    intro q
    omega
  by_cases h3 : q = (32 + 12 * n) + 3
  · subst h3
    have : ¬ (32 + 12 * n) + 3 = 8 + h := by omega
    have a1 : ¬ 0 = (32 + 12 * n) := by omega
    have a2 : ¬ 1 = (32 + 12 * n) := by omega
    simp [this]
    rw [if_neg a1, if_neg a2]
  by_cases h4 : q = (32 + 12 * n) + 4
  · subst h4
    have : ¬ (32 + 12 * n) + 4 = 8 + h := by omega
    simp [this]
  by_cases h5 : q = 8 + h
  · subst h5
    simp [h0, h1, h2, h3, h4]
  simp [h0, h1, h2, h3, h4, h5]
theorem mQ_of {r r' : Nat → Int32} {n w : Nat} (h5 : r' ((32 + 12 * n) + 5) = r ((32 + 12 * n) + 5)) (h6 : ∀ k, k < 3 → r' ((32 + 12 * n) + 6 + 2 * k) = r ((32 + 12 * n) + 6 + 2 * k)) (hw : w ≤ 3) (h : mQ r n w) : mQ r' n w := ⟨by rw [h5]; exact h.1, fun k hk => by rw [h6 k (by omega)]; exact h.2 k hk⟩
theorem MI_of {r r' : Nat → Int32} {z : Nat} (h4 : r' 4 = r 4) (h : ∀ n, n < 64 → r' ((32 + 12 * n)) = r ((32 + 12 * n)) ∧ r' ((32 + 12 * n) + 5) = r ((32 + 12 * n) + 5) ∧ ∀ k, k < 3 → r' ((32 + 12 * n) + 6 + 2 * k) = r ((32 + 12 * n) + 6 + 2 * k)) (hM : MI r z) : MI r' z := by
  obtain ⟨⟨a, b, c⟩, d⟩ := hM
  refine ⟨⟨by rw [h4]; exact a, b, c⟩, fun n hn => ?_⟩
  obtain ⟨e, w, f, g⟩ := d n hn
  obtain ⟨g1, g2, g3⟩ := h n hn
  exact ⟨by rw [g1]; exact e, w, f, mQ_of g2 g3 f g⟩
theorem MI_low {r : Nat → Int32} {z q : Nat} {v : Int32} (hq : q < 32) (h4 : q ≠ 4) (h : MI r z) : MI (upd r q v) z :=
  MI_of (upd_ne (Ne.symm h4)) (fun n _ => ⟨upd_ne (by omega), upd_ne (by omega), fun k _ => upd_ne (by omega)⟩) h
theorem MI_who {r : Nat → Int32} {z n : Nat} {v : Int32} (hv : v = -1 ∨ ∃ h, h < 8 ∧ v = nI h) (hM : MI r z) : MI (upd r ((32 + 12 * n)) v) z := by
  obtain ⟨⟨a, b, c⟩, d⟩ := hM
  refine ⟨⟨by rw [upd_ne (by omega)]; exact a, b, c⟩, fun i hi => ?_⟩
  obtain ⟨e, w, f, g⟩ := d i hi
  refine ⟨?_, w, f, mQ_of (upd_ne (by omega)) (fun k hk => upd_ne (by omega)) f g⟩
  by_cases h : i = n
  · subst h
    rw [upd_at]
    exact hv
  · rw [upd_ne (by omega)]
    exact e
theorem MI_gives {r : Nat → Int32} {z n h : Nat} {t : Int32} (hh : h < 8) (hM : MI r z) : MI (mGives r n h t) z := by
  obtain ⟨⟨a, b, c⟩, d⟩ := hM
  have key : ∀ q, (q < 32 → q ≠ 8 + h → mGives r n h t q = r q) ∧ ∀ i k, 5 ≤ k → k < 12 → mGives r n h t ((32 + 12 * i) + k) = r ((32 + 12 * i) + k) := by
    intro q
    refine ⟨fun h1 h2 => ?_, fun i k h1 h2 => ?_⟩
    · rw [mGives_at r n h t hh, if_neg (by omega), if_neg (by omega), if_neg (by omega), if_neg (by omega), if_neg (by omega), if_neg h2]
    · rw [mGives_at r n h t hh, if_neg (by omega), if_neg (by omega), if_neg (by omega), if_neg (by omega), if_neg (by omega), if_neg (by omega)]
  refine ⟨⟨by rw [(key 4).1 (by omega) (by omega)]; exact a, b, c⟩, fun i hi => ?_⟩
  obtain ⟨e, w, f, g⟩ := d i hi
  refine ⟨?_, w, f, mQ_of ((key 0).2 i 5 (by omega) (by omega)) (fun k hk => by have := (key 0).2 i (6 + 2 * k) (by omega) (by omega); rwa [← Nat.add_assoc] at this) f g⟩
  by_cases hin : i = n
  · subst hin
    right
    exact ⟨h, hh, by rw [mGives_at r i h t hh, if_pos rfl]⟩
  · rw [mGives_at r n h t hh, if_neg (by omega), if_neg (by omega), if_neg (by omega), if_neg (by omega), if_neg (by omega), if_neg (by omega)]
    exact e
theorem mQ_drop {r : Nat → Int32} {n w q : Nat} (hw : w ≤ 3) (hq : q < w) (h : mQ r n w) : mQ (mDrop r n q) n (w - 1) := by
  refine ⟨?_, fun k hk => ?_⟩
  · rw [mDrop_at r n q _ (by omega), if_pos rfl, h.1]
    exact pk_sub (by omega)
  · rw [mDrop_at r n q _ (by omega), if_neg (by omega)]
    split
    · have := h.2 (k + 1) (by omega)
      rwa [show (32 + 12 * n) + 6 + 2 * k + 2 = (32 + 12 * n) + 6 + 2 * (k + 1) by omega]
    · exact h.2 k (by omega)
theorem MI_drop {r : Nat → Int32} {z n w q : Nat} (hn : n < 64) (hw : w ≤ 3) (hq : q < w) (h : mQ r n w) (hM : MI r z) : MI (mDrop r n q) z := by
  obtain ⟨⟨a, b, c⟩, d⟩ := hM
  refine ⟨⟨by rw [mDrop_at r n q _ (by omega), if_neg (by omega), if_neg (by omega)]; exact a, b, c⟩, fun i hi => ?_⟩
  obtain ⟨e, w', f, g⟩ := d i hi
  refine ⟨by rw [mDrop_at r n q _ (by omega), if_neg (by omega), if_neg (by omega)]; exact e, ?_⟩
  by_cases hin : i = n
  · subst hin
    exact ⟨w - 1, by omega, mQ_drop hw hq h⟩
  · refine ⟨w', f, mQ_of ?_ (fun k hk => ?_) f g⟩
    · rw [mDrop_at r n q _ (by omega), if_neg (by omega), if_neg (by omega)]
    · rw [mDrop_at r n q _ (by omega), if_neg (by omega), if_neg (by omega)]
theorem mQ_uniq {r : Nat → Int32} {n w : Nat} (hw : w ≤ 3) (h : mQ r n w) : toN (r ((32 + 12 * n) + 5)) = w := by rw [h.1, toN_nI (by omega)]
theorem MS_all {r : Nat → Int32} {z n w : Nat} (hn : n < 64) (hw : w ≤ 3) (h0 : 0 < w) (h : mQ r n w) (hM : MI r z) : MI (mServeS r n z) z ∧ mQ (mServeS r n z) n (w - 1) ∧ ∃ g, g < 8 ∧ r ((32 + 12 * n) + 6) = nI g := by
  obtain ⟨g, g1, g2⟩ := h.2 0 h0
  rw [Nat.mul_zero, Nat.add_zero] at g2
  have hd := MI_drop hn hw h0 h hM
  have hq := mQ_drop hw h0 h
  have ht : toN (r ((32 + 12 * n) + 6)) = g := by rw [g2, toN_nI (by omega)]
  refine ⟨?_, ?_, g, g1, g2⟩
  · unfold mServeS
    simp only
    split
    · exact MI_gives (by rw [ht]; exact g1) hd
    · exact MI_low (by rw [ht]; omega) (by omega) hd
  · unfold mServeS
    simp only
    rw [ht]
    split
    · refine mQ_of ?_ (fun k hk => ?_) (by omega) hq
      · rw [mGives_at _ _ _ _ g1, if_neg (by omega), if_neg (by omega), if_neg (by omega), if_neg (by omega), if_neg (by omega), if_neg (by omega)]
      · rw [mGives_at _ _ _ _ g1, if_neg (by omega), if_neg (by omega), if_neg (by omega), if_neg (by omega), if_neg (by omega), if_neg (by omega)]
    · exact mQ_of (upd_ne (by omega)) (fun k _ => upd_ne (by omega)) (by omega) hq
theorem nI_0lt {w : Nat} (h : w < 2 ^ 31) : 0 < nI w ↔ 0 < w := by
  rw [show (0 : Int32) = nI 0 from rfl]
  exact nI_ltI (by decide) h
theorem MI_serve {n z : Nat} (hn : n < 64) : ∀ (k : Nat) (r : Nat → Int32), MI r z → MI (mServe n z k r) z
  | 0, _, h => h
  | k + 1, r, h => by
    rw [mServe]
    split
    · rename_i h1
      obtain ⟨-, w, hw, hq⟩ := h.2 n hn
      have h2 := h1.2
      rw [hq.1, nI_0lt (by omega)] at h2
      exact MI_serve hn k _ (MS_all hn hw h2 hq h).1
    · exact h
theorem MI_free {r : Nat → Int32} {n z : Nat} (hn : n < 64) (h : MI r z) : MI (mFreeR r n z) z := MI_serve hn 3 _ (MI_low (by decide) (by decide) (MI_who (Or.inl rfl) h))
theorem MI_units {z : Nat} : ∀ (k n : Nat) (r : Nat → Int32), n + k ≤ 64 → MI r z → MI (mUnits r k n) z
  | 0, _, _, _, h => h
  | k + 1, n, r, hk, h => by
    rw [mUnits]
    refine MI_units k (n + 1) _ (by omega) ?_
    split
    · rename_i h1
      have hu : ∃ g, g < 8 ∧ r ((32 + 12 * n)) = nI g := by
        rcases (h.2 n (by omega)).1 with q | q
        · simp [mStg, q] at h1
        · exact q
      obtain ⟨g, g1, g2⟩ := hu
      rw [g2, toN_nI (by omega)]
      exact MI_low (by omega) (by omega) h
    · exact h
theorem MI_due {z : Nat} : ∀ (k n : Nat) (r : Nat → Int32), n + k ≤ 64 → MI r z → MI (mDue z r k n) z
  | 0, _, _, _, h => h
  | k + 1, n, r, hk, h => by
    rw [mDue]
    refine MI_due k (n + 1) _ (by omega) ?_
    split
    · exact MI_free (by omega) h
    · exact h
theorem MI_tick {r : Nat → Int32} {z : Nat} (h : MI r z) : MI (mTick r z) z := by
  have hz := h.1.2.2
  exact MI_due z 0 _ (by omega) (MI_low (by decide) (by decide) (MI_units z 0 _ (by omega) h))
