/-! THE WORLD: objects are numbered o, their cells j (0 the object itself, then its arrays of ints), at the address ad E o j. A state is S o j i; the rest: which pool each saved place holds, the law's long, how many exceptions were made.
objects: 0 pool, 1 ahead, 2..7 the kept pools, 8 orders, 9 saves, 11 the NumberLeases -/
abbrev jO : Type := Nat → Nat → Int32
abbrev jS : Type := Nat → jO
abbrev jX : Type := (Nat → Nat) × Int64 × Nat
abbrev jG : Type := jS × jX
/-- the first address, the classes, the class of arrays of ints, the script (its address, its length, its values), the class of arrays of pools, the addresses of the two tables -/
abbrev jE : Type := Nat × va_G × (ClassId × (Nat × Nat × (Nat → Int32)) × ClassId) × (Nat × Nat)
def aln (o j : Nat) : Nat :=
  if j = 0 then 0
  else if o < 8 then (if j = 1 then 4 else if j < 8 then 64 else if j < 10 then 192 else if j < 13 then 8 else 0)
  else if o = 8 then (if j = 1 then 60 else 0)
  else 0
def wid (o : Nat) : Nat := if o < 8 then 13 else if o = 8 then 2 else if o = 9 then 2 else if o = 11 then 1 else 0
def bas (o : Nat) : Nat := if o < 2 then 13 * o + 1 else if o < 8 then 13 * o + 3 else if o = 8 then 107 else if o = 9 then 27 else 0
def lcs : List (Nat × Nat) := [11, 0, 1, 9, 2, 3, 4, 5, 6, 7, 8].flatMap fun o => (List.range (wid o)).map fun j => (o, j)
def loc (k : Nat) : Nat × Nat := lcs.getD k (99, 0)
theorem loc_ok : ∀ k, k < 109 → bas (loc k).1 + (loc k).2 = k ∧ (loc k).2 < wid (loc k).1 := by decide +kernel
theorem loc_off : ∀ o, o < 13 → ∀ j, j < wid o → loc (bas o + j) = (o, j) ∧ bas o + j < 109 := by decide +kernel
def ad (E : jE) (o j : Nat) : Nat := E.1 + (bas o + j)
def jA (E : jE) : Nat → Prop := fun q => E.1 ≤ q
def jtys (E : jE) : List (ClassId × FieldType) := [(E.2.2.1.1, .int), (E.2.2.1.1, .int), (E.2.2.1.2.2, .object RX2)]
def poolF (E : jE) (o : Nat) (P : jO) : List Value := [.int (P 0 0), .int (P 0 1), .int (P 0 2), .int (P 0 3), .ref (ad E o 1), .ref (ad E o 2), .ref (ad E o 3), .ref (ad E o 4), .ref (ad E o 5), .ref (ad E o 6), .ref (ad E o 7), .ref (ad E o 8), .ref (ad E o 9), .ref (ad E o 10), .ref (ad E o 11), .ref (ad E o 12)]
def ordF (E : jE) (P : jO) : List Value := [.ref (ad E 8 1), .int (P 0 0), .int (P 0 1), .int (P 0 2), .int (P 0 3), .int (P 0 4), .int (P 0 5), .int (P 0 6)]
def savF (E : jE) (P : jO) : List Value := [.ref (ad E 9 1), .int (P 0 0)]
def nulF (E : jE) : List Value := [.ref (ad E 0 0), .ref (ad E 1 0), .ref (ad E 9 0), .ref (ad E 8 0)]
def scal (E : jE) (k : jX) (o : Nat) (P : jO) (j : Nat) : va_E :=
  if o < 8 then .inr (1, poolF E o P)
  else if o = 8 then .inr (0, ordF E P)
  else if o = 9 then (if j = 0 then .inr (2, savF E P) else .inl (E.2.2.1.2.2, 6, .inr (.inr (.inr (.inr fun i => some (ad E (k.1 i) 0))))))
  else .inr (3, nulF E)
def cel (E : jE) (k : jX) (o : Nat) (P : jO) (j : Nat) : va_E := if 0 < aln o j then .inl (E.2.2.1.1, aln o j, .inl (P j)) else scal E k o P j
def wld (E : jE) (G : jG) : va_W := (List.range 109).map fun q => (E.1 + q, cel E G.2 (loc q).1 (G.1 (loc q).1) (loc q).2)
def setO (S : jS) (o : Nat) (P : jO) : jS := fun o' => if o' = o then P else S o'
theorem setO_at (S : jS) (o : Nat) (P : jO) : setO S o P o = P := by simp [setO]
theorem setO_ne {S : jS} {o o' : Nat} {P : jO} (h : o' ≠ o) : setO S o P o' = S o' := by simp [setO, h]
theorem setO_self (S : jS) (o : Nat) : setO S o (S o) = S := by
  funext o'
  by_cases h : o' = o
  · subst h; simp [setO]
  · simp [setO, h]
theorem setO_two (S : jS) (o : Nat) (P P' : jO) : setO (setO S o P) o P' = setO S o P' := by
  funext o'
  by_cases h : o' = o <;> simp [setO, h]
def putA (P : jO) (j : Nat) (f : Nat → Int32) : jO := fun j' => if j' = j then f else P j'
def put (P : jO) (j i : Nat) (v : Int32) : jO := putA P j (upd (P j) i v)
theorem putA_at (P : jO) (j : Nat) (f : Nat → Int32) : putA P j f j = f := by simp [putA]
theorem putA_ne {P : jO} {j j' : Nat} {f : Nat → Int32} (h : j' ≠ j) : putA P j f j' = P j' := by simp [putA, h]
theorem put_ne {P : jO} {j j' i : Nat} {v : Int32} (h : j' ≠ j) : put P j i v j' = P j' := putA_ne h
theorem put_at (P : jO) (j i : Nat) (v : Int32) (i' : Nat) : put P j i v j i' = if i' = i then v else P j i' := by simp [put, putA, upd]
theorem put_app (P : jO) (j i : Nat) (v : Int32) (j' i' : Nat) : put P j i v j' i' = if j' = j ∧ i' = i then v else P j' i' := by
  by_cases h : j' = j
  · subst h; simp [put_at]
  · simp [put_ne h, h]
theorem wld_len (E : jE) (G : jG) : (wld E G).length = 109 := by simp [wld]
theorem wld_get (E : jE) (S : jS) (k : jX) {o j : Nat} (ho : o < 13) (hj : j < wid o) : (wld E (S, k))[bas o + j]? = some (ad E o j, cel E k o (S o) j) := by
  obtain ⟨h1, h2⟩ := loc_off o ho j hj
  simp [wld, h2, h1, ad]
theorem wld_at (E : jE) (G : jG) {q : Nat} (hq : q < 109) : (wld E G)[q]? = some (E.1 + q, cel E G.2 (loc q).1 (G.1 (loc q).1) (loc q).2) := by
  simp [wld, hq]
theorem wld_set (E : jE) (S : jS) (k : jX) {o j : Nat} (ho : o < 13) (hj : j < wid o) (P P' : jO) (e : va_E) (he : cel E k o P' j = e) (hr : ∀ j', j' < wid o → j' ≠ j → cel E k o P' j' = cel E k o P j') :
    (wld E (setO S o P, k)).set (bas o + j) (ad E o j, e) = wld E (setO S o P', k) := by
  obtain ⟨h1, h2⟩ := loc_off o ho j hj
  apply List.ext_getElem?
  intro i
  by_cases hi : i < 109
  · by_cases hq : i = bas o + j
    · subst hq
      rw [List.getElem?_set_self (by rw [wld_len]; exact hi), wld_get E _ k ho hj, setO_at, he]
    · rw [List.getElem?_set_ne (Ne.symm hq), wld_at E _ hi, wld_at E _ hi]
      congr 2
      show cel E k (loc i).1 (setO S o P (loc i).1) (loc i).2 = cel E k (loc i).1 (setO S o P' (loc i).1) (loc i).2
      by_cases h3 : (loc i).1 = o
      · have h4 : (loc i).2 ≠ j := by
          intro h
          have h5 := (loc_ok i hi).1
          rw [h3, h] at h5
          exact hq h5.symm
        have h6 := (loc_ok i hi).2
        rw [h3] at h6
        rw [h3, setO_at, setO_at, hr _ h6 h4]
      · rw [setO_ne h3, setO_ne h3]
  · rw [List.getElem?_eq_none (by rw [List.length_set, wld_len]; omega), List.getElem?_eq_none (by rw [wld_len]; omega)]
theorem wld_D (E : jE) (G : jG) : va_D (jA E) (wld E G) := by
  have key : ∀ (i : Nat) (p : Nat × va_E), (wld E G)[i]? = some p → p.1 = E.1 + i := by
    intro i p h
    have hi : i < 109 := by
      have := (List.getElem?_eq_some_iff.mp h).1
      rwa [wld_len] at this
    rw [wld_at E G hi] at h
    rw [← Option.some.inj h]
  refine ⟨fun i j p q hi hj hpq => ?_, fun k q hk => ?_⟩
  · have h1 := key i p hi
    have h2 := key j q hj
    omega
  · have h1 := key k q hk
    show E.1 ≤ q.1
    omega
theorem aln_0 (o : Nat) : aln o 0 = 0 := by simp [aln]
theorem cel_arr {E : jE} {k : jX} {o j : Nat} {P : jO} (h : 0 < aln o j) : cel E k o P j = .inl (E.2.2.1.1, aln o j, .inl (P j)) := by simp [cel, h]
theorem cel_0 (E : jE) (k : jX) (o : Nat) (P : jO) : cel E k o P 0 = scal E k o P 0 := by simp [cel, aln_0]
theorem aln_pos : ∀ o, o < 13 → ∀ j, j < wid o → j ≠ 0 → o ≠ 9 → 0 < aln o j := by decide +kernel
theorem aln_wid : ∀ o, o < 13 → ∀ j, 0 < aln o j → j < wid o := by
  intro o ho j h
  unfold aln at h
  unfold wid
  repeat' split at h
  all_goals (repeat' split) <;> omega
theorem scal_put {E : jE} {k : jX} {o : Nat} {P P' : jO} (h : P' 0 = P 0) (j : Nat) : scal E k o P' j = scal E k o P j := by
  unfold scal poolF ordF savF
  rw [h]
theorem scal_P {E : jE} {k : jX} {o : Nat} {P P' : jO} {j : Nat} (ho : o < 13) (hj : j < wid o) (h0 : j ≠ 0) (h : ¬ 0 < aln o j) : scal E k o P' j = scal E k o P j := by
  have h9 : o = 9 := by
    rcases Nat.decEq o 9 with q | q
    · exact absurd (aln_pos o ho j hj h0 q) h
    · exact q
  subst h9
  simp [scal, h0]
theorem wld_arr (E : jE) (S : jS) (k : jX) {o j : Nat} (ho : o < 13) (h : 0 < aln o j) (P : jO) (f : Nat → Int32) :
    (wld E (setO S o P, k)).set (bas o + j) (ad E o j, .inl (E.2.2.1.1, aln o j, .inl f)) = wld E (setO S o (putA P j f), k) := by
  have h0 : j ≠ 0 := by
    intro q
    subst q
    simp [aln_0] at h
  refine wld_set E S k ho (aln_wid o ho j h) P _ _ (by rw [cel_arr h, putA_at]) (fun j' _ hj' => ?_)
  unfold cel
  rw [putA_ne hj', scal_put (putA_ne (Ne.symm h0))]
theorem wld_fld (E : jE) (S : jS) (k : jX) {o : Nat} (ho : o ≠ 10 ∧ o < 12) (P : jO) (i : Nat) (v : Int32) (fs : va_E) (hf : scal E k o (put P 0 i v) 0 = fs) :
    (wld E (setO S o P, k)).set (bas o + 0) (ad E o 0, fs) = wld E (setO S o (put P 0 i v), k) := by
  have hw : 0 < wid o := by
    unfold wid
    repeat' split
    all_goals omega
  refine wld_set E S k (by omega) hw P _ _ (by rw [cel_0, hf]) (fun j' hw' hj' => ?_)
  unfold cel
  rw [put_ne hj']
  split
  · rfl
  · exact scal_P (by omega) hw' hj' ‹_›
