/-! FLOATS, by cases -/
def chkA (z f : Nat) : Bool := nn32 (fulQ z (nI f)) && okF (fulQ z (nI f)) && decide (ofF (fulQ z (nI f)) = (fulQ z (nI f)).toInt32) && decide (FP.fcmp (fulQ z (nI f)) (fulQ z (nI f)) = some .eq)
def chkB (lo f : Nat) : Bool := nn32 (scaD (nI lo) (nI f)) && nn32 (scaQ (nI lo) (nI f)) && okF (scaQ (nI lo) (nI f)) && decide (ofF (scaQ (nI lo) (nI f)) = (scaQ (nI lo) (nI f)).toInt32) && decide (FP.fcmp (scaQ (nI lo) (nI f)) (scaQ (nI lo) (nI f)) = some .eq)
def allA (a b : Nat) : Bool := (List.range (b - a)).all fun i => (List.range (a + i + 1)).all fun f => chkA (a + i) f
def allB (a b : Nat) : Bool := (List.range (b - a)).all fun i => (List.range (a + i + 1)).all fun lo => chkB lo (a + i)
theorem allA_1 : allA 4 30 = true := by decide +kernel
theorem allA_2 : allA 30 45 = true := by decide +kernel
theorem allA_3 : allA 45 56 = true := by decide +kernel
theorem allA_4 : allA 56 65 = true := by decide +kernel
theorem allB_1 : allB 1 30 = true := by decide +kernel
theorem allB_2 : allB 30 45 = true := by decide +kernel
theorem allB_3 : allB 45 56 = true := by decide +kernel
theorem allB_4 : allB 56 65 = true := by decide +kernel
theorem all_at {p : Nat → Nat → Bool} {a b z f : Nat} (h : ((List.range (b - a)).all fun i => (List.range (a + i + 1)).all fun f => p (a + i) f) = true) (h1 : a ≤ z) (h2 : z < b) (h3 : f ≤ z) : p z f = true := by
  rw [List.all_eq_true] at h
  have h4 := h (z - a) (List.mem_range.mpr (by omega))
  rw [show a + (z - a) = z by omega, List.all_eq_true] at h4
  exact h4 f (List.mem_range.mpr (by omega))
theorem chkA_all {z f : Nat} (h1 : 4 ≤ z) (h2 : z ≤ 64) (h3 : f ≤ z) : chkA z f = true := by
  by_cases a : z < 30
  · exact all_at (p := chkA) allA_1 h1 a h3
  · by_cases b : z < 45
    · exact all_at (p := chkA) allA_2 (by omega) b h3
    · by_cases c : z < 56
      · exact all_at (p := chkA) allA_3 (by omega) c h3
      · exact all_at (p := chkA) allA_4 (by omega) (by omega) h3
theorem chkB_all {lo f : Nat} (h1 : 1 ≤ f) (h2 : f ≤ 64) (h3 : lo ≤ f) : chkB lo f = true := by
  by_cases a : f < 30
  · exact all_at (p := fun f lo => chkB lo f) allB_1 h1 a h3
  · by_cases b : f < 45
    · exact all_at (p := fun f lo => chkB lo f) allB_2 (by omega) b h3
    · by_cases c : f < 56
      · exact all_at (p := fun f lo => chkB lo f) allB_3 (by omega) c h3
      · exact all_at (p := fun f lo => chkB lo f) allB_4 (by omega) (by omega) h3
