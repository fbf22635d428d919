-- ===== PART A: goes FIRST, ahead of the names: the tables' words, and 'selects' of the private methods out of them =====
/-- a private method of a class that the tables say can be made, by its rows of tables_1 -/
def lw_okq (q : MethodName × Nat) : Prop := (q.1.cls ≠ "java/lang/invoke/MethodHandle" ∧ q.1.cls ≠ "java/lang/invoke/VarHandle") ∧ Cond.instantiable q.1.cls q.2 ∈ tables_1 ∧ Cond.privateMethod q.1 ∈ tables_1 ∧ Cond.instanceMethod q.1 ∈ tables_1
theorem lw_p0 : lw_okq (⟨"java/lang/Throwable", "fillInStackTrace", "(I)Ljava/lang/Throwable;"⟩, 6) := ⟨⟨by decide +kernel, by decide +kernel⟩, List.mem_of_getElem? (i := 178) (by decide +kernel), List.mem_of_getElem? (i := 176) (by decide +kernel), List.mem_of_getElem? (i := 177) (by decide +kernel)⟩
theorem lw_p1 : lw_okq (⟨"NumberLeases$Pool", "startOfSpan", "(I)I"⟩, 16) := ⟨⟨by decide +kernel, by decide +kernel⟩, List.mem_of_getElem? (i := 22) (by decide +kernel), List.mem_of_getElem? (i := 210) (by decide +kernel), List.mem_of_getElem? (i := 211) (by decide +kernel)⟩
theorem lw_p2 : lw_okq (⟨"NumberLeases$Pool", "startsSpan", "(I)Z"⟩, 16) := ⟨⟨by decide +kernel, by decide +kernel⟩, List.mem_of_getElem? (i := 22) (by decide +kernel), List.mem_of_getElem? (i := 214) (by decide +kernel), List.mem_of_getElem? (i := 215) (by decide +kernel)⟩
theorem lw_p3 : lw_okq (⟨"NumberLeases$Pool", "rowFrom", "(I)I"⟩, 16) := ⟨⟨by decide +kernel, by decide +kernel⟩, List.mem_of_getElem? (i := 22) (by decide +kernel), List.mem_of_getElem? (i := 218) (by decide +kernel), List.mem_of_getElem? (i := 219) (by decide +kernel)⟩
theorem lw_p4 : lw_okq (⟨"NumberLeases", "countOf", "(I)I"⟩, 4) := ⟨⟨by decide +kernel, by decide +kernel⟩, List.mem_of_getElem? (i := 14) (by decide +kernel), List.mem_of_getElem? (i := 226) (by decide +kernel), List.mem_of_getElem? (i := 227) (by decide +kernel)⟩
theorem lw_p5 : lw_okq (⟨"NumberLeases$Pool", "numbersIn", "(I)I"⟩, 16) := ⟨⟨by decide +kernel, by decide +kernel⟩, List.mem_of_getElem? (i := 22) (by decide +kernel), List.mem_of_getElem? (i := 238) (by decide +kernel), List.mem_of_getElem? (i := 239) (by decide +kernel)⟩
theorem lw_p6 : lw_okq (⟨"NumberLeases$Pool", "stateOf", "(I)I"⟩, 16) := ⟨⟨by decide +kernel, by decide +kernel⟩, List.mem_of_getElem? (i := 22) (by decide +kernel), List.mem_of_getElem? (i := 242) (by decide +kernel), List.mem_of_getElem? (i := 243) (by decide +kernel)⟩
theorem lw_p7 : lw_okq (⟨"NumberLeases", "leaseLowest", "(III)I"⟩, 4) := ⟨⟨by decide +kernel, by decide +kernel⟩, List.mem_of_getElem? (i := 14) (by decide +kernel), List.mem_of_getElem? (i := 276) (by decide +kernel), List.mem_of_getElem? (i := 277) (by decide +kernel)⟩
theorem lw_p8 : lw_okq (⟨"NumberLeases$Pool", "hasRoom", "(II)Z"⟩, 16) := ⟨⟨by decide +kernel, by decide +kernel⟩, List.mem_of_getElem? (i := 22) (by decide +kernel), List.mem_of_getElem? (i := 302) (by decide +kernel), List.mem_of_getElem? (i := 303) (by decide +kernel)⟩
theorem lw_p9 : lw_okq (⟨"NumberLeases$Pool", "numbersOf", "(I)I"⟩, 16) := ⟨⟨by decide +kernel, by decide +kernel⟩, List.mem_of_getElem? (i := 22) (by decide +kernel), List.mem_of_getElem? (i := 306) (by decide +kernel), List.mem_of_getElem? (i := 307) (by decide +kernel)⟩
theorem lw_p10 : lw_okq (⟨"NumberLeases$Pool", "lowestRow", "(I)I"⟩, 16) := ⟨⟨by decide +kernel, by decide +kernel⟩, List.mem_of_getElem? (i := 22) (by decide +kernel), List.mem_of_getElem? (i := 310) (by decide +kernel), List.mem_of_getElem? (i := 311) (by decide +kernel)⟩
theorem lw_p11 : lw_okq (⟨"NumberLeases$Saves", "dropOldest", "()V"⟩, 2) := ⟨⟨by decide +kernel, by decide +kernel⟩, List.mem_of_getElem? (i := 82) (by decide +kernel), List.mem_of_getElem? (i := 336) (by decide +kernel), List.mem_of_getElem? (i := 337) (by decide +kernel)⟩
theorem lw_p12 : lw_okq (⟨"NumberLeases$Pool", "lease", "(III)V"⟩, 16) := ⟨⟨by decide +kernel, by decide +kernel⟩, List.mem_of_getElem? (i := 22) (by decide +kernel), List.mem_of_getElem? (i := 357) (by decide +kernel), List.mem_of_getElem? (i := 358) (by decide +kernel)⟩
theorem lw_p13 : lw_okq (⟨"NumberLeases", "needNumber", "(I)V"⟩, 4) := ⟨⟨by decide +kernel, by decide +kernel⟩, List.mem_of_getElem? (i := 14) (by decide +kernel), List.mem_of_getElem? (i := 402) (by decide +kernel), List.mem_of_getElem? (i := 403) (by decide +kernel)⟩
theorem lw_p14 : lw_okq (⟨"NumberLeases$Pool", "free", "(I)V"⟩, 16) := ⟨⟨by decide +kernel, by decide +kernel⟩, List.mem_of_getElem? (i := 22) (by decide +kernel), List.mem_of_getElem? (i := 445) (by decide +kernel), List.mem_of_getElem? (i := 446) (by decide +kernel)⟩
theorem lw_p15 : lw_okq (⟨"NumberLeases$Pool", "countUnits", "()V"⟩, 16) := ⟨⟨by decide +kernel, by decide +kernel⟩, List.mem_of_getElem? (i := 22) (by decide +kernel), List.mem_of_getElem? (i := 474) (by decide +kernel), List.mem_of_getElem? (i := 475) (by decide +kernel)⟩
def lw_privs_1 : List (MethodName × Nat) := [(⟨"java/lang/Throwable", "fillInStackTrace", "(I)Ljava/lang/Throwable;"⟩, 6), (⟨"NumberLeases$Pool", "startOfSpan", "(I)I"⟩, 16), (⟨"NumberLeases$Pool", "startsSpan", "(I)Z"⟩, 16), (⟨"NumberLeases$Pool", "rowFrom", "(I)I"⟩, 16), (⟨"NumberLeases", "countOf", "(I)I"⟩, 4), (⟨"NumberLeases$Pool", "numbersIn", "(I)I"⟩, 16), (⟨"NumberLeases$Pool", "stateOf", "(I)I"⟩, 16), (⟨"NumberLeases", "leaseLowest", "(III)I"⟩, 4), (⟨"NumberLeases$Pool", "hasRoom", "(II)Z"⟩, 16), (⟨"NumberLeases$Pool", "numbersOf", "(I)I"⟩, 16), (⟨"NumberLeases$Pool", "lowestRow", "(I)I"⟩, 16), (⟨"NumberLeases$Saves", "dropOldest", "()V"⟩, 2), (⟨"NumberLeases$Pool", "lease", "(III)V"⟩, 16), (⟨"NumberLeases", "needNumber", "(I)V"⟩, 4), (⟨"NumberLeases$Pool", "free", "(I)V"⟩, 16), (⟨"NumberLeases$Pool", "countUnits", "()V"⟩, 16)]
theorem lw_r1 : ∀ q ∈ lw_privs_1, lw_okq q := List.forall_mem_cons.mpr ⟨lw_p0, List.forall_mem_cons.mpr ⟨lw_p1, List.forall_mem_cons.mpr ⟨lw_p2, List.forall_mem_cons.mpr ⟨lw_p3, List.forall_mem_cons.mpr ⟨lw_p4, List.forall_mem_cons.mpr ⟨lw_p5, List.forall_mem_cons.mpr ⟨lw_p6, List.forall_mem_cons.mpr ⟨lw_p7, List.forall_mem_cons.mpr ⟨lw_p8, List.forall_mem_cons.mpr ⟨lw_p9, List.forall_mem_cons.mpr ⟨lw_p10, List.forall_mem_cons.mpr ⟨lw_p11, List.forall_mem_cons.mpr ⟨lw_p12, List.forall_mem_cons.mpr ⟨lw_p13, List.forall_mem_cons.mpr ⟨lw_p14, List.forall_mem_cons.mpr ⟨lw_p15, fun _ h => absurd h List.not_mem_nil⟩⟩⟩⟩⟩⟩⟩⟩⟩⟩⟩⟩⟩⟩⟩⟩
theorem lw_p16 : lw_okq (⟨"NumberLeases$Pool", "freeDue", "()V"⟩, 16) := ⟨⟨by decide +kernel, by decide +kernel⟩, List.mem_of_getElem? (i := 22) (by decide +kernel), List.mem_of_getElem? (i := 478) (by decide +kernel), List.mem_of_getElem? (i := 479) (by decide +kernel)⟩
theorem lw_p17 : lw_okq (⟨"NumberLeases", "holderAfter", "(II)I"⟩, 4) := ⟨⟨by decide +kernel, by decide +kernel⟩, List.mem_of_getElem? (i := 14) (by decide +kernel), List.mem_of_getElem? (i := 508) (by decide +kernel), List.mem_of_getElem? (i := 509) (by decide +kernel)⟩
theorem lw_p18 : lw_okq (⟨"NumberLeases", "timeToWished", "(II)I"⟩, 4) := ⟨⟨by decide +kernel, by decide +kernel⟩, List.mem_of_getElem? (i := 14) (by decide +kernel), List.mem_of_getElem? (i := 521) (by decide +kernel), List.mem_of_getElem? (i := 522) (by decide +kernel)⟩
theorem lw_p19 : lw_okq (⟨"NumberLeases$Pool", "numbersOfIn", "(II)I"⟩, 16) := ⟨⟨by decide +kernel, by decide +kernel⟩, List.mem_of_getElem? (i := 22) (by decide +kernel), List.mem_of_getElem? (i := 536) (by decide +kernel), List.mem_of_getElem? (i := 537) (by decide +kernel)⟩
theorem lw_p20 : lw_okq (⟨"NumberLeases$Pool", "wishesOf", "(I)I"⟩, 16) := ⟨⟨by decide +kernel, by decide +kernel⟩, List.mem_of_getElem? (i := 22) (by decide +kernel), List.mem_of_getElem? (i := 540) (by decide +kernel), List.mem_of_getElem? (i := 541) (by decide +kernel)⟩
theorem lw_p21 : lw_okq (⟨"NumberLeases$Pool", "leastOf", "(I)I"⟩, 16) := ⟨⟨by decide +kernel, by decide +kernel⟩, List.mem_of_getElem? (i := 22) (by decide +kernel), List.mem_of_getElem? (i := 544) (by decide +kernel), List.mem_of_getElem? (i := 545) (by decide +kernel)⟩
theorem lw_p22 : lw_okq (⟨"NumberLeases$Pool", "leastEndOf", "(I)I"⟩, 16) := ⟨⟨by decide +kernel, by decide +kernel⟩, List.mem_of_getElem? (i := 22) (by decide +kernel), List.mem_of_getElem? (i := 548) (by decide +kernel), List.mem_of_getElem? (i := 549) (by decide +kernel)⟩
theorem lw_p23 : lw_okq (⟨"NumberLeases", "timeToFree", "(I)I"⟩, 4) := ⟨⟨by decide +kernel, by decide +kernel⟩, List.mem_of_getElem? (i := 14) (by decide +kernel), List.mem_of_getElem? (i := 559) (by decide +kernel), List.mem_of_getElem? (i := 560) (by decide +kernel)⟩
def lw_privs_2 : List (MethodName × Nat) := [(⟨"NumberLeases$Pool", "freeDue", "()V"⟩, 16), (⟨"NumberLeases", "holderAfter", "(II)I"⟩, 4), (⟨"NumberLeases", "timeToWished", "(II)I"⟩, 4), (⟨"NumberLeases$Pool", "numbersOfIn", "(II)I"⟩, 16), (⟨"NumberLeases$Pool", "wishesOf", "(I)I"⟩, 16), (⟨"NumberLeases$Pool", "leastOf", "(I)I"⟩, 16), (⟨"NumberLeases$Pool", "leastEndOf", "(I)I"⟩, 16), (⟨"NumberLeases", "timeToFree", "(I)I"⟩, 4)]
theorem lw_r2 : ∀ q ∈ lw_privs_2, lw_okq q := List.forall_mem_cons.mpr ⟨lw_p16, List.forall_mem_cons.mpr ⟨lw_p17, List.forall_mem_cons.mpr ⟨lw_p18, List.forall_mem_cons.mpr ⟨lw_p19, List.forall_mem_cons.mpr ⟨lw_p20, List.forall_mem_cons.mpr ⟨lw_p21, List.forall_mem_cons.mpr ⟨lw_p22, List.forall_mem_cons.mpr ⟨lw_p23, fun _ h => absurd h List.not_mem_nil⟩⟩⟩⟩⟩⟩⟩⟩
def lw_privs : List (MethodName × Nat) := lw_privs_1 ++ (lw_privs_2)
def lw_tbl : List Cond := k2_sels lw_privs ++ tables_1
theorem lw_privs_ok : ∀ q ∈ lw_privs, lw_okq q := by
  show ∀ q ∈ lw_privs_1 ++ (lw_privs_2), lw_okq q
  exact List.forall_mem_append.mpr ⟨lw_r1, lw_r2⟩

def RX0 : String := "NumberLeases$Bits"
def TX0 : u_T := fun k => match k with
  | _ => ("", "", "", false)
def tyX0 : Nat → FieldType := fun k => match k with
  | _ => .int
abbrev wsX00 : List Cond := u_ws RX0 TX0 0
theorem nmX0 : ∀ a, a < 0 → ∀ b, b < 0 → a ≠ b → (TX0 a).2.1 ≠ (TX0 b).2.1 := by decide +kernel
theorem tyX0_ok : ∀ k, k < 0 → parseFieldDescriptor (TX0 k).2.2.1 = some (tyX0 k) := by decide +kernel
def RX1 : String := "NumberLeases$Orders"
def TX1 : u_T := fun k => match k with
  | 0 => ("NumberLeases$Orders", "signs", "[I", true)
  | 1 => ("NumberLeases$Orders", "length", "I", false)
  | 2 => ("NumberLeases$Orders", "at", "I", false)
  | 3 => ("NumberLeases$Orders", "stopped", "Z", false)
  | 4 => ("NumberLeases$Orders", "kind", "I", false)
  | 5 => ("NumberLeases$Orders", "holder", "I", false)
  | 6 => ("NumberLeases$Orders", "first", "I", false)
  | _ => ("NumberLeases$Orders", "second", "I", false)
def tyX1 : Nat → FieldType := fun k => match k with
  | 0 => .array .int
  | 1 => .int
  | 2 => .int
  | 3 => .boolean
  | 4 => .int
  | 5 => .int
  | 6 => .int
  | _ => .int
abbrev wsX10 : List Cond := u_ws RX1 TX1 8
theorem nmX1 : ∀ a, a < 8 → ∀ b, b < 8 → a ≠ b → (TX1 a).2.1 ≠ (TX1 b).2.1 := by decide +kernel
theorem tyX1_ok : ∀ k, k < 8 → parseFieldDescriptor (TX1 k).2.2.1 = some (tyX1 k) := by decide +kernel
abbrev cX1_init : ByteArray := prog_3_method_1_code
def yX1_init : MethodName := ⟨RX1, "<init>", "()V"⟩
def RX2 : String := "NumberLeases$Pool"
def TX2 : u_T := fun k => match k with
  | 0 => ("NumberLeases$Pool", "time", "I", false)
  | 1 => ("NumberLeases$Pool", "renewals", "I", false)
  | 2 => ("NumberLeases$Pool", "graceRenewals", "I", false)
  | 3 => ("NumberLeases$Pool", "freed", "I", false)
  | 4 => ("NumberLeases$Pool", "settings", "[I", true)
  | 5 => ("NumberLeases$Pool", "whose", "[I", true)
  | 6 => ("NumberLeases$Pool", "begin", "[I", true)
  | 7 => ("NumberLeases$Pool", "end", "[I", true)
  | 8 => ("NumberLeases$Pool", "last", "[I", true)
  | 9 => ("NumberLeases$Pool", "given", "[I", true)
  | 10 => ("NumberLeases$Pool", "waiting", "[I", true)
  | 11 => ("NumberLeases$Pool", "wishers", "[I", true)
  | 12 => ("NumberLeases$Pool", "wishTerms", "[I", true)
  | 13 => ("NumberLeases$Pool", "leases", "[I", true)
  | 14 => ("NumberLeases$Pool", "lost", "[I", true)
  | _ => ("NumberLeases$Pool", "units", "[I", true)
def tyX2 : Nat → FieldType := fun k => match k with
  | 0 => .int
  | 1 => .int
  | 2 => .int
  | 3 => .int
  | 4 => .array .int
  | 5 => .array .int
  | 6 => .array .int
  | 7 => .array .int
  | 8 => .array .int
  | 9 => .array .int
  | 10 => .array .int
  | 11 => .array .int
  | 12 => .array .int
  | 13 => .array .int
  | 14 => .array .int
  | _ => .array .int
abbrev wsX20 : List Cond := u_ws RX2 TX2 16
theorem nmX2 : ∀ a, a < 16 → ∀ b, b < 16 → a ≠ b → (TX2 a).2.1 ≠ (TX2 b).2.1 := by decide +kernel
theorem tyX2_ok : ∀ k, k < 16 → parseFieldDescriptor (TX2 k).2.2.1 = some (tyX2 k) := by decide +kernel
abbrev cX2_init : ByteArray := prog_4_method_1_code
def yX2_init : MethodName := ⟨RX2, "<init>", "()V"⟩
abbrev cX2_copyFrom : ByteArray := prog_4_method_2_code
def yX2_copyFrom : MethodName := ⟨RX2, "copyFrom", "(LNumberLeases$Pool;)V"⟩
abbrev cX2_copyRow : ByteArray := prog_4_method_3_code
def yX2_copyRow : MethodName := ⟨RX2, "copyRow", "([I[I)V"⟩
abbrev cX2_hasNumber : ByteArray := prog_4_method_4_code
def yX2_hasNumber : MethodName := ⟨RX2, "hasNumber", "(I)Z"⟩
abbrev cX2_mayLease : ByteArray := prog_4_method_5_code
def yX2_mayLease : MethodName := ⟨RX2, "mayLease", "(II)Z"⟩
abbrev cX2_mayWish : ByteArray := prog_4_method_6_code
def yX2_mayWish : MethodName := ⟨RX2, "mayWish", "(II)Z"⟩
abbrev cX2_mayRenew : ByteArray := prog_4_method_7_code
def yX2_mayRenew : MethodName := ⟨RX2, "mayRenew", "(II)Z"⟩
abbrev cX2_hasTimeFor : ByteArray := prog_4_method_8_code
def yX2_hasTimeFor : MethodName := ⟨RX2, "hasTimeFor", "(I)Z"⟩
abbrev cX2_fitsIn : ByteArray := prog_4_method_9_code
def yX2_fitsIn : MethodName := ⟨RX2, "fitsIn", "(I)Z"⟩
abbrev cX2_hasRoom : ByteArray := prog_4_method_10_code
def yX2_hasRoom : MethodName := ⟨RX2, "hasRoom", "(II)Z"⟩
abbrev cX2_leaseRow : ByteArray := prog_4_method_11_code
def yX2_leaseRow : MethodName := ⟨RX2, "leaseRow", "(III)I"⟩
abbrev cX2_lease : ByteArray := prog_4_method_12_code
def yX2_lease : MethodName := ⟨RX2, "lease", "(III)V"⟩
abbrev cX2_prolong : ByteArray := prog_4_method_13_code
def yX2_prolong : MethodName := ⟨RX2, "prolong", "(II)I"⟩
abbrev cX2_freeSpan : ByteArray := prog_4_method_14_code
def yX2_freeSpan : MethodName := ⟨RX2, "freeSpan", "(III)I"⟩
abbrev cX2_free : ByteArray := prog_4_method_15_code
def yX2_free : MethodName := ⟨RX2, "free", "(I)V"⟩
abbrev cX2_addWish : ByteArray := prog_4_method_16_code
def yX2_addWish : MethodName := ⟨RX2, "addWish", "(III)I"⟩
abbrev cX2_placeOfWish : ByteArray := prog_4_method_17_code
def yX2_placeOfWish : MethodName := ⟨RX2, "placeOfWish", "(II)I"⟩
abbrev cX2_dropWish : ByteArray := prog_4_method_18_code
def yX2_dropWish : MethodName := ⟨RX2, "dropWish", "(II)V"⟩
abbrev cX2_passUnits : ByteArray := prog_4_method_19_code
def yX2_passUnits : MethodName := ⟨RX2, "passUnits", "(I)I"⟩
abbrev cX2_leap : ByteArray := prog_4_method_20_code
def yX2_leap : MethodName := ⟨RX2, "leap", "(I)Z"⟩
abbrev cX2_countUnits : ByteArray := prog_4_method_21_code
def yX2_countUnits : MethodName := ⟨RX2, "countUnits", "()V"⟩
abbrev cX2_freeDue : ByteArray := prog_4_method_22_code
def yX2_freeDue : MethodName := ⟨RX2, "freeDue", "()V"⟩
abbrev cX2_stateOf : ByteArray := prog_4_method_23_code
def yX2_stateOf : MethodName := ⟨RX2, "stateOf", "(I)I"⟩
abbrev cX2_ofNumber : ByteArray := prog_4_method_24_code
def yX2_ofNumber : MethodName := ⟨RX2, "ofNumber", "(II)I"⟩
abbrev cX2_ofHolder : ByteArray := prog_4_method_25_code
def yX2_ofHolder : MethodName := ⟨RX2, "ofHolder", "(II)I"⟩
abbrev cX2_ofSpan : ByteArray := prog_4_method_26_code
def yX2_ofSpan : MethodName := ⟨RX2, "ofSpan", "(II)I"⟩
abbrev cX2_ofAll : ByteArray := prog_4_method_27_code
def yX2_ofAll : MethodName := ⟨RX2, "ofAll", "(I)I"⟩
abbrev cX2_freeNumbers : ByteArray := prog_4_method_28_code
def yX2_freeNumbers : MethodName := ⟨RX2, "freeNumbers", "()I"⟩
abbrev cX2_numbersIn : ByteArray := prog_4_method_29_code
def yX2_numbersIn : MethodName := ⟨RX2, "numbersIn", "(I)I"⟩
abbrev cX2_numbersOf : ByteArray := prog_4_method_30_code
def yX2_numbersOf : MethodName := ⟨RX2, "numbersOf", "(I)I"⟩
abbrev cX2_numbersOfIn : ByteArray := prog_4_method_31_code
def yX2_numbersOfIn : MethodName := ⟨RX2, "numbersOfIn", "(II)I"⟩
abbrev cX2_wishesOf : ByteArray := prog_4_method_32_code
def yX2_wishesOf : MethodName := ⟨RX2, "wishesOf", "(I)I"⟩
abbrev cX2_leastOf : ByteArray := prog_4_method_33_code
def yX2_leastOf : MethodName := ⟨RX2, "leastOf", "(I)I"⟩
abbrev cX2_leastEndOf : ByteArray := prog_4_method_34_code
def yX2_leastEndOf : MethodName := ⟨RX2, "leastEndOf", "(I)I"⟩
abbrev cX2_rowFrom : ByteArray := prog_4_method_35_code
def yX2_rowFrom : MethodName := ⟨RX2, "rowFrom", "(I)I"⟩
abbrev cX2_lowestRow : ByteArray := prog_4_method_36_code
def yX2_lowestRow : MethodName := ⟨RX2, "lowestRow", "(I)I"⟩
abbrev cX2_longestRow : ByteArray := prog_4_method_37_code
def yX2_longestRow : MethodName := ⟨RX2, "longestRow", "()I"⟩
abbrev cX2_spans : ByteArray := prog_4_method_38_code
def yX2_spans : MethodName := ⟨RX2, "spans", "()I"⟩
abbrev cX2_startOfSpan : ByteArray := prog_4_method_39_code
def yX2_startOfSpan : MethodName := ⟨RX2, "startOfSpan", "(I)I"⟩
abbrev cX2_startsSpan : ByteArray := prog_4_method_40_code
def yX2_startsSpan : MethodName := ⟨RX2, "startsSpan", "(I)Z"⟩
def RX3 : String := "NumberLeases$Saves"
def TX3 : u_T := fun k => match k with
  | 0 => ("NumberLeases$Saves", "kept", "[LNumberLeases$Pool;", true)
  | _ => ("NumberLeases$Saves", "many", "I", false)
def tyX3 : Nat → FieldType := fun k => match k with
  | 0 => .array (.object "NumberLeases$Pool")
  | _ => .int
abbrev wsX30 : List Cond := u_ws RX3 TX3 2
theorem nmX3 : ∀ a, a < 2 → ∀ b, b < 2 → a ≠ b → (TX3 a).2.1 ≠ (TX3 b).2.1 := by decide +kernel
theorem tyX3_ok : ∀ k, k < 2 → parseFieldDescriptor (TX3 k).2.2.1 = some (tyX3 k) := by decide +kernel
abbrev cX3_init : ByteArray := prog_5_method_1_code
def yX3_init : MethodName := ⟨RX3, "<init>", "()V"⟩
abbrev cX3_keep : ByteArray := prog_5_method_2_code
def yX3_keep : MethodName := ⟨RX3, "keep", "(LNumberLeases$Pool;)V"⟩
abbrev cX3_restore : ByteArray := prog_5_method_3_code
def yX3_restore : MethodName := ⟨RX3, "restore", "(LNumberLeases$Pool;)V"⟩
abbrev cX3_dropOldest : ByteArray := prog_5_method_4_code
def yX3_dropOldest : MethodName := ⟨RX3, "dropOldest", "()V"⟩
def RX4 : String := "NumberLeases"
def TX4 : u_T := fun k => match k with
  | 0 => ("NumberLeases", "pool", "LNumberLeases$Pool;", true)
  | 1 => ("NumberLeases", "ahead", "LNumberLeases$Pool;", true)
  | 2 => ("NumberLeases", "saves", "LNumberLeases$Saves;", true)
  | _ => ("NumberLeases", "orders", "LNumberLeases$Orders;", true)
def tyX4 : Nat → FieldType := fun k => match k with
  | 0 => .object "NumberLeases$Pool"
  | 1 => .object "NumberLeases$Pool"
  | 2 => .object "NumberLeases$Saves"
  | _ => .object "NumberLeases$Orders"
abbrev wsX40 : List Cond := u_ws RX4 TX4 4
theorem nmX4 : ∀ a, a < 4 → ∀ b, b < 4 → a ≠ b → (TX4 a).2.1 ≠ (TX4 b).2.1 := by decide +kernel
theorem tyX4_ok : ∀ k, k < 4 → parseFieldDescriptor (TX4 k).2.2.1 = some (tyX4 k) := by decide +kernel
abbrev cX4_init : ByteArray := prog_1_method_1_code
def yX4_init : MethodName := ⟨RX4, "<init>", "()V"⟩
abbrev cX4_take : ByteArray := prog_1_method_2_code
def yX4_take : MethodName := ⟨RX4, "take", "(II)I"⟩
abbrev cX4_takeSpan : ByteArray := prog_1_method_3_code
def yX4_takeSpan : MethodName := ⟨RX4, "takeSpan", "(III)I"⟩
abbrev cX4_wish : ByteArray := prog_1_method_4_code
def yX4_wish : MethodName := ⟨RX4, "wish", "(III)I"⟩
abbrev cX4_unwish : ByteArray := prog_1_method_5_code
def yX4_unwish : MethodName := ⟨RX4, "unwish", "(II)I"⟩
abbrev cX4_renew : ByteArray := prog_1_method_6_code
def yX4_renew : MethodName := ⟨RX4, "renew", "(III)I"⟩
abbrev cX4_giveBack : ByteArray := prog_1_method_7_code
def yX4_giveBack : MethodName := ⟨RX4, "giveBack", "(III)I"⟩
abbrev cX4_pass : ByteArray := prog_1_method_8_code
def yX4_pass : MethodName := ⟨RX4, "pass", "(I)I"⟩
abbrev cX4_set : ByteArray := prog_1_method_9_code
def yX4_set : MethodName := ⟨RX4, "set", "(II)I"⟩
abbrev cX4_undo : ByteArray := prog_1_method_14_code
def yX4_undo : MethodName := ⟨RX4, "undo", "()I"⟩
abbrev cX4_number : ByteArray := prog_1_method_15_code
def yX4_number : MethodName := ⟨RX4, "number", "(II)I"⟩
abbrev cX4_holder : ByteArray := prog_1_method_16_code
def yX4_holder : MethodName := ⟨RX4, "holder", "(II)I"⟩
abbrev cX4_span : ByteArray := prog_1_method_17_code
def yX4_span : MethodName := ⟨RX4, "span", "(II)I"⟩
abbrev cX4_count : ByteArray := prog_1_method_18_code
def yX4_count : MethodName := ⟨RX4, "count", "(I)I"⟩
abbrev cX4_setting : ByteArray := prog_1_method_19_code
def yX4_setting : MethodName := ⟨RX4, "setting", "(I)I"⟩
abbrev cX4_whoAfter : ByteArray := prog_1_method_20_code
def yX4_whoAfter : MethodName := ⟨RX4, "whoAfter", "(II)I"⟩
abbrev cX4_freeIn : ByteArray := prog_1_method_21_code
def yX4_freeIn : MethodName := ⟨RX4, "freeIn", "(I)I"⟩
abbrev cX4_wishedIn : ByteArray := prog_1_method_22_code
def yX4_wishedIn : MethodName := ⟨RX4, "wishedIn", "(II)I"⟩
abbrev cX4_needHolder : ByteArray := prog_1_method_27_code
def yX4_needHolder : MethodName := ⟨RX4, "needHolder", "(I)V"⟩
abbrev cX4_needNumber : ByteArray := prog_1_method_28_code
def yX4_needNumber : MethodName := ⟨RX4, "needNumber", "(I)V"⟩
abbrev cX4_needSetting : ByteArray := prog_1_method_29_code
def yX4_needSetting : MethodName := ⟨RX4, "needSetting", "(I)V"⟩
abbrev cX4_needRange : ByteArray := prog_1_method_30_code
def yX4_needRange : MethodName := ⟨RX4, "needRange", "(III)V"⟩
abbrev cX4_needState : ByteArray := prog_1_method_31_code
def yX4_needState : MethodName := ⟨RX4, "needState", "(Z)V"⟩
abbrev cX4_leaseLowest : ByteArray := prog_1_method_32_code
def yX4_leaseLowest : MethodName := ⟨RX4, "leaseLowest", "(III)I"⟩
abbrev cX4_countOf : ByteArray := prog_1_method_34_code
def yX4_countOf : MethodName := ⟨RX4, "countOf", "(I)I"⟩
abbrev cX4_holderAfter : ByteArray := prog_1_method_35_code
def yX4_holderAfter : MethodName := ⟨RX4, "holderAfter", "(II)I"⟩
abbrev cX4_timeToFree : ByteArray := prog_1_method_36_code
def yX4_timeToFree : MethodName := ⟨RX4, "timeToFree", "(I)I"⟩
abbrev cX4_timeToWished : ByteArray := prog_1_method_37_code
def yX4_timeToWished : MethodName := ⟨RX4, "timeToWished", "(II)I"⟩
abbrev cX4_sum : ByteArray := prog_1_method_45_code
def yX4_sum : MethodName := ⟨RX4, "sum", "([I)I"⟩
def RX5 : String := "NumberLeasesModel"
def TX5 : u_T := fun k => match k with
  | _ => ("", "", "", false)
def tyX5 : Nat → FieldType := fun k => match k with
  | _ => .int
abbrev wsX50 : List Cond := u_ws RX5 TX5 0
theorem nmX5 : ∀ a, a < 0 → ∀ b, b < 0 → a ≠ b → (TX5 a).2.1 ≠ (TX5 b).2.1 := by decide +kernel
theorem tyX5_ok : ∀ k, k < 0 → parseFieldDescriptor (TX5 k).2.2.1 = some (tyX5 k) := by decide +kernel
def RJ9 : String := "java/lang/Math"
def TJ9 : u_T := fun k => match k with
  | _ => ("", "", "", false)
def tyJ9 : Nat → FieldType := fun k => match k with
  | _ => .int
abbrev wsJ90 : List Cond := u_ws RJ9 TJ9 0
theorem nmJ9 : ∀ a, a < 0 → ∀ b, b < 0 → a ≠ b → (TJ9 a).2.1 ≠ (TJ9 b).2.1 := by decide +kernel
theorem tyJ9_ok : ∀ k, k < 0 → parseFieldDescriptor (TJ9 k).2.2.1 = some (tyJ9 k) := by decide +kernel
abbrev cJ9_max_7cf53 : ByteArray := prog_12_method_65_code
def yJ9_max_7cf53 : MethodName := ⟨RJ9, "max", "(II)I"⟩
abbrev cJ9_min_7cf53 : ByteArray := prog_12_method_69_code
def yJ9_min_7cf53 : MethodName := ⟨RJ9, "min", "(II)I"⟩
def RJ10 : String := "java/lang/System"
def TJ10 : u_T := fun k => match k with
  | _ => ("", "", "", false)
def tyJ10 : Nat → FieldType := fun k => match k with
  | _ => .int
abbrev wsJ100 : List Cond := u_ws RJ10 TJ10 0
theorem nmJ10 : ∀ a, a < 0 → ∀ b, b < 0 → a ≠ b → (TJ10 a).2.1 ≠ (TJ10 b).2.1 := by decide +kernel
theorem tyJ10_ok : ∀ k, k < 0 → parseFieldDescriptor (TJ10 k).2.2.1 = some (tyJ10 k) := by decide +kernel
def RL : String := "NumberLeasesLaw"
abbrev cL_low : ByteArray := method_2_code
def yL_low : MethodName := ⟨RL, "low", "(II)I"⟩
abbrev cL_cell : ByteArray := method_3_code
def yL_cell : MethodName := ⟨RL, "cell", "([II)I"⟩
abbrev cL_take : ByteArray := method_4_code
def yL_take : MethodName := ⟨RL, "take", "(LNumberLeases;II)I"⟩
abbrev cL_span : ByteArray := method_5_code
def yL_span : MethodName := ⟨RL, "span", "(LNumberLeases;III)I"⟩
abbrev cL_wish : ByteArray := method_6_code
def yL_wish : MethodName := ⟨RL, "wish", "(LNumberLeases;III)I"⟩
abbrev cL_unwish : ByteArray := method_7_code
def yL_unwish : MethodName := ⟨RL, "unwish", "(LNumberLeases;II)I"⟩
abbrev cL_renew : ByteArray := method_8_code
def yL_renew : MethodName := ⟨RL, "renew", "(LNumberLeases;III)I"⟩
abbrev cL_set : ByteArray := method_9_code
def yL_set : MethodName := ⟨RL, "set", "(LNumberLeases;II)I"⟩
abbrev cL_act : ByteArray := method_10_code
def yL_act : MethodName := ⟨RL, "act", "(LNumberLeases;[II)I"⟩
abbrev cL_undo : ByteArray := method_11_code
def yL_undo : MethodName := ⟨RL, "undo", "(LNumberLeases;)I"⟩
abbrev cL_numbers : ByteArray := method_12_code
def yL_numbers : MethodName := ⟨RL, "numbers", "(LNumberLeases;)Z"⟩
abbrev cL_holders : ByteArray := method_13_code
def yL_holders : MethodName := ⟨RL, "holders", "(LNumberLeases;)Z"⟩
abbrev cL_spans : ByteArray := method_14_code
def yL_spans : MethodName := ⟨RL, "spans", "(LNumberLeases;)Z"⟩
abbrev cL_law : ByteArray := code
def yL_law : MethodName := ⟨RL, "law", "([I)Z"⟩
abbrev vwCl : List vw_C := [(RX1, TX1, 8), (RX2, TX2, 16), (RX3, TX3, 2), (RX4, TX4, 4)]
