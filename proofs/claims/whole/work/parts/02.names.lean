-- ===== PART A: goes FIRST, ahead of the names: the tables' words, and 'selects' of the private methods out of them =====
/-- a private method of a class that the tables say can be made, by its rows of tables_1 -/
def lw_okq (q : MethodName × Nat) : Prop := (q.1.cls ≠ "java/lang/invoke/MethodHandle" ∧ q.1.cls ≠ "java/lang/invoke/VarHandle") ∧ Cond.instantiable q.1.cls q.2 ∈ tables_1 ∧ Cond.privateMethod q.1 ∈ tables_1 ∧ Cond.instanceMethod q.1 ∈ tables_1
theorem lw_p0 : lw_okq (⟨"NumberLeases$Orders", "readSign", "(I)V"⟩, 8) := ⟨⟨by decide +kernel, by decide +kernel⟩, List.mem_of_getElem? (i := 105) (by decide +kernel), List.mem_of_getElem? (i := 175) (by decide +kernel), List.mem_of_getElem? (i := 176) (by decide +kernel)⟩
theorem lw_p1 : lw_okq (⟨"NumberLeases$Orders", "readOrder", "()V"⟩, 8) := ⟨⟨by decide +kernel, by decide +kernel⟩, List.mem_of_getElem? (i := 105) (by decide +kernel), List.mem_of_getElem? (i := 183) (by decide +kernel), List.mem_of_getElem? (i := 184) (by decide +kernel)⟩
theorem lw_p2 : lw_okq (⟨"NumberLeases$Orders", "readNumber", "(II)I"⟩, 8) := ⟨⟨by decide +kernel, by decide +kernel⟩, List.mem_of_getElem? (i := 105) (by decide +kernel), List.mem_of_getElem? (i := 187) (by decide +kernel), List.mem_of_getElem? (i := 188) (by decide +kernel)⟩
theorem lw_p3 : lw_okq (⟨"NumberLeases$Orders", "digitAt", "(I)I"⟩, 8) := ⟨⟨by decide +kernel, by decide +kernel⟩, List.mem_of_getElem? (i := 105) (by decide +kernel), List.mem_of_getElem? (i := 191) (by decide +kernel), List.mem_of_getElem? (i := 192) (by decide +kernel)⟩
theorem lw_p4 : lw_okq (⟨"NumberLeases", "fullnessBits", "()I"⟩, 4) := ⟨⟨by decide +kernel, by decide +kernel⟩, List.mem_of_getElem? (i := 18) (by decide +kernel), List.mem_of_getElem? (i := 205) (by decide +kernel), List.mem_of_getElem? (i := 206) (by decide +kernel)⟩
theorem lw_p5 : lw_okq (⟨"NumberLeases$Pool", "numbersIn", "(I)I"⟩, 16) := ⟨⟨by decide +kernel, by decide +kernel⟩, List.mem_of_getElem? (i := 26) (by decide +kernel), List.mem_of_getElem? (i := 213) (by decide +kernel), List.mem_of_getElem? (i := 214) (by decide +kernel)⟩
theorem lw_p6 : lw_okq (⟨"NumberLeases$Pool", "stateOf", "(I)I"⟩, 16) := ⟨⟨by decide +kernel, by decide +kernel⟩, List.mem_of_getElem? (i := 26) (by decide +kernel), List.mem_of_getElem? (i := 217) (by decide +kernel), List.mem_of_getElem? (i := 218) (by decide +kernel)⟩
theorem lw_p7 : lw_okq (⟨"NumberLeases", "scatterBits", "()I"⟩, 4) := ⟨⟨by decide +kernel, by decide +kernel⟩, List.mem_of_getElem? (i := 18) (by decide +kernel), List.mem_of_getElem? (i := 229) (by decide +kernel), List.mem_of_getElem? (i := 230) (by decide +kernel)⟩
theorem lw_p8 : lw_okq (⟨"NumberLeases$Pool", "rowFrom", "(I)I"⟩, 16) := ⟨⟨by decide +kernel, by decide +kernel⟩, List.mem_of_getElem? (i := 26) (by decide +kernel), List.mem_of_getElem? (i := 237) (by decide +kernel), List.mem_of_getElem? (i := 238) (by decide +kernel)⟩
theorem lw_p9 : lw_okq (⟨"NumberLeases", "meanUnits", "()D"⟩, 4) := ⟨⟨by decide +kernel, by decide +kernel⟩, List.mem_of_getElem? (i := 18) (by decide +kernel), List.mem_of_getElem? (i := 248) (by decide +kernel), List.mem_of_getElem? (i := 249) (by decide +kernel)⟩
theorem lw_p10 : lw_okq (⟨"NumberLeases", "countOf", "(I)I"⟩, 4) := ⟨⟨by decide +kernel, by decide +kernel⟩, List.mem_of_getElem? (i := 18) (by decide +kernel), List.mem_of_getElem? (i := 261) (by decide +kernel), List.mem_of_getElem? (i := 262) (by decide +kernel)⟩
theorem lw_p11 : lw_okq (⟨"NumberLeases$Pool", "startsSpan", "(I)Z"⟩, 16) := ⟨⟨by decide +kernel, by decide +kernel⟩, List.mem_of_getElem? (i := 26) (by decide +kernel), List.mem_of_getElem? (i := 275) (by decide +kernel), List.mem_of_getElem? (i := 276) (by decide +kernel)⟩
theorem lw_p12 : lw_okq (⟨"NumberLeases", "addNumbers", "(J)J"⟩, 4) := ⟨⟨by decide +kernel, by decide +kernel⟩, List.mem_of_getElem? (i := 18) (by decide +kernel), List.mem_of_getElem? (i := 280) (by decide +kernel), List.mem_of_getElem? (i := 281) (by decide +kernel)⟩
theorem lw_p13 : lw_okq (⟨"NumberLeases", "addHolders", "(J)J"⟩, 4) := ⟨⟨by decide +kernel, by decide +kernel⟩, List.mem_of_getElem? (i := 18) (by decide +kernel), List.mem_of_getElem? (i := 288) (by decide +kernel), List.mem_of_getElem? (i := 289) (by decide +kernel)⟩
theorem lw_p14 : lw_okq (⟨"NumberLeases$Pool", "numbersOfIn", "(II)I"⟩, 16) := ⟨⟨by decide +kernel, by decide +kernel⟩, List.mem_of_getElem? (i := 26) (by decide +kernel), List.mem_of_getElem? (i := 296) (by decide +kernel), List.mem_of_getElem? (i := 297) (by decide +kernel)⟩
theorem lw_p15 : lw_okq (⟨"NumberLeases$Pool", "wishesOf", "(I)I"⟩, 16) := ⟨⟨by decide +kernel, by decide +kernel⟩, List.mem_of_getElem? (i := 26) (by decide +kernel), List.mem_of_getElem? (i := 300) (by decide +kernel), List.mem_of_getElem? (i := 301) (by decide +kernel)⟩
def lw_privs_1 : List (MethodName × Nat) := [(⟨"NumberLeases$Orders", "readSign", "(I)V"⟩, 8), (⟨"NumberLeases$Orders", "readOrder", "()V"⟩, 8), (⟨"NumberLeases$Orders", "readNumber", "(II)I"⟩, 8), (⟨"NumberLeases$Orders", "digitAt", "(I)I"⟩, 8), (⟨"NumberLeases", "fullnessBits", "()I"⟩, 4), (⟨"NumberLeases$Pool", "numbersIn", "(I)I"⟩, 16), (⟨"NumberLeases$Pool", "stateOf", "(I)I"⟩, 16), (⟨"NumberLeases", "scatterBits", "()I"⟩, 4), (⟨"NumberLeases$Pool", "rowFrom", "(I)I"⟩, 16), (⟨"NumberLeases", "meanUnits", "()D"⟩, 4), (⟨"NumberLeases", "countOf", "(I)I"⟩, 4), (⟨"NumberLeases$Pool", "startsSpan", "(I)Z"⟩, 16), (⟨"NumberLeases", "addNumbers", "(J)J"⟩, 4), (⟨"NumberLeases", "addHolders", "(J)J"⟩, 4), (⟨"NumberLeases$Pool", "numbersOfIn", "(II)I"⟩, 16), (⟨"NumberLeases$Pool", "wishesOf", "(I)I"⟩, 16)]
theorem lw_r1 : ∀ q ∈ lw_privs_1, lw_okq q := List.forall_mem_cons.mpr ⟨lw_p0, List.forall_mem_cons.mpr ⟨lw_p1, List.forall_mem_cons.mpr ⟨lw_p2, List.forall_mem_cons.mpr ⟨lw_p3, List.forall_mem_cons.mpr ⟨lw_p4, List.forall_mem_cons.mpr ⟨lw_p5, List.forall_mem_cons.mpr ⟨lw_p6, List.forall_mem_cons.mpr ⟨lw_p7, List.forall_mem_cons.mpr ⟨lw_p8, List.forall_mem_cons.mpr ⟨lw_p9, List.forall_mem_cons.mpr ⟨lw_p10, List.forall_mem_cons.mpr ⟨lw_p11, List.forall_mem_cons.mpr ⟨lw_p12, List.forall_mem_cons.mpr ⟨lw_p13, List.forall_mem_cons.mpr ⟨lw_p14, List.forall_mem_cons.mpr ⟨lw_p15, fun _ h => absurd h List.not_mem_nil⟩⟩⟩⟩⟩⟩⟩⟩⟩⟩⟩⟩⟩⟩⟩⟩
theorem lw_p16 : lw_okq (⟨"NumberLeases$Pool", "leastOf", "(I)I"⟩, 16) := ⟨⟨by decide +kernel, by decide +kernel⟩, List.mem_of_getElem? (i := 26) (by decide +kernel), List.mem_of_getElem? (i := 308) (by decide +kernel), List.mem_of_getElem? (i := 309) (by decide +kernel)⟩
theorem lw_p17 : lw_okq (⟨"NumberLeases$Pool", "leastEndOf", "(I)I"⟩, 16) := ⟨⟨by decide +kernel, by decide +kernel⟩, List.mem_of_getElem? (i := 26) (by decide +kernel), List.mem_of_getElem? (i := 312) (by decide +kernel), List.mem_of_getElem? (i := 313) (by decide +kernel)⟩
theorem lw_p18 : lw_okq (⟨"NumberLeases", "timeToWished", "(II)I"⟩, 4) := ⟨⟨by decide +kernel, by decide +kernel⟩, List.mem_of_getElem? (i := 18) (by decide +kernel), List.mem_of_getElem? (i := 316) (by decide +kernel), List.mem_of_getElem? (i := 317) (by decide +kernel)⟩
theorem lw_p19 : lw_okq (⟨"NumberLeases$Pool", "hasRoom", "(II)Z"⟩, 16) := ⟨⟨by decide +kernel, by decide +kernel⟩, List.mem_of_getElem? (i := 26) (by decide +kernel), List.mem_of_getElem? (i := 324) (by decide +kernel), List.mem_of_getElem? (i := 325) (by decide +kernel)⟩
theorem lw_p20 : lw_okq (⟨"NumberLeases$Pool", "numbersOf", "(I)I"⟩, 16) := ⟨⟨by decide +kernel, by decide +kernel⟩, List.mem_of_getElem? (i := 26) (by decide +kernel), List.mem_of_getElem? (i := 328) (by decide +kernel), List.mem_of_getElem? (i := 329) (by decide +kernel)⟩
theorem lw_p21 : lw_okq (⟨"NumberLeases$Pool", "lease", "(III)V"⟩, 16) := ⟨⟨by decide +kernel, by decide +kernel⟩, List.mem_of_getElem? (i := 26) (by decide +kernel), List.mem_of_getElem? (i := 349) (by decide +kernel), List.mem_of_getElem? (i := 350) (by decide +kernel)⟩
theorem lw_p22 : lw_okq (⟨"NumberLeases$Pool", "freeDue", "()V"⟩, 16) := ⟨⟨by decide +kernel, by decide +kernel⟩, List.mem_of_getElem? (i := 26) (by decide +kernel), List.mem_of_getElem? (i := 357) (by decide +kernel), List.mem_of_getElem? (i := 358) (by decide +kernel)⟩
theorem lw_p23 : lw_okq (⟨"NumberLeases$Pool", "free", "(I)V"⟩, 16) := ⟨⟨by decide +kernel, by decide +kernel⟩, List.mem_of_getElem? (i := 26) (by decide +kernel), List.mem_of_getElem? (i := 361) (by decide +kernel), List.mem_of_getElem? (i := 362) (by decide +kernel)⟩
theorem lw_p24 : lw_okq (⟨"NumberLeases", "addSpans", "(J)J"⟩, 4) := ⟨⟨by decide +kernel, by decide +kernel⟩, List.mem_of_getElem? (i := 18) (by decide +kernel), List.mem_of_getElem? (i := 369) (by decide +kernel), List.mem_of_getElem? (i := 370) (by decide +kernel)⟩
theorem lw_p25 : lw_okq (⟨"NumberLeases$Pool", "startOfSpan", "(I)I"⟩, 16) := ⟨⟨by decide +kernel, by decide +kernel⟩, List.mem_of_getElem? (i := 26) (by decide +kernel), List.mem_of_getElem? (i := 378) (by decide +kernel), List.mem_of_getElem? (i := 379) (by decide +kernel)⟩
theorem lw_p26 : lw_okq (⟨"NumberLeases", "holderAfter", "(II)I"⟩, 4) := ⟨⟨by decide +kernel, by decide +kernel⟩, List.mem_of_getElem? (i := 18) (by decide +kernel), List.mem_of_getElem? (i := 382) (by decide +kernel), List.mem_of_getElem? (i := 383) (by decide +kernel)⟩
theorem lw_p27 : lw_okq (⟨"NumberLeases", "timeToFree", "(I)I"⟩, 4) := ⟨⟨by decide +kernel, by decide +kernel⟩, List.mem_of_getElem? (i := 18) (by decide +kernel), List.mem_of_getElem? (i := 386) (by decide +kernel), List.mem_of_getElem? (i := 387) (by decide +kernel)⟩
theorem lw_p28 : lw_okq (⟨"NumberLeases", "addBuffer", "(J)J"⟩, 4) := ⟨⟨by decide +kernel, by decide +kernel⟩, List.mem_of_getElem? (i := 18) (by decide +kernel), List.mem_of_getElem? (i := 396) (by decide +kernel), List.mem_of_getElem? (i := 397) (by decide +kernel)⟩
theorem lw_p29 : lw_okq (⟨"NumberLeases", "leaseLowest", "(III)I"⟩, 4) := ⟨⟨by decide +kernel, by decide +kernel⟩, List.mem_of_getElem? (i := 18) (by decide +kernel), List.mem_of_getElem? (i := 411) (by decide +kernel), List.mem_of_getElem? (i := 412) (by decide +kernel)⟩
theorem lw_p30 : lw_okq (⟨"java/lang/Throwable", "fillInStackTrace", "(I)Ljava/lang/Throwable;"⟩, 6) := ⟨⟨by decide +kernel, by decide +kernel⟩, List.mem_of_getElem? (i := 456) (by decide +kernel), List.mem_of_getElem? (i := 454) (by decide +kernel), List.mem_of_getElem? (i := 455) (by decide +kernel)⟩
theorem lw_p31 : lw_okq (⟨"NumberLeases$Pool", "lowestRow", "(I)I"⟩, 16) := ⟨⟨by decide +kernel, by decide +kernel⟩, List.mem_of_getElem? (i := 26) (by decide +kernel), List.mem_of_getElem? (i := 503) (by decide +kernel), List.mem_of_getElem? (i := 504) (by decide +kernel)⟩
def lw_privs_2 : List (MethodName × Nat) := [(⟨"NumberLeases$Pool", "leastOf", "(I)I"⟩, 16), (⟨"NumberLeases$Pool", "leastEndOf", "(I)I"⟩, 16), (⟨"NumberLeases", "timeToWished", "(II)I"⟩, 4), (⟨"NumberLeases$Pool", "hasRoom", "(II)Z"⟩, 16), (⟨"NumberLeases$Pool", "numbersOf", "(I)I"⟩, 16), (⟨"NumberLeases$Pool", "lease", "(III)V"⟩, 16), (⟨"NumberLeases$Pool", "freeDue", "()V"⟩, 16), (⟨"NumberLeases$Pool", "free", "(I)V"⟩, 16), (⟨"NumberLeases", "addSpans", "(J)J"⟩, 4), (⟨"NumberLeases$Pool", "startOfSpan", "(I)I"⟩, 16), (⟨"NumberLeases", "holderAfter", "(II)I"⟩, 4), (⟨"NumberLeases", "timeToFree", "(I)I"⟩, 4), (⟨"NumberLeases", "addBuffer", "(J)J"⟩, 4), (⟨"NumberLeases", "leaseLowest", "(III)I"⟩, 4), (⟨"java/lang/Throwable", "fillInStackTrace", "(I)Ljava/lang/Throwable;"⟩, 6), (⟨"NumberLeases$Pool", "lowestRow", "(I)I"⟩, 16)]
theorem lw_r2 : ∀ q ∈ lw_privs_2, lw_okq q := List.forall_mem_cons.mpr ⟨lw_p16, List.forall_mem_cons.mpr ⟨lw_p17, List.forall_mem_cons.mpr ⟨lw_p18, List.forall_mem_cons.mpr ⟨lw_p19, List.forall_mem_cons.mpr ⟨lw_p20, List.forall_mem_cons.mpr ⟨lw_p21, List.forall_mem_cons.mpr ⟨lw_p22, List.forall_mem_cons.mpr ⟨lw_p23, List.forall_mem_cons.mpr ⟨lw_p24, List.forall_mem_cons.mpr ⟨lw_p25, List.forall_mem_cons.mpr ⟨lw_p26, List.forall_mem_cons.mpr ⟨lw_p27, List.forall_mem_cons.mpr ⟨lw_p28, List.forall_mem_cons.mpr ⟨lw_p29, List.forall_mem_cons.mpr ⟨lw_p30, List.forall_mem_cons.mpr ⟨lw_p31, fun _ h => absurd h List.not_mem_nil⟩⟩⟩⟩⟩⟩⟩⟩⟩⟩⟩⟩⟩⟩⟩⟩
theorem lw_p32 : lw_okq (⟨"NumberLeases$Saves", "dropOldest", "()V"⟩, 2) := ⟨⟨by decide +kernel, by decide +kernel⟩, List.mem_of_getElem? (i := 88) (by decide +kernel), List.mem_of_getElem? (i := 529) (by decide +kernel), List.mem_of_getElem? (i := 530) (by decide +kernel)⟩
theorem lw_p33 : lw_okq (⟨"NumberLeases", "needNumber", "(I)V"⟩, 4) := ⟨⟨by decide +kernel, by decide +kernel⟩, List.mem_of_getElem? (i := 18) (by decide +kernel), List.mem_of_getElem? (i := 552) (by decide +kernel), List.mem_of_getElem? (i := 553) (by decide +kernel)⟩
theorem lw_p34 : lw_okq (⟨"NumberLeases$Pool", "countUnits", "()V"⟩, 16) := ⟨⟨by decide +kernel, by decide +kernel⟩, List.mem_of_getElem? (i := 26) (by decide +kernel), List.mem_of_getElem? (i := 610) (by decide +kernel), List.mem_of_getElem? (i := 611) (by decide +kernel)⟩
theorem lw_p35 : lw_okq (⟨"NumberLeases", "carryOut", "()Z"⟩, 4) := ⟨⟨by decide +kernel, by decide +kernel⟩, List.mem_of_getElem? (i := 18) (by decide +kernel), List.mem_of_getElem? (i := 652) (by decide +kernel), List.mem_of_getElem? (i := 653) (by decide +kernel)⟩
theorem lw_p36 : lw_okq (⟨"NumberLeasesModel", "fails", "(I)I"⟩, 12) := ⟨⟨by decide +kernel, by decide +kernel⟩, List.mem_of_getElem? (i := 723) (by decide +kernel), List.mem_of_getElem? (i := 774) (by decide +kernel), List.mem_of_getElem? (i := 775) (by decide +kernel)⟩
theorem lw_p37 : lw_okq (⟨"NumberLeasesModel", "mayTake", "(I)Z"⟩, 12) := ⟨⟨by decide +kernel, by decide +kernel⟩, List.mem_of_getElem? (i := 723) (by decide +kernel), List.mem_of_getElem? (i := 791) (by decide +kernel), List.mem_of_getElem? (i := 792) (by decide +kernel)⟩
theorem lw_p38 : lw_okq (⟨"NumberLeasesModel", "saves", "()V"⟩, 12) := ⟨⟨by decide +kernel, by decide +kernel⟩, List.mem_of_getElem? (i := 723) (by decide +kernel), List.mem_of_getElem? (i := 810) (by decide +kernel), List.mem_of_getElem? (i := 811) (by decide +kernel)⟩
theorem lw_p39 : lw_okq (⟨"NumberLeasesModel", "takes", "(II)I"⟩, 12) := ⟨⟨by decide +kernel, by decide +kernel⟩, List.mem_of_getElem? (i := 723) (by decide +kernel), List.mem_of_getElem? (i := 814) (by decide +kernel), List.mem_of_getElem? (i := 815) (by decide +kernel)⟩
theorem lw_p40 : lw_okq (⟨"NumberLeasesModel", "isNumber", "(I)Z"⟩, 12) := ⟨⟨by decide +kernel, by decide +kernel⟩, List.mem_of_getElem? (i := 723) (by decide +kernel), List.mem_of_getElem? (i := 829) (by decide +kernel), List.mem_of_getElem? (i := 830) (by decide +kernel)⟩
theorem lw_p41 : lw_okq (⟨"NumberLeasesModel", "mayWish", "(II)Z"⟩, 12) := ⟨⟨by decide +kernel, by decide +kernel⟩, List.mem_of_getElem? (i := 723) (by decide +kernel), List.mem_of_getElem? (i := 833) (by decide +kernel), List.mem_of_getElem? (i := 834) (by decide +kernel)⟩
theorem lw_p42 : lw_okq (⟨"NumberLeasesModel", "wishes", "(III)I"⟩, 12) := ⟨⟨by decide +kernel, by decide +kernel⟩, List.mem_of_getElem? (i := 723) (by decide +kernel), List.mem_of_getElem? (i := 840) (by decide +kernel), List.mem_of_getElem? (i := 841) (by decide +kernel)⟩
theorem lw_p43 : lw_okq (⟨"NumberLeasesModel", "givesBack", "(III)I"⟩, 12) := ⟨⟨by decide +kernel, by decide +kernel⟩, List.mem_of_getElem? (i := 723) (by decide +kernel), List.mem_of_getElem? (i := 865) (by decide +kernel), List.mem_of_getElem? (i := 866) (by decide +kernel)⟩
theorem lw_p44 : lw_okq (⟨"NumberLeasesModel", "passesBy", "(I)I"⟩, 12) := ⟨⟨by decide +kernel, by decide +kernel⟩, List.mem_of_getElem? (i := 723) (by decide +kernel), List.mem_of_getElem? (i := 876) (by decide +kernel), List.mem_of_getElem? (i := 877) (by decide +kernel)⟩
theorem lw_p45 : lw_okq (⟨"NumberLeasesModel", "isFor", "(II)Z"⟩, 12) := ⟨⟨by decide +kernel, by decide +kernel⟩, List.mem_of_getElem? (i := 723) (by decide +kernel), List.mem_of_getElem? (i := 887) (by decide +kernel), List.mem_of_getElem? (i := 888) (by decide +kernel)⟩
theorem lw_p46 : lw_okq (⟨"NumberLeasesModel", "isText", "()Z"⟩, 12) := ⟨⟨by decide +kernel, by decide +kernel⟩, List.mem_of_getElem? (i := 723) (by decide +kernel), List.mem_of_getElem? (i := 903) (by decide +kernel), List.mem_of_getElem? (i := 904) (by decide +kernel)⟩
theorem lw_p47 : lw_okq (⟨"NumberLeasesModel", "isOrder", "()Z"⟩, 12) := ⟨⟨by decide +kernel, by decide +kernel⟩, List.mem_of_getElem? (i := 723) (by decide +kernel), List.mem_of_getElem? (i := 907) (by decide +kernel), List.mem_of_getElem? (i := 908) (by decide +kernel)⟩
def lw_privs_3 : List (MethodName × Nat) := [(⟨"NumberLeases$Saves", "dropOldest", "()V"⟩, 2), (⟨"NumberLeases", "needNumber", "(I)V"⟩, 4), (⟨"NumberLeases$Pool", "countUnits", "()V"⟩, 16), (⟨"NumberLeases", "carryOut", "()Z"⟩, 4), (⟨"NumberLeasesModel", "fails", "(I)I"⟩, 12), (⟨"NumberLeasesModel", "mayTake", "(I)Z"⟩, 12), (⟨"NumberLeasesModel", "saves", "()V"⟩, 12), (⟨"NumberLeasesModel", "takes", "(II)I"⟩, 12), (⟨"NumberLeasesModel", "isNumber", "(I)Z"⟩, 12), (⟨"NumberLeasesModel", "mayWish", "(II)Z"⟩, 12), (⟨"NumberLeasesModel", "wishes", "(III)I"⟩, 12), (⟨"NumberLeasesModel", "givesBack", "(III)I"⟩, 12), (⟨"NumberLeasesModel", "passesBy", "(I)I"⟩, 12), (⟨"NumberLeasesModel", "isFor", "(II)Z"⟩, 12), (⟨"NumberLeasesModel", "isText", "()Z"⟩, 12), (⟨"NumberLeasesModel", "isOrder", "()Z"⟩, 12)]
theorem lw_r3 : ∀ q ∈ lw_privs_3, lw_okq q := List.forall_mem_cons.mpr ⟨lw_p32, List.forall_mem_cons.mpr ⟨lw_p33, List.forall_mem_cons.mpr ⟨lw_p34, List.forall_mem_cons.mpr ⟨lw_p35, List.forall_mem_cons.mpr ⟨lw_p36, List.forall_mem_cons.mpr ⟨lw_p37, List.forall_mem_cons.mpr ⟨lw_p38, List.forall_mem_cons.mpr ⟨lw_p39, List.forall_mem_cons.mpr ⟨lw_p40, List.forall_mem_cons.mpr ⟨lw_p41, List.forall_mem_cons.mpr ⟨lw_p42, List.forall_mem_cons.mpr ⟨lw_p43, List.forall_mem_cons.mpr ⟨lw_p44, List.forall_mem_cons.mpr ⟨lw_p45, List.forall_mem_cons.mpr ⟨lw_p46, List.forall_mem_cons.mpr ⟨lw_p47, fun _ h => absurd h List.not_mem_nil⟩⟩⟩⟩⟩⟩⟩⟩⟩⟩⟩⟩⟩⟩⟩⟩
theorem lw_p48 : lw_okq (⟨"NumberLeasesModel", "isAt", "(II)Z"⟩, 12) := ⟨⟨by decide +kernel, by decide +kernel⟩, List.mem_of_getElem? (i := 723) (by decide +kernel), List.mem_of_getElem? (i := 911) (by decide +kernel), List.mem_of_getElem? (i := 912) (by decide +kernel)⟩
theorem lw_p49 : lw_okq (⟨"NumberLeasesModel", "stops", "()Z"⟩, 12) := ⟨⟨by decide +kernel, by decide +kernel⟩, List.mem_of_getElem? (i := 723) (by decide +kernel), List.mem_of_getElem? (i := 915) (by decide +kernel), List.mem_of_getElem? (i := 916) (by decide +kernel)⟩
theorem lw_p50 : lw_okq (⟨"NumberLeasesModel", "isTold", "(III)Z"⟩, 12) := ⟨⟨by decide +kernel, by decide +kernel⟩, List.mem_of_getElem? (i := 723) (by decide +kernel), List.mem_of_getElem? (i := 919) (by decide +kernel), List.mem_of_getElem? (i := 920) (by decide +kernel)⟩
theorem lw_p51 : lw_okq (⟨"NumberLeasesModel", "isWhole", "(II)Z"⟩, 12) := ⟨⟨by decide +kernel, by decide +kernel⟩, List.mem_of_getElem? (i := 723) (by decide +kernel), List.mem_of_getElem? (i := 923) (by decide +kernel), List.mem_of_getElem? (i := 924) (by decide +kernel)⟩
theorem lw_p52 : lw_okq (⟨"NumberLeasesModel", "isSign", "(I)Z"⟩, 12) := ⟨⟨by decide +kernel, by decide +kernel⟩, List.mem_of_getElem? (i := 723) (by decide +kernel), List.mem_of_getElem? (i := 930) (by decide +kernel), List.mem_of_getElem? (i := 931) (by decide +kernel)⟩
theorem lw_p53 : lw_okq (⟨"NumberLeasesModel", "isDone", "(I)Z"⟩, 12) := ⟨⟨by decide +kernel, by decide +kernel⟩, List.mem_of_getElem? (i := 723) (by decide +kernel), List.mem_of_getElem? (i := 938) (by decide +kernel), List.mem_of_getElem? (i := 939) (by decide +kernel)⟩
theorem lw_p54 : lw_okq (⟨"NumberLeasesModel", "ofNumber", "(II)I"⟩, 12) := ⟨⟨by decide +kernel, by decide +kernel⟩, List.mem_of_getElem? (i := 723) (by decide +kernel), List.mem_of_getElem? (i := 946) (by decide +kernel), List.mem_of_getElem? (i := 947) (by decide +kernel)⟩
theorem lw_p55 : lw_okq (⟨"NumberLeasesModel", "ofHolder", "(II)I"⟩, 12) := ⟨⟨by decide +kernel, by decide +kernel⟩, List.mem_of_getElem? (i := 723) (by decide +kernel), List.mem_of_getElem? (i := 954) (by decide +kernel), List.mem_of_getElem? (i := 955) (by decide +kernel)⟩
theorem lw_p56 : lw_okq (⟨"NumberLeasesModel", "spans", "(II)I"⟩, 12) := ⟨⟨by decide +kernel, by decide +kernel⟩, List.mem_of_getElem? (i := 723) (by decide +kernel), List.mem_of_getElem? (i := 962) (by decide +kernel), List.mem_of_getElem? (i := 963) (by decide +kernel)⟩
theorem lw_p57 : lw_okq (⟨"NumberLeasesModel", "counted", "(I)I"⟩, 12) := ⟨⟨by decide +kernel, by decide +kernel⟩, List.mem_of_getElem? (i := 723) (by decide +kernel), List.mem_of_getElem? (i := 970) (by decide +kernel), List.mem_of_getElem? (i := 971) (by decide +kernel)⟩
theorem lw_p58 : lw_okq (⟨"NumberLeasesModel", "sumOf", "(III)I"⟩, 12) := ⟨⟨by decide +kernel, by decide +kernel⟩, List.mem_of_getElem? (i := 723) (by decide +kernel), List.mem_of_getElem? (i := 977) (by decide +kernel), List.mem_of_getElem? (i := 978) (by decide +kernel)⟩
theorem lw_p59 : lw_okq (⟨"NumberLeasesModel", "whoThen", "(II)I"⟩, 12) := ⟨⟨by decide +kernel, by decide +kernel⟩, List.mem_of_getElem? (i := 723) (by decide +kernel), List.mem_of_getElem? (i := 989) (by decide +kernel), List.mem_of_getElem? (i := 990) (by decide +kernel)⟩
theorem lw_p60 : lw_okq (⟨"NumberLeasesModel", "tries", "()V"⟩, 12) := ⟨⟨by decide +kernel, by decide +kernel⟩, List.mem_of_getElem? (i := 723) (by decide +kernel), List.mem_of_getElem? (i := 993) (by decide +kernel), List.mem_of_getElem? (i := 994) (by decide +kernel)⟩
theorem lw_p61 : lw_okq (⟨"NumberLeasesModel", "freeThen", "(I)I"⟩, 12) := ⟨⟨by decide +kernel, by decide +kernel⟩, List.mem_of_getElem? (i := 723) (by decide +kernel), List.mem_of_getElem? (i := 1001) (by decide +kernel), List.mem_of_getElem? (i := 1002) (by decide +kernel)⟩
theorem lw_p62 : lw_okq (⟨"NumberLeasesModel", "wishedThen", "(II)I"⟩, 12) := ⟨⟨by decide +kernel, by decide +kernel⟩, List.mem_of_getElem? (i := 723) (by decide +kernel), List.mem_of_getElem? (i := 1009) (by decide +kernel), List.mem_of_getElem? (i := 1010) (by decide +kernel)⟩
def lw_privs_4 : List (MethodName × Nat) := [(⟨"NumberLeasesModel", "isAt", "(II)Z"⟩, 12), (⟨"NumberLeasesModel", "stops", "()Z"⟩, 12), (⟨"NumberLeasesModel", "isTold", "(III)Z"⟩, 12), (⟨"NumberLeasesModel", "isWhole", "(II)Z"⟩, 12), (⟨"NumberLeasesModel", "isSign", "(I)Z"⟩, 12), (⟨"NumberLeasesModel", "isDone", "(I)Z"⟩, 12), (⟨"NumberLeasesModel", "ofNumber", "(II)I"⟩, 12), (⟨"NumberLeasesModel", "ofHolder", "(II)I"⟩, 12), (⟨"NumberLeasesModel", "spans", "(II)I"⟩, 12), (⟨"NumberLeasesModel", "counted", "(I)I"⟩, 12), (⟨"NumberLeasesModel", "sumOf", "(III)I"⟩, 12), (⟨"NumberLeasesModel", "whoThen", "(II)I"⟩, 12), (⟨"NumberLeasesModel", "tries", "()V"⟩, 12), (⟨"NumberLeasesModel", "freeThen", "(I)I"⟩, 12), (⟨"NumberLeasesModel", "wishedThen", "(II)I"⟩, 12)]
theorem lw_r4 : ∀ q ∈ lw_privs_4, lw_okq q := List.forall_mem_cons.mpr ⟨lw_p48, List.forall_mem_cons.mpr ⟨lw_p49, List.forall_mem_cons.mpr ⟨lw_p50, List.forall_mem_cons.mpr ⟨lw_p51, List.forall_mem_cons.mpr ⟨lw_p52, List.forall_mem_cons.mpr ⟨lw_p53, List.forall_mem_cons.mpr ⟨lw_p54, List.forall_mem_cons.mpr ⟨lw_p55, List.forall_mem_cons.mpr ⟨lw_p56, List.forall_mem_cons.mpr ⟨lw_p57, List.forall_mem_cons.mpr ⟨lw_p58, List.forall_mem_cons.mpr ⟨lw_p59, List.forall_mem_cons.mpr ⟨lw_p60, List.forall_mem_cons.mpr ⟨lw_p61, List.forall_mem_cons.mpr ⟨lw_p62, fun _ h => absurd h List.not_mem_nil⟩⟩⟩⟩⟩⟩⟩⟩⟩⟩⟩⟩⟩⟩⟩
def lw_privs : List (MethodName × Nat) := lw_privs_1 ++ (lw_privs_2 ++ (lw_privs_3 ++ (lw_privs_4)))
def lw_tbl : List Cond := k2_sels lw_privs ++ tables_1
theorem lw_privs_ok : ∀ q ∈ lw_privs, lw_okq q := by
  show ∀ q ∈ lw_privs_1 ++ (lw_privs_2 ++ (lw_privs_3 ++ (lw_privs_4))), lw_okq q
  exact List.forall_mem_append.mpr ⟨lw_r1, List.forall_mem_append.mpr ⟨lw_r2, List.forall_mem_append.mpr ⟨lw_r3, lw_r4⟩⟩⟩
/-- the streams that the claim lets the run draw from -/
abbrev lw_cs : List Choice := [Jvm.Choice.named "NaN.bits"]
theorem lw_bits : nanBits ∈ lw_cs := by first | decide | exact List.mem_cons_self | simp [lw_cs, nanBits]

def RX0 : String := "NumberLeases$Bits"
def TX0 : u_T := fun k => match k with
  | _ => ("", "", "", false)
def tyX0 : Nat → FieldType := fun k => match k with
  | _ => .int
abbrev wsX00 : List Cond := u_ws RX0 TX0 0
theorem nmX0 : ∀ a, a < 0 → ∀ b, b < 0 → a ≠ b → (TX0 a).2.1 ≠ (TX0 b).2.1 := by decide +kernel
theorem tyX0_ok : ∀ k, k < 0 → parseFieldDescriptor (TX0 k).2.2.1 = some (tyX0 k) := by decide +kernel
abbrev cX0_ofFloat : ByteArray := prog_2_method_2_code
def yX0_ofFloat : MethodName := ⟨RX0, "ofFloat", "(F)I"⟩
abbrev cX0_ofDouble : ByteArray := prog_2_method_3_code
def yX0_ofDouble : MethodName := ⟨RX0, "ofDouble", "(D)J"⟩
def RX1 : String := "NumberLeases$Orders"
def TX1 : u_T := fun k => match k with
  | 0 => ("NumberLeases$Orders", "signs", "[I", true)
  | 1 => ("NumberLeases$Orders", "length", "I", false)
  | 2 => ("NumberLeases$Orders", "at", "I", false)
  | 3 => ("NumberLeases$Orders", "stopped", "Z", false)
  | 4 => ("NumberLeases$Orders", "kind", "I", false)
  | 5 => ("NumberLeases$Orders", "holder", "I", false)
  | 6 => ("NumberLeases$Orders", "first", "I", false)
  | _ => ("NumberLeases$Orders", "second", "I", false)
def tyX1 : Nat → FieldType := fun k => match k with
  | 0 => .array .int
  | 1 => .int
  | 2 => .int
  | 3 => .boolean
  | 4 => .int
  | 5 => .int
  | 6 => .int
  | _ => .int
abbrev wsX10 : List Cond := u_ws RX1 TX1 8
theorem nmX1 : ∀ a, a < 8 → ∀ b, b < 8 → a ≠ b → (TX1 a).2.1 ≠ (TX1 b).2.1 := by decide +kernel
theorem tyX1_ok : ∀ k, k < 8 → parseFieldDescriptor (TX1 k).2.2.1 = some (tyX1 k) := by decide +kernel
abbrev cX1_init : ByteArray := prog_3_method_1_code
def yX1_init : MethodName := ⟨RX1, "<init>", "()V"⟩
abbrev cX1_addSign : ByteArray := prog_3_method_2_code
def yX1_addSign : MethodName := ⟨RX1, "addSign", "(I)V"⟩
abbrev cX1_signAt : ByteArray := prog_3_method_3_code
def yX1_signAt : MethodName := ⟨RX1, "signAt", "(I)I"⟩
abbrev cX1_rewind : ByteArray := prog_3_method_4_code
def yX1_rewind : MethodName := ⟨RX1, "rewind", "()V"⟩
abbrev cX1_readAll : ByteArray := prog_3_method_5_code
def yX1_readAll : MethodName := ⟨RX1, "readAll", "()Z"⟩
abbrev cX1_readNext : ByteArray := prog_3_method_6_code
def yX1_readNext : MethodName := ⟨RX1, "readNext", "()V"⟩
abbrev cX1_readOrder : ByteArray := prog_3_method_7_code
def yX1_readOrder : MethodName := ⟨RX1, "readOrder", "()V"⟩
abbrev cX1_readSign : ByteArray := prog_3_method_8_code
def yX1_readSign : MethodName := ⟨RX1, "readSign", "(I)V"⟩
abbrev cX1_readNumber : ByteArray := prog_3_method_9_code
def yX1_readNumber : MethodName := ⟨RX1, "readNumber", "(II)I"⟩
abbrev cX1_digitAt : ByteArray := prog_3_method_10_code
def yX1_digitAt : MethodName := ⟨RX1, "digitAt", "(I)I"⟩
abbrev cX1_begins : ByteArray := prog_3_method_11_code
def yX1_begins : MethodName := ⟨RX1, "begins", "(III)Z"⟩
abbrev cX1_isWithin : ByteArray := prog_3_method_12_code
def yX1_isWithin : MethodName := ⟨RX1, "isWithin", "(III)Z"⟩
def RX2 : String := "NumberLeases$Pool"
def TX2 : u_T := fun k => match k with
  | 0 => ("NumberLeases$Pool", "time", "I", false)
  | 1 => ("NumberLeases$Pool", "renewals", "I", false)
  | 2 => ("NumberLeases$Pool", "graceRenewals", "I", false)
  | 3 => ("NumberLeases$Pool", "freed", "I", false)
  | 4 => ("NumberLeases$Pool", "settings", "[I", true)
  | 5 => ("NumberLeases$Pool", "whose", "[I", true)
  | 6 => ("NumberLeases$Pool", "begin", "[I", true)
  | 7 => ("NumberLeases$Pool", "end", "[I", true)
  | 8 => ("NumberLeases$Pool", "last", "[I", true)
  | 9 => ("NumberLeases$Pool", "given", "[I", true)
  | 10 => ("NumberLeases$Pool", "waiting", "[I", true)
  | 11 => ("NumberLeases$Pool", "wishers", "[I", true)
  | 12 => ("NumberLeases$Pool", "wishTerms", "[I", true)
  | 13 => ("NumberLeases$Pool", "leases", "[I", true)
  | 14 => ("NumberLeases$Pool", "lost", "[I", true)
  | _ => ("NumberLeases$Pool", "units", "[I", true)
def tyX2 : Nat → FieldType := fun k => match k with
  | 0 => .int
  | 1 => .int
  | 2 => .int
  | 3 => .int
  | 4 => .array .int
  | 5 => .array .int
  | 6 => .array .int
  | 7 => .array .int
  | 8 => .array .int
  | 9 => .array .int
  | 10 => .array .int
  | 11 => .array .int
  | 12 => .array .int
  | 13 => .array .int
  | 14 => .array .int
  | _ => .array .int
abbrev wsX20 : List Cond := u_ws RX2 TX2 16
theorem nmX2 : ∀ a, a < 16 → ∀ b, b < 16 → a ≠ b → (TX2 a).2.1 ≠ (TX2 b).2.1 := by decide +kernel
theorem tyX2_ok : ∀ k, k < 16 → parseFieldDescriptor (TX2 k).2.2.1 = some (tyX2 k) := by decide +kernel
abbrev cX2_init : ByteArray := prog_4_method_1_code
def yX2_init : MethodName := ⟨RX2, "<init>", "()V"⟩
abbrev cX2_copyFrom : ByteArray := prog_4_method_2_code
def yX2_copyFrom : MethodName := ⟨RX2, "copyFrom", "(LNumberLeases$Pool;)V"⟩
abbrev cX2_copyRow : ByteArray := prog_4_method_3_code
def yX2_copyRow : MethodName := ⟨RX2, "copyRow", "([I[I)V"⟩
abbrev cX2_hasNumber : ByteArray := prog_4_method_4_code
def yX2_hasNumber : MethodName := ⟨RX2, "hasNumber", "(I)Z"⟩
abbrev cX2_mayLease : ByteArray := prog_4_method_5_code
def yX2_mayLease : MethodName := ⟨RX2, "mayLease", "(II)Z"⟩
abbrev cX2_mayWish : ByteArray := prog_4_method_6_code
def yX2_mayWish : MethodName := ⟨RX2, "mayWish", "(II)Z"⟩
abbrev cX2_mayRenew : ByteArray := prog_4_method_7_code
def yX2_mayRenew : MethodName := ⟨RX2, "mayRenew", "(II)Z"⟩
abbrev cX2_hasTimeFor : ByteArray := prog_4_method_8_code
def yX2_hasTimeFor : MethodName := ⟨RX2, "hasTimeFor", "(I)Z"⟩
abbrev cX2_fitsIn : ByteArray := prog_4_method_9_code
def yX2_fitsIn : MethodName := ⟨RX2, "fitsIn", "(I)Z"⟩
abbrev cX2_hasRoom : ByteArray := prog_4_method_10_code
def yX2_hasRoom : MethodName := ⟨RX2, "hasRoom", "(II)Z"⟩
abbrev cX2_leaseRow : ByteArray := prog_4_method_11_code
def yX2_leaseRow : MethodName := ⟨RX2, "leaseRow", "(III)I"⟩
abbrev cX2_lease : ByteArray := prog_4_method_12_code
def yX2_lease : MethodName := ⟨RX2, "lease", "(III)V"⟩
abbrev cX2_prolong : ByteArray := prog_4_method_13_code
def yX2_prolong : MethodName := ⟨RX2, "prolong", "(II)I"⟩
abbrev cX2_freeSpan : ByteArray := prog_4_method_14_code
def yX2_freeSpan : MethodName := ⟨RX2, "freeSpan", "(III)I"⟩
abbrev cX2_free : ByteArray := prog_4_method_15_code
def yX2_free : MethodName := ⟨RX2, "free", "(I)V"⟩
abbrev cX2_addWish : ByteArray := prog_4_method_16_code
def yX2_addWish : MethodName := ⟨RX2, "addWish", "(III)I"⟩
abbrev cX2_placeOfWish : ByteArray := prog_4_method_17_code
def yX2_placeOfWish : MethodName := ⟨RX2, "placeOfWish", "(II)I"⟩
abbrev cX2_dropWish : ByteArray := prog_4_method_18_code
def yX2_dropWish : MethodName := ⟨RX2, "dropWish", "(II)V"⟩
abbrev cX2_passUnits : ByteArray := prog_4_method_19_code
def yX2_passUnits : MethodName := ⟨RX2, "passUnits", "(I)I"⟩
abbrev cX2_leap : ByteArray := prog_4_method_20_code
def yX2_leap : MethodName := ⟨RX2, "leap", "(I)Z"⟩
abbrev cX2_countUnits : ByteArray := prog_4_method_21_code
def yX2_countUnits : MethodName := ⟨RX2, "countUnits", "()V"⟩
abbrev cX2_freeDue : ByteArray := prog_4_method_22_code
def yX2_freeDue : MethodName := ⟨RX2, "freeDue", "()V"⟩
abbrev cX2_stateOf : ByteArray := prog_4_method_23_code
def yX2_stateOf : MethodName := ⟨RX2, "stateOf", "(I)I"⟩
abbrev cX2_ofNumber : ByteArray := prog_4_method_24_code
def yX2_ofNumber : MethodName := ⟨RX2, "ofNumber", "(II)I"⟩
abbrev cX2_ofHolder : ByteArray := prog_4_method_25_code
def yX2_ofHolder : MethodName := ⟨RX2, "ofHolder", "(II)I"⟩
abbrev cX2_ofSpan : ByteArray := prog_4_method_26_code
def yX2_ofSpan : MethodName := ⟨RX2, "ofSpan", "(II)I"⟩
abbrev cX2_ofAll : ByteArray := prog_4_method_27_code
def yX2_ofAll : MethodName := ⟨RX2, "ofAll", "(I)I"⟩
abbrev cX2_freeNumbers : ByteArray := prog_4_method_28_code
def yX2_freeNumbers : MethodName := ⟨RX2, "freeNumbers", "()I"⟩
abbrev cX2_numbersIn : ByteArray := prog_4_method_29_code
def yX2_numbersIn : MethodName := ⟨RX2, "numbersIn", "(I)I"⟩
abbrev cX2_numbersOf : ByteArray := prog_4_method_30_code
def yX2_numbersOf : MethodName := ⟨RX2, "numbersOf", "(I)I"⟩
abbrev cX2_numbersOfIn : ByteArray := prog_4_method_31_code
def yX2_numbersOfIn : MethodName := ⟨RX2, "numbersOfIn", "(II)I"⟩
abbrev cX2_wishesOf : ByteArray := prog_4_method_32_code
def yX2_wishesOf : MethodName := ⟨RX2, "wishesOf", "(I)I"⟩
abbrev cX2_leastOf : ByteArray := prog_4_method_33_code
def yX2_leastOf : MethodName := ⟨RX2, "leastOf", "(I)I"⟩
abbrev cX2_leastEndOf : ByteArray := prog_4_method_34_code
def yX2_leastEndOf : MethodName := ⟨RX2, "leastEndOf", "(I)I"⟩
abbrev cX2_rowFrom : ByteArray := prog_4_method_35_code
def yX2_rowFrom : MethodName := ⟨RX2, "rowFrom", "(I)I"⟩
abbrev cX2_lowestRow : ByteArray := prog_4_method_36_code
def yX2_lowestRow : MethodName := ⟨RX2, "lowestRow", "(I)I"⟩
abbrev cX2_longestRow : ByteArray := prog_4_method_37_code
def yX2_longestRow : MethodName := ⟨RX2, "longestRow", "()I"⟩
abbrev cX2_spans : ByteArray := prog_4_method_38_code
def yX2_spans : MethodName := ⟨RX2, "spans", "()I"⟩
abbrev cX2_startOfSpan : ByteArray := prog_4_method_39_code
def yX2_startOfSpan : MethodName := ⟨RX2, "startOfSpan", "(I)I"⟩
abbrev cX2_startsSpan : ByteArray := prog_4_method_40_code
def yX2_startsSpan : MethodName := ⟨RX2, "startsSpan", "(I)Z"⟩
def RX3 : String := "NumberLeases$Saves"
def TX3 : u_T := fun k => match k with
  | 0 => ("NumberLeases$Saves", "kept", "[LNumberLeases$Pool;", true)
  | _ => ("NumberLeases$Saves", "many", "I", false)
def tyX3 : Nat → FieldType := fun k => match k with
  | 0 => .array (.object "NumberLeases$Pool")
  | _ => .int
abbrev wsX30 : List Cond := u_ws RX3 TX3 2
theorem nmX3 : ∀ a, a < 2 → ∀ b, b < 2 → a ≠ b → (TX3 a).2.1 ≠ (TX3 b).2.1 := by decide +kernel
theorem tyX3_ok : ∀ k, k < 2 → parseFieldDescriptor (TX3 k).2.2.1 = some (tyX3 k) := by decide +kernel
abbrev cX3_init : ByteArray := prog_5_method_1_code
def yX3_init : MethodName := ⟨RX3, "<init>", "()V"⟩
abbrev cX3_keep : ByteArray := prog_5_method_2_code
def yX3_keep : MethodName := ⟨RX3, "keep", "(LNumberLeases$Pool;)V"⟩
abbrev cX3_restore : ByteArray := prog_5_method_3_code
def yX3_restore : MethodName := ⟨RX3, "restore", "(LNumberLeases$Pool;)V"⟩
abbrev cX3_dropOldest : ByteArray := prog_5_method_4_code
def yX3_dropOldest : MethodName := ⟨RX3, "dropOldest", "()V"⟩
def RX4 : String := "NumberLeases"
def TX4 : u_T := fun k => match k with
  | 0 => ("NumberLeases", "pool", "LNumberLeases$Pool;", true)
  | 1 => ("NumberLeases", "ahead", "LNumberLeases$Pool;", true)
  | 2 => ("NumberLeases", "saves", "LNumberLeases$Saves;", true)
  | _ => ("NumberLeases", "orders", "LNumberLeases$Orders;", true)
def tyX4 : Nat → FieldType := fun k => match k with
  | 0 => .object "NumberLeases$Pool"
  | 1 => .object "NumberLeases$Pool"
  | 2 => .object "NumberLeases$Saves"
  | _ => .object "NumberLeases$Orders"
abbrev wsX40 : List Cond := u_ws RX4 TX4 4
theorem nmX4 : ∀ a, a < 4 → ∀ b, b < 4 → a ≠ b → (TX4 a).2.1 ≠ (TX4 b).2.1 := by decide +kernel
theorem tyX4_ok : ∀ k, k < 4 → parseFieldDescriptor (TX4 k).2.2.1 = some (tyX4 k) := by decide +kernel
abbrev cX4_init : ByteArray := prog_1_method_1_code
def yX4_init : MethodName := ⟨RX4, "<init>", "()V"⟩
abbrev cX4_take : ByteArray := prog_1_method_2_code
def yX4_take : MethodName := ⟨RX4, "take", "(II)I"⟩
abbrev cX4_takeSpan : ByteArray := prog_1_method_3_code
def yX4_takeSpan : MethodName := ⟨RX4, "takeSpan", "(III)I"⟩
abbrev cX4_wish : ByteArray := prog_1_method_4_code
def yX4_wish : MethodName := ⟨RX4, "wish", "(III)I"⟩
abbrev cX4_unwish : ByteArray := prog_1_method_5_code
def yX4_unwish : MethodName := ⟨RX4, "unwish", "(II)I"⟩
abbrev cX4_renew : ByteArray := prog_1_method_6_code
def yX4_renew : MethodName := ⟨RX4, "renew", "(III)I"⟩
abbrev cX4_giveBack : ByteArray := prog_1_method_7_code
def yX4_giveBack : MethodName := ⟨RX4, "giveBack", "(III)I"⟩
abbrev cX4_pass : ByteArray := prog_1_method_8_code
def yX4_pass : MethodName := ⟨RX4, "pass", "(I)I"⟩
abbrev cX4_set : ByteArray := prog_1_method_9_code
def yX4_set : MethodName := ⟨RX4, "set", "(II)I"⟩
abbrev cX4_append : ByteArray := prog_1_method_10_code
def yX4_append : MethodName := ⟨RX4, "append", "(I)I"⟩
abbrev cX4_clearBuffer : ByteArray := prog_1_method_11_code
def yX4_clearBuffer : MethodName := ⟨RX4, "clearBuffer", "()I"⟩
abbrev cX4_firstError : ByteArray := prog_1_method_12_code
def yX4_firstError : MethodName := ⟨RX4, "firstError", "()I"⟩
abbrev cX4_run : ByteArray := prog_1_method_13_code
def yX4_run : MethodName := ⟨RX4, "run", "()I"⟩
abbrev cX4_undo : ByteArray := prog_1_method_14_code
def yX4_undo : MethodName := ⟨RX4, "undo", "()I"⟩
abbrev cX4_number : ByteArray := prog_1_method_15_code
def yX4_number : MethodName := ⟨RX4, "number", "(II)I"⟩
abbrev cX4_holder : ByteArray := prog_1_method_16_code
def yX4_holder : MethodName := ⟨RX4, "holder", "(II)I"⟩
abbrev cX4_span : ByteArray := prog_1_method_17_code
def yX4_span : MethodName := ⟨RX4, "span", "(II)I"⟩
abbrev cX4_count : ByteArray := prog_1_method_18_code
def yX4_count : MethodName := ⟨RX4, "count", "(I)I"⟩
abbrev cX4_setting : ByteArray := prog_1_method_19_code
def yX4_setting : MethodName := ⟨RX4, "setting", "(I)I"⟩
abbrev cX4_whoAfter : ByteArray := prog_1_method_20_code
def yX4_whoAfter : MethodName := ⟨RX4, "whoAfter", "(II)I"⟩
abbrev cX4_freeIn : ByteArray := prog_1_method_21_code
def yX4_freeIn : MethodName := ⟨RX4, "freeIn", "(I)I"⟩
abbrev cX4_wishedIn : ByteArray := prog_1_method_22_code
def yX4_wishedIn : MethodName := ⟨RX4, "wishedIn", "(II)I"⟩
abbrev cX4_fullness : ByteArray := prog_1_method_23_code
def yX4_fullness : MethodName := ⟨RX4, "fullness", "()I"⟩
abbrev cX4_scatter : ByteArray := prog_1_method_24_code
def yX4_scatter : MethodName := ⟨RX4, "scatter", "()I"⟩
abbrev cX4_meanHeld : ByteArray := prog_1_method_25_code
def yX4_meanHeld : MethodName := ⟨RX4, "meanHeld", "()D"⟩
abbrev cX4_digest : ByteArray := prog_1_method_26_code
def yX4_digest : MethodName := ⟨RX4, "digest", "()J"⟩
abbrev cX4_needHolder : ByteArray := prog_1_method_27_code
def yX4_needHolder : MethodName := ⟨RX4, "needHolder", "(I)V"⟩
abbrev cX4_needNumber : ByteArray := prog_1_method_28_code
def yX4_needNumber : MethodName := ⟨RX4, "needNumber", "(I)V"⟩
abbrev cX4_needSetting : ByteArray := prog_1_method_29_code
def yX4_needSetting : MethodName := ⟨RX4, "needSetting", "(I)V"⟩
abbrev cX4_needRange : ByteArray := prog_1_method_30_code
def yX4_needRange : MethodName := ⟨RX4, "needRange", "(III)V"⟩
abbrev cX4_needState : ByteArray := prog_1_method_31_code
def yX4_needState : MethodName := ⟨RX4, "needState", "(Z)V"⟩
abbrev cX4_leaseLowest : ByteArray := prog_1_method_32_code
def yX4_leaseLowest : MethodName := ⟨RX4, "leaseLowest", "(III)I"⟩
abbrev cX4_carryOut : ByteArray := prog_1_method_33_code
def yX4_carryOut : MethodName := ⟨RX4, "carryOut", "()Z"⟩
abbrev cX4_countOf : ByteArray := prog_1_method_34_code
def yX4_countOf : MethodName := ⟨RX4, "countOf", "(I)I"⟩
abbrev cX4_holderAfter : ByteArray := prog_1_method_35_code
def yX4_holderAfter : MethodName := ⟨RX4, "holderAfter", "(II)I"⟩
abbrev cX4_timeToFree : ByteArray := prog_1_method_36_code
def yX4_timeToFree : MethodName := ⟨RX4, "timeToFree", "(I)I"⟩
abbrev cX4_timeToWished : ByteArray := prog_1_method_37_code
def yX4_timeToWished : MethodName := ⟨RX4, "timeToWished", "(II)I"⟩
abbrev cX4_fullnessBits : ByteArray := prog_1_method_38_code
def yX4_fullnessBits : MethodName := ⟨RX4, "fullnessBits", "()I"⟩
abbrev cX4_scatterBits : ByteArray := prog_1_method_39_code
def yX4_scatterBits : MethodName := ⟨RX4, "scatterBits", "()I"⟩
abbrev cX4_meanUnits : ByteArray := prog_1_method_40_code
def yX4_meanUnits : MethodName := ⟨RX4, "meanUnits", "()D"⟩
abbrev cX4_addNumbers : ByteArray := prog_1_method_41_code
def yX4_addNumbers : MethodName := ⟨RX4, "addNumbers", "(J)J"⟩
abbrev cX4_addHolders : ByteArray := prog_1_method_42_code
def yX4_addHolders : MethodName := ⟨RX4, "addHolders", "(J)J"⟩
abbrev cX4_addSpans : ByteArray := prog_1_method_43_code
def yX4_addSpans : MethodName := ⟨RX4, "addSpans", "(J)J"⟩
abbrev cX4_addBuffer : ByteArray := prog_1_method_44_code
def yX4_addBuffer : MethodName := ⟨RX4, "addBuffer", "(J)J"⟩
abbrev cX4_sum : ByteArray := prog_1_method_45_code
def yX4_sum : MethodName := ⟨RX4, "sum", "([I)I"⟩
def RX5 : String := "NumberLeasesModel"
def TX5 : u_T := fun k => match k with
  | 0 => ("NumberLeasesModel", "now", "[I", true)
  | 1 => ("NumberLeasesModel", "then", "[I", true)
  | 2 => ("NumberLeasesModel", "past", "[I", true)
  | 3 => ("NumberLeasesModel", "kept", "I", false)
  | 4 => ("NumberLeasesModel", "text", "[I", true)
  | 5 => ("NumberLeasesModel", "typed", "I", false)
  | 6 => ("NumberLeasesModel", "thrown", "I", false)
  | 7 => ("NumberLeasesModel", "at", "I", false)
  | 8 => ("NumberLeasesModel", "isFault", "Z", false)
  | 9 => ("NumberLeasesModel", "value", "I", false)
  | 10 => ("NumberLeasesModel", "orders", "[I", true)
  | _ => ("NumberLeasesModel", "ordered", "I", false)
def tyX5 : Nat → FieldType := fun k => match k with
  | 0 => .array .int
  | 1 => .array .int
  | 2 => .array .int
  | 3 => .int
  | 4 => .array .int
  | 5 => .int
  | 6 => .int
  | 7 => .int
  | 8 => .boolean
  | 9 => .int
  | 10 => .array .int
  | _ => .int
abbrev wsX50 : List Cond := u_ws RX5 TX5 12
theorem nmX5 : ∀ a, a < 12 → ∀ b, b < 12 → a ≠ b → (TX5 a).2.1 ≠ (TX5 b).2.1 := by decide +kernel
theorem tyX5_ok : ∀ k, k < 12 → parseFieldDescriptor (TX5 k).2.2.1 = some (tyX5 k) := by decide +kernel
abbrev cX5_init : ByteArray := prog_7_method_1_code
def yX5_init : MethodName := ⟨RX5, "<init>", "()V"⟩
abbrev cX5_thrown : ByteArray := prog_7_method_2_code
def yX5_thrown : MethodName := ⟨RX5, "thrown", "()I"⟩
abbrev cX5_fails : ByteArray := prog_7_method_3_code
def yX5_fails : MethodName := ⟨RX5, "fails", "(I)I"⟩
abbrev cX5_in : ByteArray := prog_7_method_4_code
def yX5_in : MethodName := ⟨RX5, "in", "(III)Z"⟩
abbrev cX5_isHolder : ByteArray := prog_7_method_5_code
def yX5_isHolder : MethodName := ⟨RX5, "isHolder", "(I)Z"⟩
abbrev cX5_isNumber : ByteArray := prog_7_method_6_code
def yX5_isNumber : MethodName := ⟨RX5, "isNumber", "(I)Z"⟩
abbrev cX5_isTerm : ByteArray := prog_7_method_7_code
def yX5_isTerm : MethodName := ⟨RX5, "isTerm", "(I)Z"⟩
abbrev cX5_saves : ByteArray := prog_7_method_8_code
def yX5_saves : MethodName := ⟨RX5, "saves", "()V"⟩
abbrev cX5_undo : ByteArray := prog_7_method_9_code
def yX5_undo : MethodName := ⟨RX5, "undo", "()I"⟩
abbrev cX5_tries : ByteArray := prog_7_method_10_code
def yX5_tries : MethodName := ⟨RX5, "tries", "()V"⟩
abbrev cX5_row : ByteArray := prog_7_method_11_code
def yX5_row : MethodName := ⟨RX5, "row", "(I)I"⟩
abbrev cX5_isFree : ByteArray := prog_7_method_12_code
def yX5_isFree : MethodName := ⟨RX5, "isFree", "([II)Z"⟩
abbrev cX5_stageOf : ByteArray := prog_7_method_13_code
def yX5_stageOf : MethodName := ⟨RX5, "stageOf", "([II)I"⟩
abbrev cX5_has : ByteArray := prog_7_method_14_code
def yX5_has : MethodName := ⟨RX5, "has", "([II)I"⟩
abbrev cX5_hasRoom : ByteArray := prog_7_method_15_code
def yX5_hasRoom : MethodName := ⟨RX5, "hasRoom", "([III)Z"⟩
abbrev cX5_atStage : ByteArray := prog_7_method_16_code
def yX5_atStage : MethodName := ⟨RX5, "atStage", "([II)I"⟩
abbrev cX5_gives : ByteArray := prog_7_method_17_code
def yX5_gives : MethodName := ⟨RX5, "gives", "([IIII)V"⟩
abbrev cX5_drops : ByteArray := prog_7_method_18_code
def yX5_drops : MethodName := ⟨RX5, "drops", "([III)V"⟩
abbrev cX5_frees : ByteArray := prog_7_method_19_code
def yX5_frees : MethodName := ⟨RX5, "frees", "([II)V"⟩
abbrev cX5_passes : ByteArray := prog_7_method_20_code
def yX5_passes : MethodName := ⟨RX5, "passes", "([I)I"⟩
abbrev cX5_firstFree : ByteArray := prog_7_method_21_code
def yX5_firstFree : MethodName := ⟨RX5, "firstFree", "([II)I"⟩
abbrev cX5_wishOf : ByteArray := prog_7_method_22_code
def yX5_wishOf : MethodName := ⟨RX5, "wishOf", "([III)I"⟩
abbrev cX5_waits : ByteArray := prog_7_method_23_code
def yX5_waits : MethodName := ⟨RX5, "waits", "([IIII)V"⟩
abbrev cX5_mayTake : ByteArray := prog_7_method_24_code
def yX5_mayTake : MethodName := ⟨RX5, "mayTake", "(I)Z"⟩
abbrev cX5_takes : ByteArray := prog_7_method_25_code
def yX5_takes : MethodName := ⟨RX5, "takes", "(II)I"⟩
abbrev cX5_take : ByteArray := prog_7_method_26_code
def yX5_take : MethodName := ⟨RX5, "take", "(II)I"⟩
abbrev cX5_takeSpan : ByteArray := prog_7_method_27_code
def yX5_takeSpan : MethodName := ⟨RX5, "takeSpan", "(III)I"⟩
abbrev cX5_mayWish : ByteArray := prog_7_method_28_code
def yX5_mayWish : MethodName := ⟨RX5, "mayWish", "(II)Z"⟩
abbrev cX5_wishes : ByteArray := prog_7_method_29_code
def yX5_wishes : MethodName := ⟨RX5, "wishes", "(III)I"⟩
abbrev cX5_wish : ByteArray := prog_7_method_30_code
def yX5_wish : MethodName := ⟨RX5, "wish", "(III)I"⟩
abbrev cX5_unwish : ByteArray := prog_7_method_31_code
def yX5_unwish : MethodName := ⟨RX5, "unwish", "(II)I"⟩
abbrev cX5_renew : ByteArray := prog_7_method_32_code
def yX5_renew : MethodName := ⟨RX5, "renew", "(III)I"⟩
abbrev cX5_givesBack : ByteArray := prog_7_method_33_code
def yX5_givesBack : MethodName := ⟨RX5, "givesBack", "(III)I"⟩
abbrev cX5_giveBack : ByteArray := prog_7_method_34_code
def yX5_giveBack : MethodName := ⟨RX5, "giveBack", "(III)I"⟩
abbrev cX5_passesBy : ByteArray := prog_7_method_35_code
def yX5_passesBy : MethodName := ⟨RX5, "passesBy", "(I)I"⟩
abbrev cX5_pass : ByteArray := prog_7_method_36_code
def yX5_pass : MethodName := ⟨RX5, "pass", "(I)I"⟩
abbrev cX5_isFor : ByteArray := prog_7_method_37_code
def yX5_isFor : MethodName := ⟨RX5, "isFor", "(II)Z"⟩
abbrev cX5_set : ByteArray := prog_7_method_38_code
def yX5_set : MethodName := ⟨RX5, "set", "(II)I"⟩
abbrev cX5_append : ByteArray := prog_7_method_39_code
def yX5_append : MethodName := ⟨RX5, "append", "(I)I"⟩
abbrev cX5_clearBuffer : ByteArray := prog_7_method_40_code
def yX5_clearBuffer : MethodName := ⟨RX5, "clearBuffer", "()I"⟩
abbrev cX5_isAt : ByteArray := prog_7_method_41_code
def yX5_isAt : MethodName := ⟨RX5, "isAt", "(II)Z"⟩
abbrev cX5_stops : ByteArray := prog_7_method_42_code
def yX5_stops : MethodName := ⟨RX5, "stops", "()Z"⟩
abbrev cX5_isSign : ByteArray := prog_7_method_43_code
def yX5_isSign : MethodName := ⟨RX5, "isSign", "(I)Z"⟩
abbrev cX5_begins : ByteArray := prog_7_method_44_code
def yX5_begins : MethodName := ⟨RX5, "begins", "(III)Z"⟩
abbrev cX5_isWhole : ByteArray := prog_7_method_45_code
def yX5_isWhole : MethodName := ⟨RX5, "isWhole", "(II)Z"⟩
abbrev cX5_isTold : ByteArray := prog_7_method_46_code
def yX5_isTold : MethodName := ⟨RX5, "isTold", "(III)Z"⟩
abbrev cX5_isOrder : ByteArray := prog_7_method_47_code
def yX5_isOrder : MethodName := ⟨RX5, "isOrder", "()Z"⟩
abbrev cX5_isText : ByteArray := prog_7_method_48_code
def yX5_isText : MethodName := ⟨RX5, "isText", "()Z"⟩
abbrev cX5_firstError : ByteArray := prog_7_method_49_code
def yX5_firstError : MethodName := ⟨RX5, "firstError", "()I"⟩
abbrev cX5_isDone : ByteArray := prog_7_method_50_code
def yX5_isDone : MethodName := ⟨RX5, "isDone", "(I)Z"⟩
abbrev cX5_run : ByteArray := prog_7_method_51_code
def yX5_run : MethodName := ⟨RX5, "run", "()I"⟩
abbrev cX5_ofNumber : ByteArray := prog_7_method_52_code
def yX5_ofNumber : MethodName := ⟨RX5, "ofNumber", "(II)I"⟩
abbrev cX5_number : ByteArray := prog_7_method_53_code
def yX5_number : MethodName := ⟨RX5, "number", "(II)I"⟩
abbrev cX5_ofHolder : ByteArray := prog_7_method_54_code
def yX5_ofHolder : MethodName := ⟨RX5, "ofHolder", "(II)I"⟩
abbrev cX5_holder : ByteArray := prog_7_method_55_code
def yX5_holder : MethodName := ⟨RX5, "holder", "(II)I"⟩
abbrev cX5_spans : ByteArray := prog_7_method_56_code
def yX5_spans : MethodName := ⟨RX5, "spans", "(II)I"⟩
abbrev cX5_span : ByteArray := prog_7_method_57_code
def yX5_span : MethodName := ⟨RX5, "span", "(II)I"⟩
abbrev cX5_sumOf : ByteArray := prog_7_method_58_code
def yX5_sumOf : MethodName := ⟨RX5, "sumOf", "(III)I"⟩
abbrev cX5_counted : ByteArray := prog_7_method_59_code
def yX5_counted : MethodName := ⟨RX5, "counted", "(I)I"⟩
abbrev cX5_count : ByteArray := prog_7_method_60_code
def yX5_count : MethodName := ⟨RX5, "count", "(I)I"⟩
abbrev cX5_setting : ByteArray := prog_7_method_61_code
def yX5_setting : MethodName := ⟨RX5, "setting", "(I)I"⟩
abbrev cX5_whoThen : ByteArray := prog_7_method_62_code
def yX5_whoThen : MethodName := ⟨RX5, "whoThen", "(II)I"⟩
abbrev cX5_whoAfter : ByteArray := prog_7_method_63_code
def yX5_whoAfter : MethodName := ⟨RX5, "whoAfter", "(II)I"⟩
abbrev cX5_freeThen : ByteArray := prog_7_method_64_code
def yX5_freeThen : MethodName := ⟨RX5, "freeThen", "(I)I"⟩
abbrev cX5_freeIn : ByteArray := prog_7_method_65_code
def yX5_freeIn : MethodName := ⟨RX5, "freeIn", "(I)I"⟩
abbrev cX5_wishedThen : ByteArray := prog_7_method_66_code
def yX5_wishedThen : MethodName := ⟨RX5, "wishedThen", "(II)I"⟩
abbrev cX5_wishedIn : ByteArray := prog_7_method_67_code
def yX5_wishedIn : MethodName := ⟨RX5, "wishedIn", "(II)I"⟩
abbrev cX5_fullness : ByteArray := prog_7_method_68_code
def yX5_fullness : MethodName := ⟨RX5, "fullness", "()I"⟩
abbrev cX5_scatter : ByteArray := prog_7_method_69_code
def yX5_scatter : MethodName := ⟨RX5, "scatter", "()I"⟩
abbrev cX5_meanHeld : ByteArray := prog_7_method_70_code
def yX5_meanHeld : MethodName := ⟨RX5, "meanHeld", "()D"⟩
abbrev cX5_digest : ByteArray := prog_7_method_71_code
def yX5_digest : MethodName := ⟨RX5, "digest", "()J"⟩
def RJxe99ae : String := "java/lang/Double"
def TJxe99ae : u_T := fun k => match k with
  | _ => ("", "", "", false)
def tyJxe99ae : Nat → FieldType := fun k => match k with
  | _ => .int
abbrev wsJxe99ae0 : List Cond := u_ws RJxe99ae TJxe99ae 0
theorem nmJxe99ae : ∀ a, a < 0 → ∀ b, b < 0 → a ≠ b → (TJxe99ae a).2.1 ≠ (TJxe99ae b).2.1 := by decide +kernel
theorem tyJxe99ae_ok : ∀ k, k < 0 → parseFieldDescriptor (TJxe99ae k).2.2.1 = some (tyJxe99ae k) := by decide +kernel
abbrev cJxe99ae_isNaN_b9ae7 : ByteArray := prog_8_method_6_code
def yJxe99ae_isNaN_b9ae7 : MethodName := ⟨RJxe99ae, "isNaN", "(D)Z"⟩
abbrev cJxe99ae_doubleToLongBits_ccdee : ByteArray := prog_8_method_23_code
def yJxe99ae_doubleToLongBits_ccdee : MethodName := ⟨RJxe99ae, "doubleToLongBits", "(D)J"⟩
def RJxf58ca : String := "java/lang/Float"
def TJxf58ca : u_T := fun k => match k with
  | _ => ("", "", "", false)
def tyJxf58ca : Nat → FieldType := fun k => match k with
  | _ => .int
abbrev wsJxf58ca0 : List Cond := u_ws RJxf58ca TJxf58ca 0
theorem nmJxf58ca : ∀ a, a < 0 → ∀ b, b < 0 → a ≠ b → (TJxf58ca a).2.1 ≠ (TJxf58ca b).2.1 := by decide +kernel
theorem tyJxf58ca_ok : ∀ k, k < 0 → parseFieldDescriptor (TJxf58ca k).2.2.1 = some (tyJxf58ca k) := by decide +kernel
abbrev cJxf58ca_isNaN_12338 : ByteArray := prog_10_method_6_code
def yJxf58ca_isNaN_12338 : MethodName := ⟨RJxf58ca, "isNaN", "(F)Z"⟩
abbrev cJxf58ca_floatToIntBits_5c35a : ByteArray := prog_10_method_24_code
def yJxf58ca_floatToIntBits_5c35a : MethodName := ⟨RJxf58ca, "floatToIntBits", "(F)I"⟩
def RJ9 : String := "java/lang/Math"
def TJ9 : u_T := fun k => match k with
  | _ => ("", "", "", false)
def tyJ9 : Nat → FieldType := fun k => match k with
  | _ => .int
abbrev wsJ90 : List Cond := u_ws RJ9 TJ9 0
theorem nmJ9 : ∀ a, a < 0 → ∀ b, b < 0 → a ≠ b → (TJ9 a).2.1 ≠ (TJ9 b).2.1 := by decide +kernel
theorem tyJ9_ok : ∀ k, k < 0 → parseFieldDescriptor (TJ9 k).2.2.1 = some (tyJ9 k) := by decide +kernel
abbrev cJ9_max_7cf53 : ByteArray := prog_14_method_65_code
def yJ9_max_7cf53 : MethodName := ⟨RJ9, "max", "(II)I"⟩
abbrev cJ9_min_7cf53 : ByteArray := prog_14_method_69_code
def yJ9_min_7cf53 : MethodName := ⟨RJ9, "min", "(II)I"⟩
def RJ10 : String := "java/lang/System"
def TJ10 : u_T := fun k => match k with
  | _ => ("", "", "", false)
def tyJ10 : Nat → FieldType := fun k => match k with
  | _ => .int
abbrev wsJ100 : List Cond := u_ws RJ10 TJ10 0
theorem nmJ10 : ∀ a, a < 0 → ∀ b, b < 0 → a ≠ b → (TJ10 a).2.1 ≠ (TJ10 b).2.1 := by decide +kernel
theorem tyJ10_ok : ∀ k, k < 0 → parseFieldDescriptor (TJ10 k).2.2.1 = some (tyJ10 k) := by decide +kernel
def RL : String := "NumberLeasesLaw"
abbrev cL_take : ByteArray := method_3_code
def yL_take : MethodName := ⟨RL, "take", "(LNumberLeases;II[J)I"⟩
abbrev cL_takeSpan : ByteArray := method_4_code
def yL_takeSpan : MethodName := ⟨RL, "takeSpan", "(LNumberLeases;III[J)I"⟩
abbrev cL_wish : ByteArray := method_5_code
def yL_wish : MethodName := ⟨RL, "wish", "(LNumberLeases;III[J)I"⟩
abbrev cL_unwish : ByteArray := method_6_code
def yL_unwish : MethodName := ⟨RL, "unwish", "(LNumberLeases;II[J)I"⟩
abbrev cL_renew : ByteArray := method_7_code
def yL_renew : MethodName := ⟨RL, "renew", "(LNumberLeases;III[J)I"⟩
abbrev cL_giveBack : ByteArray := method_8_code
def yL_giveBack : MethodName := ⟨RL, "giveBack", "(LNumberLeases;III[J)I"⟩
abbrev cL_pass : ByteArray := method_9_code
def yL_pass : MethodName := ⟨RL, "pass", "(LNumberLeases;I[J)I"⟩
abbrev cL_set : ByteArray := method_10_code
def yL_set : MethodName := ⟨RL, "set", "(LNumberLeases;II[J)I"⟩
abbrev cL_append : ByteArray := method_11_code
def yL_append : MethodName := ⟨RL, "append", "(LNumberLeases;I[J)I"⟩
abbrev cL_run : ByteArray := method_12_code
def yL_run : MethodName := ⟨RL, "run", "(LNumberLeases;[J)I"⟩
abbrev cL_undo : ByteArray := method_13_code
def yL_undo : MethodName := ⟨RL, "undo", "(LNumberLeases;[J)I"⟩
abbrev cL_number : ByteArray := method_14_code
def yL_number : MethodName := ⟨RL, "number", "(LNumberLeases;II[J)I"⟩
abbrev cL_holder : ByteArray := method_15_code
def yL_holder : MethodName := ⟨RL, "holder", "(LNumberLeases;II[J)I"⟩
abbrev cL_span : ByteArray := method_16_code
def yL_span : MethodName := ⟨RL, "span", "(LNumberLeases;II[J)I"⟩
abbrev cL_count : ByteArray := method_17_code
def yL_count : MethodName := ⟨RL, "count", "(LNumberLeases;I[J)I"⟩
abbrev cL_setting : ByteArray := method_18_code
def yL_setting : MethodName := ⟨RL, "setting", "(LNumberLeases;I[J)I"⟩
abbrev cL_whoAfter : ByteArray := method_19_code
def yL_whoAfter : MethodName := ⟨RL, "whoAfter", "(LNumberLeases;II[J)I"⟩
abbrev cL_freeIn : ByteArray := method_20_code
def yL_freeIn : MethodName := ⟨RL, "freeIn", "(LNumberLeases;I[J)I"⟩
abbrev cL_wishedIn : ByteArray := method_21_code
def yL_wishedIn : MethodName := ⟨RL, "wishedIn", "(LNumberLeases;II[J)I"⟩
abbrev cL_law : ByteArray := code
def yL_law : MethodName := ⟨RL, "law", "([I)Z"⟩
abbrev vwCl : List vw_C := [(RX1, TX1, 8), (RX2, TX2, 16), (RX3, TX3, 2), (RX4, TX4, 4), (RX5, TX5, 12)]
