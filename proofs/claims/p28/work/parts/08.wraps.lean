theorem kL_88 : wV RL 88 RX4 yX4_span cX4_span 3 (some .int) 2 := ⟨m159, m160, m161, m25, m162, by decide +kernel⟩
theorem kX4_44 : wS RX4 44 yX4_needRange cX4_needRange 3 none 3 := ⟨m226, m227, m25, m228, by decide +kernel⟩
theorem kX4_145 : wV RX4 145 RX2 yX2_ofSpan cX2_ofSpan 4 (some .int) 2 := ⟨m229, m230, m231, m26, m232, by decide +kernel⟩
theorem kX2_124 : wV RX2 124 RX2 yX2_startOfSpan cX2_startOfSpan 4 (some .int) 1 := ⟨m233, m235, m1, m26, m236, by decide +kernel⟩
theorem kX2_150 : wV RX2 150 RX2 yX2_startsSpan cX2_startsSpan 2 (some .boolean) 1 := ⟨m237, m239, m2, m26, m240, by decide +kernel⟩
theorem kX2_127 : wV RX2 127 RX2 yX2_rowFrom cX2_rowFrom 3 (some .int) 1 := ⟨m241, m243, m3, m26, m244, by decide +kernel⟩
theorem kL_73 : wV RL 73 RX4 yX4_count cX4_count 2 (some .int) 1 := ⟨m245, m246, m247, m25, m248, by decide +kernel⟩
theorem kX4_148 : wV RX4 148 RX4 yX4_countOf cX4_countOf 2 (some .int) 1 := ⟨m249, m251, m4, m25, m252, by decide +kernel⟩
theorem kX4_221 : wV RX4 221 RX2 yX2_ofAll cX2_ofAll 2 (some .int) 1 := ⟨m253, m254, m255, m26, m256, by decide +kernel⟩
theorem kX2_130 : wV RX2 130 RX2 yX2_freeNumbers cX2_freeNumbers 1 (some .int) 0 := ⟨m257, m258, m259, m26, m260, by decide +kernel⟩
theorem kX2_134 : wV RX2 134 RX2 yX2_numbersIn cX2_numbersIn 4 (some .int) 1 := ⟨m261, m263, m5, m26, m264, by decide +kernel⟩
theorem kX2_95 : wV RX2 95 RX2 yX2_stateOf cX2_stateOf 2 (some .int) 1 := ⟨m265, m267, m6, m26, m268, by decide +kernel⟩
theorem kX2_141 : wV RX2 141 RX2 yX2_spans cX2_spans 3 (some .int) 0 := ⟨m272, m273, m274, m26, m275, by decide +kernel⟩
theorem kX2_144 : wV RX2 144 RX2 yX2_longestRow cX2_longestRow 3 (some .int) 0 := ⟨m276, m277, m278, m26, m279, by decide +kernel⟩
theorem kL_47 : wS RL 47 yL_low cL_low 2 (some .int) 2 := ⟨m283, m284, m24, m285, by decide +kernel⟩
theorem kL_41 : wS RL 41 yL_cell cL_cell 2 (some .int) 2 := ⟨m287, m288, m24, m289, by decide +kernel⟩
theorem kL_9 : wV RL 9 RX4 yX4_take cX4_take 3 (some .int) 2 := ⟨m295, m296, m297, m25, m298, by decide +kernel⟩
theorem kX4_33 : wV RX4 33 RX4 yX4_leaseLowest cX4_leaseLowest 4 (some .int) 3 := ⟨m299, m301, m7, m25, m302, by decide +kernel⟩
theorem kX4_37 : wS RX4 37 yX4_needHolder cX4_needHolder 1 none 1 := ⟨m303, m304, m25, m305, by decide +kernel⟩
theorem kX4_203 : wV RX4 203 RX2 yX2_mayLease cX2_mayLease 3 (some .boolean) 2 := ⟨m321, m322, m323, m26, m324, by decide +kernel⟩
theorem kX2_77 : wV RX2 77 RX2 yX2_hasRoom cX2_hasRoom 3 (some .boolean) 2 := ⟨m325, m327, m8, m26, m328, by decide +kernel⟩
theorem kX2_88 : wV RX2 88 RX2 yX2_numbersOf cX2_numbersOf 4 (some .int) 1 := ⟨m329, m331, m9, m26, m332, by decide +kernel⟩
theorem kX2_81 : wV RX2 81 RX2 yX2_lowestRow cX2_lowestRow 3 (some .int) 1 := ⟨m333, m335, m10, m26, m336, by decide +kernel⟩
theorem kX4_52 : wS RX4 52 yX4_needState cX4_needState 1 none 1 := ⟨m337, m338, m25, m339, by decide +kernel⟩
theorem kX4_56 : wV RX4 56 RX3 yX3_keep cX3_keep 3 none 1 := ⟨m355, m356, m357, m27, m358, by decide +kernel⟩
theorem kX3_22 : wV RX3 22 RX3 yX3_dropOldest cX3_dropOldest 3 none 0 := ⟨m359, m361, m11, m27, m362, by decide +kernel⟩
theorem kX3_25 : wV RX3 25 RX2 yX2_copyFrom cX2_copyFrom 2 none 1 := ⟨m363, m364, m365, m26, m366, by decide +kernel⟩
theorem kX2_61 : wS RX2 61 yX2_copyRow cX2_copyRow 2 none 2 := ⟨m367, m368, m26, m369, by decide +kernel⟩
theorem kX4_206 : wV RX4 206 RX2 yX2_leaseRow cX2_leaseRow 6 (some .int) 3 := ⟨m376, m377, m378, m26, m379, by decide +kernel⟩
theorem kX2_91 : wV RX2 91 RX2 yX2_lease cX2_lease 4 none 3 := ⟨m380, m382, m12, m26, m383, by decide +kernel⟩
theorem kL_32 : wV RL 32 RX4 yX4_set cX4_set 4 (some .int) 2 := ⟨m388, m389, m390, m25, m391, by decide +kernel⟩
theorem kX4_92 : wS RX4 92 yX4_needSetting cX4_needSetting 1 none 1 := ⟨m392, m393, m25, m394, by decide +kernel⟩
theorem kX4_101 : wV RX4 101 RX2 yX2_fitsIn cX2_fitsIn 3 (some .boolean) 1 := ⟨m399, m400, m401, m26, m402, by decide +kernel⟩
theorem kL_99 : wS RL 99 yL_act cL_act 7 (some .int) 3 := ⟨m403, m404, m24, m405, by decide +kernel⟩
theorem kL_37 : wV RL 37 RX4 yX4_setting cX4_setting 2 (some .int) 1 := ⟨m406, m407, m408, m25, m409, by decide +kernel⟩
theorem kL_17 : wV RL 17 RX4 yX4_takeSpan cX4_takeSpan 4 (some .int) 3 := ⟨m413, m414, m415, m25, m416, by decide +kernel⟩
theorem kL_21 : wV RL 21 RX4 yX4_wish cX4_wish 4 (some .int) 3 := ⟨m421, m422, m423, m25, m424, by decide +kernel⟩
theorem kX4_41 : wV RX4 41 RX4 yX4_needNumber cX4_needNumber 2 none 1 := ⟨m425, m427, m13, m25, m428, by decide +kernel⟩
theorem kX4_197 : wV RX4 197 RX2 yX2_hasNumber cX2_hasNumber 2 (some .boolean) 1 := ⟨m429, m430, m431, m26, m432, by decide +kernel⟩
theorem kX4_48 : wV RX4 48 RX2 yX2_mayWish cX2_mayWish 3 (some .boolean) 2 := ⟨m433, m434, m435, m26, m436, by decide +kernel⟩
theorem kX2_85 : wV RX2 85 RX2 yX2_placeOfWish cX2_placeOfWish 4 (some .int) 2 := ⟨m437, m438, m439, m26, m440, by decide +kernel⟩
theorem kX4_60 : wV RX4 60 RX2 yX2_addWish cX2_addWish 5 (some .int) 3 := ⟨m441, m442, m443, m26, m444, by decide +kernel⟩
theorem kL_29 : wV RL 29 RX4 yX4_renew cX4_renew 4 (some .int) 3 := ⟨m448, m449, m450, m25, m451, by decide +kernel⟩
theorem kX4_75 : wV RX4 75 RX2 yX2_mayRenew cX2_mayRenew 3 (some .boolean) 2 := ⟨m452, m453, m454, m26, m455, by decide +kernel⟩
theorem kX4_78 : wV RX4 78 RX2 yX2_prolong cX2_prolong 4 (some .int) 2 := ⟨m456, m457, m458, m26, m459, by decide +kernel⟩
theorem kL_61 : wV RL 61 RX4 yX4_giveBack cX4_giveBack 4 (some .int) 3 := ⟨m460, m461, m462, m25, m463, by decide +kernel⟩
theorem kX4_81 : wV RX4 81 RX2 yX2_freeSpan cX2_freeSpan 6 (some .int) 3 := ⟨m464, m465, m466, m26, m467, by decide +kernel⟩
theorem kX2_98 : wV RX2 98 RX2 yX2_free cX2_free 5 none 1 := ⟨m468, m470, m14, m26, m471, by decide +kernel⟩
theorem kX2_102 : wV RX2 102 RX2 yX2_dropWish cX2_dropWish 5 none 2 := ⟨m472, m473, m474, m26, m475, by decide +kernel⟩
theorem kL_26 : wV RL 26 RX4 yX4_unwish cX4_unwish 4 (some .int) 2 := ⟨m479, m480, m481, m25, m482, by decide +kernel⟩
theorem kX4_63 : wV RX4 63 RX2 yX2_placeOfWish cX2_placeOfWish 4 (some .int) 2 := ⟨m483, m438, m439, m26, m440, by decide +kernel⟩
theorem kX4_67 : wV RX4 67 RX2 yX2_dropWish cX2_dropWish 5 none 2 := ⟨m484, m473, m474, m26, m475, by decide +kernel⟩
theorem kL_66 : wV RL 66 RX4 yX4_pass cX4_pass 2 (some .int) 1 := ⟨m485, m486, m487, m25, m488, by decide +kernel⟩
theorem kX4_84 : wV RX4 84 RX2 yX2_hasTimeFor cX2_hasTimeFor 2 (some .boolean) 1 := ⟨m489, m490, m491, m26, m492, by decide +kernel⟩
theorem kX4_88 : wV RX4 88 RX2 yX2_passUnits cX2_passUnits 4 (some .int) 1 := ⟨m493, m494, m495, m26, m496, by decide +kernel⟩
theorem kX2_106 : wV RX2 106 RX2 yX2_countUnits cX2_countUnits 2 none 0 := ⟨m497, m499, m15, m26, m500, by decide +kernel⟩
theorem kX2_109 : wV RX2 109 RX2 yX2_freeDue cX2_freeDue 2 none 0 := ⟨m501, m503, m16, m26, m504, by decide +kernel⟩
theorem kL_69 : wV RL 69 RX4 yX4_undo cX4_undo 1 (some .int) 0 := ⟨m508, m509, m510, m25, m511, by decide +kernel⟩
theorem kX4_136 : wV RX4 136 RX3 yX3_restore cX3_restore 3 none 1 := ⟨m512, m513, m514, m27, m515, by decide +kernel⟩
theorem kL_103 : wS RL 103 yL_numbers cL_numbers 9 (some .boolean) 1 := ⟨m516, m517, m24, m518, by decide +kernel⟩
theorem kL_76 : wV RL 76 RX4 yX4_number cX4_number 3 (some .int) 2 := ⟨m519, m520, m521, m25, m522, by decide +kernel⟩
theorem kX4_139 : wV RX4 139 RX2 yX2_ofNumber cX2_ofNumber 5 (some .int) 2 := ⟨m523, m524, m525, m26, m526, by decide +kernel⟩
theorem kL_79 : wV RL 79 RX4 yX4_whoAfter cX4_whoAfter 3 (some .int) 2 := ⟨m527, m528, m529, m25, m530, by decide +kernel⟩
theorem kX4_151 : wV RX4 151 RX4 yX4_holderAfter cX4_holderAfter 6 (some .int) 2 := ⟨m531, m533, m17, m25, m534, by decide +kernel⟩
theorem kX4_224 : wV RX4 224 RX2 yX2_copyFrom cX2_copyFrom 2 none 1 := ⟨m535, m364, m365, m26, m366, by decide +kernel⟩
theorem kX4_230 : wV RX4 230 RX2 yX2_leap cX2_leap 4 (some .boolean) 1 := ⟨m536, m537, m538, m26, m539, by decide +kernel⟩
theorem kL_82 : wV RL 82 RX4 yX4_wishedIn cX4_wishedIn 3 (some .int) 2 := ⟨m540, m541, m542, m25, m543, by decide +kernel⟩
theorem kX4_157 : wV RX4 157 RX4 yX4_timeToWished cX4_timeToWished 5 (some .int) 2 := ⟨m544, m546, m18, m25, m547, by decide +kernel⟩
theorem kL_107 : wS RL 107 yL_holders cL_holders 9 (some .boolean) 1 := ⟨m548, m549, m24, m550, by decide +kernel⟩
theorem kL_85 : wV RL 85 RX4 yX4_holder cX4_holder 3 (some .int) 2 := ⟨m551, m552, m553, m25, m554, by decide +kernel⟩
theorem kX4_142 : wV RX4 142 RX2 yX2_ofHolder cX2_ofHolder 3 (some .int) 2 := ⟨m555, m556, m557, m26, m558, by decide +kernel⟩
theorem kX2_112 : wV RX2 112 RX2 yX2_numbersOfIn cX2_numbersOfIn 5 (some .int) 2 := ⟨m559, m561, m19, m26, m562, by decide +kernel⟩
theorem kX2_115 : wV RX2 115 RX2 yX2_wishesOf cX2_wishesOf 4 (some .int) 1 := ⟨m563, m565, m20, m26, m566, by decide +kernel⟩
theorem kX2_118 : wV RX2 118 RX2 yX2_leastOf cX2_leastOf 3 (some .int) 1 := ⟨m567, m569, m21, m26, m570, by decide +kernel⟩
theorem kX2_121 : wV RX2 121 RX2 yX2_leastEndOf cX2_leastEndOf 4 (some .int) 1 := ⟨m571, m573, m22, m26, m574, by decide +kernel⟩
theorem kL_110 : wS RL 110 yL_spans cL_spans 9 (some .boolean) 1 := ⟨m575, m576, m24, m577, by decide +kernel⟩
theorem kL_90 : wV RL 90 RX4 yX4_freeIn cX4_freeIn 2 (some .int) 1 := ⟨m578, m579, m580, m25, m581, by decide +kernel⟩
theorem kX4_154 : wV RX4 154 RX4 yX4_timeToFree cX4_timeToFree 4 (some .int) 1 := ⟨m582, m584, m23, m25, m585, by decide +kernel⟩
theorem kX4_236 : wV RX4 236 RX2 yX2_freeNumbers cX2_freeNumbers 1 (some .int) 0 := ⟨m586, m258, m259, m26, m260, by decide +kernel⟩
section WRAPS
variable {l : Launch} {E : jE} {own : String} {cc : ByteArray} {nL d n0 cap : Nat} {J : jT} {pc : Nat} {L : List (Option Value)} {rest : List Value}
theorem r_V0v (hJ : jR l E own cc nL d n0 cap J) {ix nL' d' a : Nat} {C : String} {y : MethodName} {cc' : ByteArray} {ret : Option FieldType} {S S' : jS} {x : jX} {v : Value} (w : wV own ix C y cc' nL' ret 0) (hrc : rcv E a C) (ct : Ct l E y cc' nL' ret d' [.ref a] (S, x) (some v) (S', x)) (hd : decode cc pc = .ok (.invokevirtual ix, 3)) (hdd : d' < d ∧ nL' ≤ 13) (hst : (rest.map fun v => v.category).sum ≤ 8) (k : J (S', x) (pc + 3) L (v :: rest)) : J (S, x) pc L (.ref a :: rest) :=
  r_callV hJ (As := []) w hrc ct hd hdd rfl hst id k
theorem r_S0v (hJ : jR l E own cc nL d n0 cap J) {ix nL' d' : Nat} {y : MethodName} {cc' : ByteArray} {ret : Option FieldType} {S S' : jS} {x : jX} {v : Value} (w : wS own ix y cc' nL' ret 0) (ct : Ct l E y cc' nL' ret d' [] (S, x) (some v) (S', x)) (hd : decode cc pc = .ok (.invokestatic ix, 3)) (hdd : d' < d ∧ nL' ≤ 13) (hst : (rest.map fun v => v.category).sum ≤ 8) (k : J (S', x) (pc + 3) L (v :: rest)) : J (S, x) pc L (rest) :=
  r_callS hJ (As := []) w ct hd hdd rfl hst id k
theorem r_V0u (hJ : jR l E own cc nL d n0 cap J) {ix nL' d' a : Nat} {C : String} {y : MethodName} {cc' : ByteArray} {ret : Option FieldType} {S S' : jS} {x : jX} (w : wV own ix C y cc' nL' ret 0) (hrc : rcv E a C) (ct : Ct l E y cc' nL' ret d' [.ref a] (S, x) none (S', x)) (hd : decode cc pc = .ok (.invokevirtual ix, 3)) (hdd : d' < d ∧ nL' ≤ 13) (hst : (rest.map fun v => v.category).sum ≤ 8) (k : J (S', x) (pc + 3) L rest) : J (S, x) pc L (.ref a :: rest) :=
  r_callV hJ (As := []) w hrc ct hd hdd rfl hst id k
theorem r_S0u (hJ : jR l E own cc nL d n0 cap J) {ix nL' d' : Nat} {y : MethodName} {cc' : ByteArray} {ret : Option FieldType} {S S' : jS} {x : jX} (w : wS own ix y cc' nL' ret 0) (ct : Ct l E y cc' nL' ret d' [] (S, x) none (S', x)) (hd : decode cc pc = .ok (.invokestatic ix, 3)) (hdd : d' < d ∧ nL' ≤ 13) (hst : (rest.map fun v => v.category).sum ≤ 8) (k : J (S', x) (pc + 3) L rest) : J (S, x) pc L (rest) :=
  r_callS hJ (As := []) w ct hd hdd rfl hst id k
theorem r_V1v (hJ : jR l E own cc nL d n0 cap J) {ix nL' d' a : Nat} {C : String} {y : MethodName} {cc' : ByteArray} {ret : Option FieldType} {S S' : jS} {x : jX} {x1 : Value} {v : Value} (w : wV own ix C y cc' nL' ret 1) (hrc : rcv E a C) (ct : Ct l E y cc' nL' ret d' [.ref a, x1] (S, x) (some v) (S', x)) (hd : decode cc pc = .ok (.invokevirtual ix, 3)) (hdd : d' < d ∧ nL' ≤ 13) (hst : (rest.map fun v => v.category).sum ≤ 8) (k : J (S', x) (pc + 3) L (v :: rest)) : J (S, x) pc L (x1 :: .ref a :: rest) :=
  r_callV hJ (As := [x1]) w hrc ct hd hdd rfl hst id k
theorem r_S1v (hJ : jR l E own cc nL d n0 cap J) {ix nL' d' : Nat} {y : MethodName} {cc' : ByteArray} {ret : Option FieldType} {S S' : jS} {x : jX} {x1 : Value} {v : Value} (w : wS own ix y cc' nL' ret 1) (ct : Ct l E y cc' nL' ret d' [x1] (S, x) (some v) (S', x)) (hd : decode cc pc = .ok (.invokestatic ix, 3)) (hdd : d' < d ∧ nL' ≤ 13) (hst : (rest.map fun v => v.category).sum ≤ 8) (k : J (S', x) (pc + 3) L (v :: rest)) : J (S, x) pc L (x1 :: rest) :=
  r_callS hJ (As := [x1]) w ct hd hdd rfl hst id k
theorem r_V1u (hJ : jR l E own cc nL d n0 cap J) {ix nL' d' a : Nat} {C : String} {y : MethodName} {cc' : ByteArray} {ret : Option FieldType} {S S' : jS} {x : jX} {x1 : Value} (w : wV own ix C y cc' nL' ret 1) (hrc : rcv E a C) (ct : Ct l E y cc' nL' ret d' [.ref a, x1] (S, x) none (S', x)) (hd : decode cc pc = .ok (.invokevirtual ix, 3)) (hdd : d' < d ∧ nL' ≤ 13) (hst : (rest.map fun v => v.category).sum ≤ 8) (k : J (S', x) (pc + 3) L rest) : J (S, x) pc L (x1 :: .ref a :: rest) :=
  r_callV hJ (As := [x1]) w hrc ct hd hdd rfl hst id k
theorem r_S1u (hJ : jR l E own cc nL d n0 cap J) {ix nL' d' : Nat} {y : MethodName} {cc' : ByteArray} {ret : Option FieldType} {S S' : jS} {x : jX} {x1 : Value} (w : wS own ix y cc' nL' ret 1) (ct : Ct l E y cc' nL' ret d' [x1] (S, x) none (S', x)) (hd : decode cc pc = .ok (.invokestatic ix, 3)) (hdd : d' < d ∧ nL' ≤ 13) (hst : (rest.map fun v => v.category).sum ≤ 8) (k : J (S', x) (pc + 3) L rest) : J (S, x) pc L (x1 :: rest) :=
  r_callS hJ (As := [x1]) w ct hd hdd rfl hst id k
theorem r_V2v (hJ : jR l E own cc nL d n0 cap J) {ix nL' d' a : Nat} {C : String} {y : MethodName} {cc' : ByteArray} {ret : Option FieldType} {S S' : jS} {x : jX} {x1 x2 : Value} {v : Value} (w : wV own ix C y cc' nL' ret 2) (hrc : rcv E a C) (ct : Ct l E y cc' nL' ret d' [.ref a, x1, x2] (S, x) (some v) (S', x)) (hd : decode cc pc = .ok (.invokevirtual ix, 3)) (hdd : d' < d ∧ nL' ≤ 13) (hst : (rest.map fun v => v.category).sum ≤ 8) (k : J (S', x) (pc + 3) L (v :: rest)) : J (S, x) pc L (x2 :: x1 :: .ref a :: rest) :=
  r_callV hJ (As := [x1, x2]) w hrc ct hd hdd rfl hst id k
theorem r_S2v (hJ : jR l E own cc nL d n0 cap J) {ix nL' d' : Nat} {y : MethodName} {cc' : ByteArray} {ret : Option FieldType} {S S' : jS} {x : jX} {x1 x2 : Value} {v : Value} (w : wS own ix y cc' nL' ret 2) (ct : Ct l E y cc' nL' ret d' [x1, x2] (S, x) (some v) (S', x)) (hd : decode cc pc = .ok (.invokestatic ix, 3)) (hdd : d' < d ∧ nL' ≤ 13) (hst : (rest.map fun v => v.category).sum ≤ 8) (k : J (S', x) (pc + 3) L (v :: rest)) : J (S, x) pc L (x2 :: x1 :: rest) :=
  r_callS hJ (As := [x1, x2]) w ct hd hdd rfl hst id k
theorem r_V2u (hJ : jR l E own cc nL d n0 cap J) {ix nL' d' a : Nat} {C : String} {y : MethodName} {cc' : ByteArray} {ret : Option FieldType} {S S' : jS} {x : jX} {x1 x2 : Value} (w : wV own ix C y cc' nL' ret 2) (hrc : rcv E a C) (ct : Ct l E y cc' nL' ret d' [.ref a, x1, x2] (S, x) none (S', x)) (hd : decode cc pc = .ok (.invokevirtual ix, 3)) (hdd : d' < d ∧ nL' ≤ 13) (hst : (rest.map fun v => v.category).sum ≤ 8) (k : J (S', x) (pc + 3) L rest) : J (S, x) pc L (x2 :: x1 :: .ref a :: rest) :=
  r_callV hJ (As := [x1, x2]) w hrc ct hd hdd rfl hst id k
theorem r_S2u (hJ : jR l E own cc nL d n0 cap J) {ix nL' d' : Nat} {y : MethodName} {cc' : ByteArray} {ret : Option FieldType} {S S' : jS} {x : jX} {x1 x2 : Value} (w : wS own ix y cc' nL' ret 2) (ct : Ct l E y cc' nL' ret d' [x1, x2] (S, x) none (S', x)) (hd : decode cc pc = .ok (.invokestatic ix, 3)) (hdd : d' < d ∧ nL' ≤ 13) (hst : (rest.map fun v => v.category).sum ≤ 8) (k : J (S', x) (pc + 3) L rest) : J (S, x) pc L (x2 :: x1 :: rest) :=
  r_callS hJ (As := [x1, x2]) w ct hd hdd rfl hst id k
theorem r_V3v (hJ : jR l E own cc nL d n0 cap J) {ix nL' d' a : Nat} {C : String} {y : MethodName} {cc' : ByteArray} {ret : Option FieldType} {S S' : jS} {x : jX} {x1 x2 x3 : Value} {v : Value} (w : wV own ix C y cc' nL' ret 3) (hrc : rcv E a C) (ct : Ct l E y cc' nL' ret d' [.ref a, x1, x2, x3] (S, x) (some v) (S', x)) (hd : decode cc pc = .ok (.invokevirtual ix, 3)) (hdd : d' < d ∧ nL' ≤ 13) (hst : (rest.map fun v => v.category).sum ≤ 8) (k : J (S', x) (pc + 3) L (v :: rest)) : J (S, x) pc L (x3 :: x2 :: x1 :: .ref a :: rest) :=
  r_callV hJ (As := [x1, x2, x3]) w hrc ct hd hdd rfl hst id k
theorem r_S3v (hJ : jR l E own cc nL d n0 cap J) {ix nL' d' : Nat} {y : MethodName} {cc' : ByteArray} {ret : Option FieldType} {S S' : jS} {x : jX} {x1 x2 x3 : Value} {v : Value} (w : wS own ix y cc' nL' ret 3) (ct : Ct l E y cc' nL' ret d' [x1, x2, x3] (S, x) (some v) (S', x)) (hd : decode cc pc = .ok (.invokestatic ix, 3)) (hdd : d' < d ∧ nL' ≤ 13) (hst : (rest.map fun v => v.category).sum ≤ 8) (k : J (S', x) (pc + 3) L (v :: rest)) : J (S, x) pc L (x3 :: x2 :: x1 :: rest) :=
  r_callS hJ (As := [x1, x2, x3]) w ct hd hdd rfl hst id k
theorem r_V3u (hJ : jR l E own cc nL d n0 cap J) {ix nL' d' a : Nat} {C : String} {y : MethodName} {cc' : ByteArray} {ret : Option FieldType} {S S' : jS} {x : jX} {x1 x2 x3 : Value} (w : wV own ix C y cc' nL' ret 3) (hrc : rcv E a C) (ct : Ct l E y cc' nL' ret d' [.ref a, x1, x2, x3] (S, x) none (S', x)) (hd : decode cc pc = .ok (.invokevirtual ix, 3)) (hdd : d' < d ∧ nL' ≤ 13) (hst : (rest.map fun v => v.category).sum ≤ 8) (k : J (S', x) (pc + 3) L rest) : J (S, x) pc L (x3 :: x2 :: x1 :: .ref a :: rest) :=
  r_callV hJ (As := [x1, x2, x3]) w hrc ct hd hdd rfl hst id k
theorem r_S3u (hJ : jR l E own cc nL d n0 cap J) {ix nL' d' : Nat} {y : MethodName} {cc' : ByteArray} {ret : Option FieldType} {S S' : jS} {x : jX} {x1 x2 x3 : Value} (w : wS own ix y cc' nL' ret 3) (ct : Ct l E y cc' nL' ret d' [x1, x2, x3] (S, x) none (S', x)) (hd : decode cc pc = .ok (.invokestatic ix, 3)) (hdd : d' < d ∧ nL' ≤ 13) (hst : (rest.map fun v => v.category).sum ≤ 8) (k : J (S', x) (pc + 3) L rest) : J (S, x) pc L (x3 :: x2 :: x1 :: rest) :=
  r_callS hJ (As := [x1, x2, x3]) w ct hd hdd rfl hst id k
theorem r_V4v (hJ : jR l E own cc nL d n0 cap J) {ix nL' d' a : Nat} {C : String} {y : MethodName} {cc' : ByteArray} {ret : Option FieldType} {S S' : jS} {x : jX} {x1 x2 x3 x4 : Value} {v : Value} (w : wV own ix C y cc' nL' ret 4) (hrc : rcv E a C) (ct : Ct l E y cc' nL' ret d' [.ref a, x1, x2, x3, x4] (S, x) (some v) (S', x)) (hd : decode cc pc = .ok (.invokevirtual ix, 3)) (hdd : d' < d ∧ nL' ≤ 13) (hst : (rest.map fun v => v.category).sum ≤ 8) (k : J (S', x) (pc + 3) L (v :: rest)) : J (S, x) pc L (x4 :: x3 :: x2 :: x1 :: .ref a :: rest) :=
  r_callV hJ (As := [x1, x2, x3, x4]) w hrc ct hd hdd rfl hst id k
theorem r_S4v (hJ : jR l E own cc nL d n0 cap J) {ix nL' d' : Nat} {y : MethodName} {cc' : ByteArray} {ret : Option FieldType} {S S' : jS} {x : jX} {x1 x2 x3 x4 : Value} {v : Value} (w : wS own ix y cc' nL' ret 4) (ct : Ct l E y cc' nL' ret d' [x1, x2, x3, x4] (S, x) (some v) (S', x)) (hd : decode cc pc = .ok (.invokestatic ix, 3)) (hdd : d' < d ∧ nL' ≤ 13) (hst : (rest.map fun v => v.category).sum ≤ 8) (k : J (S', x) (pc + 3) L (v :: rest)) : J (S, x) pc L (x4 :: x3 :: x2 :: x1 :: rest) :=
  r_callS hJ (As := [x1, x2, x3, x4]) w ct hd hdd rfl hst id k
theorem r_V4u (hJ : jR l E own cc nL d n0 cap J) {ix nL' d' a : Nat} {C : String} {y : MethodName} {cc' : ByteArray} {ret : Option FieldType} {S S' : jS} {x : jX} {x1 x2 x3 x4 : Value} (w : wV own ix C y cc' nL' ret 4) (hrc : rcv E a C) (ct : Ct l E y cc' nL' ret d' [.ref a, x1, x2, x3, x4] (S, x) none (S', x)) (hd : decode cc pc = .ok (.invokevirtual ix, 3)) (hdd : d' < d ∧ nL' ≤ 13) (hst : (rest.map fun v => v.category).sum ≤ 8) (k : J (S', x) (pc + 3) L rest) : J (S, x) pc L (x4 :: x3 :: x2 :: x1 :: .ref a :: rest) :=
  r_callV hJ (As := [x1, x2, x3, x4]) w hrc ct hd hdd rfl hst id k
theorem r_S4u (hJ : jR l E own cc nL d n0 cap J) {ix nL' d' : Nat} {y : MethodName} {cc' : ByteArray} {ret : Option FieldType} {S S' : jS} {x : jX} {x1 x2 x3 x4 : Value} (w : wS own ix y cc' nL' ret 4) (ct : Ct l E y cc' nL' ret d' [x1, x2, x3, x4] (S, x) none (S', x)) (hd : decode cc pc = .ok (.invokestatic ix, 3)) (hdd : d' < d ∧ nL' ≤ 13) (hst : (rest.map fun v => v.category).sum ≤ 8) (k : J (S', x) (pc + 3) L rest) : J (S, x) pc L (x4 :: x3 :: x2 :: x1 :: rest) :=
  r_callS hJ (As := [x1, x2, x3, x4]) w ct hd hdd rfl hst id k
theorem r_V5v (hJ : jR l E own cc nL d n0 cap J) {ix nL' d' a : Nat} {C : String} {y : MethodName} {cc' : ByteArray} {ret : Option FieldType} {S S' : jS} {x : jX} {x1 x2 x3 x4 x5 : Value} {v : Value} (w : wV own ix C y cc' nL' ret 5) (hrc : rcv E a C) (ct : Ct l E y cc' nL' ret d' [.ref a, x1, x2, x3, x4, x5] (S, x) (some v) (S', x)) (hd : decode cc pc = .ok (.invokevirtual ix, 3)) (hdd : d' < d ∧ nL' ≤ 13) (hst : (rest.map fun v => v.category).sum ≤ 8) (k : J (S', x) (pc + 3) L (v :: rest)) : J (S, x) pc L (x5 :: x4 :: x3 :: x2 :: x1 :: .ref a :: rest) :=
  r_callV hJ (As := [x1, x2, x3, x4, x5]) w hrc ct hd hdd rfl hst id k
theorem r_S5v (hJ : jR l E own cc nL d n0 cap J) {ix nL' d' : Nat} {y : MethodName} {cc' : ByteArray} {ret : Option FieldType} {S S' : jS} {x : jX} {x1 x2 x3 x4 x5 : Value} {v : Value} (w : wS own ix y cc' nL' ret 5) (ct : Ct l E y cc' nL' ret d' [x1, x2, x3, x4, x5] (S, x) (some v) (S', x)) (hd : decode cc pc = .ok (.invokestatic ix, 3)) (hdd : d' < d ∧ nL' ≤ 13) (hst : (rest.map fun v => v.category).sum ≤ 8) (k : J (S', x) (pc + 3) L (v :: rest)) : J (S, x) pc L (x5 :: x4 :: x3 :: x2 :: x1 :: rest) :=
  r_callS hJ (As := [x1, x2, x3, x4, x5]) w ct hd hdd rfl hst id k
theorem r_V5u (hJ : jR l E own cc nL d n0 cap J) {ix nL' d' a : Nat} {C : String} {y : MethodName} {cc' : ByteArray} {ret : Option FieldType} {S S' : jS} {x : jX} {x1 x2 x3 x4 x5 : Value} (w : wV own ix C y cc' nL' ret 5) (hrc : rcv E a C) (ct : Ct l E y cc' nL' ret d' [.ref a, x1, x2, x3, x4, x5] (S, x) none (S', x)) (hd : decode cc pc = .ok (.invokevirtual ix, 3)) (hdd : d' < d ∧ nL' ≤ 13) (hst : (rest.map fun v => v.category).sum ≤ 8) (k : J (S', x) (pc + 3) L rest) : J (S, x) pc L (x5 :: x4 :: x3 :: x2 :: x1 :: .ref a :: rest) :=
  r_callV hJ (As := [x1, x2, x3, x4, x5]) w hrc ct hd hdd rfl hst id k
theorem r_S5u (hJ : jR l E own cc nL d n0 cap J) {ix nL' d' : Nat} {y : MethodName} {cc' : ByteArray} {ret : Option FieldType} {S S' : jS} {x : jX} {x1 x2 x3 x4 x5 : Value} (w : wS own ix y cc' nL' ret 5) (ct : Ct l E y cc' nL' ret d' [x1, x2, x3, x4, x5] (S, x) none (S', x)) (hd : decode cc pc = .ok (.invokestatic ix, 3)) (hdd : d' < d ∧ nL' ≤ 13) (hst : (rest.map fun v => v.category).sum ≤ 8) (k : J (S', x) (pc + 3) L rest) : J (S, x) pc L (x5 :: x4 :: x3 :: x2 :: x1 :: rest) :=
  r_callS hJ (As := [x1, x2, x3, x4, x5]) w ct hd hdd rfl hst id k
theorem ret_i {G G' : jG} {r : Option Value} {v : Int32} (hF : jF l E cc nL (some .int) J r G') (hd : decode cc pc = .ok (.ireturn, 1)) (hr : r = some (.int v)) (hG : G' = G) : J G pc L [.int v] := by
  subst hG; exact hF.1 pc L v rfl hr hd
theorem ret_z {G G' : jG} {r : Option Value} {v : Int32} (hF : jF l E cc nL (some .boolean) J r G') (hd : decode cc pc = .ok (.ireturn, 1)) (hz : narrow .boolean (.int v) = .int v) (hr : r = some (.int v)) (hG : G' = G) : J G pc L [.int v] := by
  subst hG; exact hF.2.1 pc L v rfl hz hr hd
theorem ret_l {G G' : jG} {r : Option Value} {v : Int64} (hF : jF l E cc nL (some .long) J r G') (hd : decode cc pc = .ok (.lreturn, 1)) (hr : r = some (.long v)) (hG : G' = G) : J G pc L [.long v] := by
  subst hG; exact hF.2.2.1 pc L v rfl hr hd
theorem ret_d {G G' : jG} {r : Option Value} {v : UInt64} (hF : jF l E cc nL (some .double) J r G') (hd : decode cc pc = .ok (.dreturn, 1)) (hr : r = some (.double v)) (hG : G' = G) : J G pc L [.double v] := by
  subst hG; exact hF.2.2.2.1 pc L v rfl hr hd
theorem ret_v {G G' : jG} {r : Option Value} (hF : jF l E cc nL none J r G') (hd : decode cc pc = .ok (.return_, 1)) (hr : r = none) (hG : G' = G) : J G pc L [] := by
  subst hG; exact hF.2.2.2.2 pc L rfl hr hd
end WRAPS
theorem ii1 (a : Nat) : nI a + Int32.ofInt 1 = nI (a + 1) := (nI_succ a).symm
theorem alP1 {o n : Nat} (ho : o < 8) (h : n < 4) : n < aln o 1 := by simp [aln, ho]; exact h
theorem alP2 {o n : Nat} (ho : o < 8) (h : n < 64) : n < aln o 2 := by simp [aln, ho]; exact h
theorem alP3 {o n : Nat} (ho : o < 8) (h : n < 64) : n < aln o 3 := by simp [aln, ho]; exact h
theorem alP4 {o n : Nat} (ho : o < 8) (h : n < 64) : n < aln o 4 := by simp [aln, ho]; exact h
theorem alP5 {o n : Nat} (ho : o < 8) (h : n < 64) : n < aln o 5 := by simp [aln, ho]; exact h
theorem alP6 {o n : Nat} (ho : o < 8) (h : n < 64) : n < aln o 6 := by simp [aln, ho]; exact h
theorem alP7 {o n : Nat} (ho : o < 8) (h : n < 64) : n < aln o 7 := by simp [aln, ho]; exact h
theorem alP8 {o n : Nat} (ho : o < 8) (h : n < 192) : n < aln o 8 := by simp [aln, ho]; exact h
theorem alP9 {o n : Nat} (ho : o < 8) (h : n < 192) : n < aln o 9 := by simp [aln, ho]; exact h
theorem alP10 {o n : Nat} (ho : o < 8) (h : n < 8) : n < aln o 10 := by simp [aln, ho]; exact h
theorem alP11 {o n : Nat} (ho : o < 8) (h : n < 8) : n < aln o 11 := by simp [aln, ho]; exact h
theorem alP12 {o n : Nat} (ho : o < 8) (h : n < 8) : n < aln o 12 := by simp [aln, ho]; exact h
theorem alO1 {n : Nat} (h : n < 60) : n < aln 8 1 := h
def bI (b : Bool) : Int32 := if b then 1 else 0
theorem bI_nar (b : Bool) : narrow .boolean (.int (bI b)) = .int (bI b) ∧ fits .boolean (.int (bI b)) = true := by cases b <;> exact ⟨rfl, rfl⟩
def oI : Option Nat → Int32
  | none => -1
  | some n => nI n
def cnt (p : Nat → Bool) : Nat → Nat
  | 0 => 0
  | n + 1 => cnt p n + if p n then 1 else 0
/-- the first of k places from n on with p -/
def fnd (p : Nat → Bool) : Nat → Nat → Option Nat
  | 0, _ => none
  | k + 1, n => if p n then some n else fnd p k (n + 1)
/-- how many in a row, of k places from n on, have p -/
def row (p : Nat → Bool) : Nat → Nat → Nat
  | 0, _ => 0
  | k + 1, n => if p n then row p k (n + 1) + 1 else 0
theorem cnt_le (p : Nat → Bool) : ∀ n, cnt p n ≤ n
  | 0 => Nat.le_refl _
  | n + 1 => by
    have := cnt_le p n
    rw [cnt]
    split <;> omega
theorem row_le (p : Nat → Bool) : ∀ k n, row p k n ≤ k
  | 0, _ => Nat.le_refl _
  | k + 1, n => by
    have := row_le p k (n + 1)
    rw [row]
    split <;> omega
