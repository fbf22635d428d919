theorem kL_115 : wV RL 115 RX4 yX4_clearBuffer cX4_clearBuffer 2 (some .int) 0 := ⟨m217, m218, m219, m64, m220, by decide +kernel⟩
theorem kL_119 : wV RL 119 RX4 yX4_firstError cX4_firstError 1 (some .int) 0 := ⟨m221, m222, m223, m64, m224, by decide +kernel⟩
theorem kX4_114 : wV RX4 114 RX1 yX1_readAll cX1_readAll 2 (some .boolean) 0 := ⟨m225, m226, m227, m67, m228, by decide +kernel⟩
theorem kX1_26 : wV RX1 26 RX1 yX1_rewind cX1_rewind 1 none 0 := ⟨m229, m230, m231, m67, m232, by decide +kernel⟩
theorem kX1_29 : wV RX1 29 RX1 yX1_readNext cX1_readNext 1 none 0 := ⟨m233, m234, m235, m67, m236, by decide +kernel⟩
theorem kX1_32 : wV RX1 32 RX1 yX1_readSign cX1_readSign 2 none 1 := ⟨m237, m239, m0, m67, m240, by decide +kernel⟩
theorem kX1_39 : wV RX1 39 RX1 yX1_signAt cX1_signAt 2 (some .int) 1 := ⟨m241, m242, m243, m67, m244, by decide +kernel⟩
theorem kX1_36 : wV RX1 36 RX1 yX1_readOrder cX1_readOrder 1 none 0 := ⟨m245, m247, m1, m67, m248, by decide +kernel⟩
theorem kX1_46 : wV RX1 46 RX1 yX1_readNumber cX1_readNumber 5 (some .int) 2 := ⟨m249, m251, m2, m67, m252, by decide +kernel⟩
theorem kX1_59 : wV RX1 59 RX1 yX1_digitAt cX1_digitAt 3 (some .int) 1 := ⟨m253, m255, m3, m67, m256, by decide +kernel⟩
theorem kX1_62 : wS RX1 62 yX1_begins cX1_begins 4 (some .boolean) 3 := ⟨m257, m258, m67, m259, by decide +kernel⟩
theorem kX1_66 : wS RX1 66 yX1_isWithin cX1_isWithin 3 (some .boolean) 3 := ⟨m260, m261, m67, m262, by decide +kernel⟩
theorem kL_154 : wV RL 154 RX4 yX4_fullness cX4_fullness 1 (some .int) 0 := ⟨m263, m264, m265, m64, m266, by decide +kernel⟩
theorem kX4_160 : wV RX4 160 RX4 yX4_fullnessBits cX4_fullnessBits 2 (some .int) 0 := ⟨m267, m269, m4, m64, m270, by decide +kernel⟩
theorem kX4_236 : wV RX4 236 RX2 yX2_freeNumbers cX2_freeNumbers 1 (some .int) 0 := ⟨m271, m272, m273, m65, m274, by decide +kernel⟩
theorem kX2_134 : wV RX2 134 RX2 yX2_numbersIn cX2_numbersIn 4 (some .int) 1 := ⟨m275, m277, m5, m65, m278, by decide +kernel⟩
theorem kX2_95 : wV RX2 95 RX2 yX2_stateOf cX2_stateOf 2 (some .int) 1 := ⟨m279, m281, m6, m65, m282, by decide +kernel⟩
theorem kL_158 : wV RL 158 RX4 yX4_scatter cX4_scatter 1 (some .int) 0 := ⟨m287, m288, m289, m64, m290, by decide +kernel⟩
theorem kX4_164 : wV RX4 164 RX4 yX4_scatterBits cX4_scatterBits 2 (some .int) 0 := ⟨m291, m293, m7, m64, m294, by decide +kernel⟩
theorem kX4_243 : wV RX4 243 RX2 yX2_longestRow cX2_longestRow 3 (some .int) 0 := ⟨m295, m296, m297, m65, m298, by decide +kernel⟩
theorem kX2_127 : wV RX2 127 RX2 yX2_rowFrom cX2_rowFrom 3 (some .int) 1 := ⟨m299, m301, m8, m65, m302, by decide +kernel⟩
theorem kL_162 : wV RL 162 RX4 yX4_meanHeld cX4_meanHeld 1 (some .double) 0 := ⟨m306, m307, m308, m64, m309, by decide +kernel⟩
theorem kX4_167 : wV RX4 167 RX4 yX4_meanUnits cX4_meanUnits 2 (some .double) 0 := ⟨m310, m312, m9, m64, m313, by decide +kernel⟩
theorem kX4_249 : wS RX4 249 yX4_sum cX4_sum 6 (some .int) 1 := ⟨m314, m315, m64, m316, by decide +kernel⟩
theorem kL_167 : wV RL 167 RX4 yX4_digest cX4_digest 4 (some .long) 0 := ⟨m317, m318, m319, m64, m320, by decide +kernel⟩
theorem kX4_148 : wV RX4 148 RX4 yX4_countOf cX4_countOf 2 (some .int) 1 := ⟨m323, m325, m10, m64, m326, by decide +kernel⟩
theorem kX4_221 : wV RX4 221 RX2 yX2_ofAll cX2_ofAll 2 (some .int) 1 := ⟨m327, m328, m329, m65, m330, by decide +kernel⟩
theorem kX2_130 : wV RX2 130 RX2 yX2_freeNumbers cX2_freeNumbers 1 (some .int) 0 := ⟨m331, m272, m273, m65, m274, by decide +kernel⟩
theorem kX2_141 : wV RX2 141 RX2 yX2_spans cX2_spans 3 (some .int) 0 := ⟨m333, m334, m335, m65, m336, by decide +kernel⟩
theorem kX2_150 : wV RX2 150 RX2 yX2_startsSpan cX2_startsSpan 2 (some .boolean) 1 := ⟨m337, m339, m11, m65, m340, by decide +kernel⟩
theorem kX2_144 : wV RX2 144 RX2 yX2_longestRow cX2_longestRow 3 (some .int) 0 := ⟨m341, m296, m297, m65, m298, by decide +kernel⟩
theorem kX4_175 : wV RX4 175 RX4 yX4_addNumbers cX4_addNumbers 7 (some .long) 1 := ⟨m342, m344, m12, m64, m345, by decide +kernel⟩
theorem kX4_139 : wV RX4 139 RX2 yX2_ofNumber cX2_ofNumber 5 (some .int) 2 := ⟨m346, m347, m348, m65, m349, by decide +kernel⟩
theorem kX4_179 : wV RX4 179 RX4 yX4_addHolders cX4_addHolders 7 (some .long) 1 := ⟨m350, m352, m13, m64, m353, by decide +kernel⟩
theorem kX4_142 : wV RX4 142 RX2 yX2_ofHolder cX2_ofHolder 3 (some .int) 2 := ⟨m354, m355, m356, m65, m357, by decide +kernel⟩
theorem kX2_112 : wV RX2 112 RX2 yX2_numbersOfIn cX2_numbersOfIn 5 (some .int) 2 := ⟨m358, m360, m14, m65, m361, by decide +kernel⟩
theorem kX2_115 : wV RX2 115 RX2 yX2_wishesOf cX2_wishesOf 4 (some .int) 1 := ⟨m362, m364, m15, m65, m365, by decide +kernel⟩
theorem kX2_85 : wV RX2 85 RX2 yX2_placeOfWish cX2_placeOfWish 4 (some .int) 2 := ⟨m366, m367, m368, m65, m369, by decide +kernel⟩
theorem kX2_118 : wV RX2 118 RX2 yX2_leastOf cX2_leastOf 3 (some .int) 1 := ⟨m370, m372, m16, m65, m373, by decide +kernel⟩
theorem kX2_121 : wV RX2 121 RX2 yX2_leastEndOf cX2_leastEndOf 4 (some .int) 1 := ⟨m374, m376, m17, m65, m377, by decide +kernel⟩
theorem kX4_157 : wV RX4 157 RX4 yX4_timeToWished cX4_timeToWished 5 (some .int) 2 := ⟨m378, m380, m18, m64, m381, by decide +kernel⟩
theorem kX4_48 : wV RX4 48 RX2 yX2_mayWish cX2_mayWish 3 (some .boolean) 2 := ⟨m382, m383, m384, m65, m385, by decide +kernel⟩
theorem kX2_77 : wV RX2 77 RX2 yX2_hasRoom cX2_hasRoom 3 (some .boolean) 2 := ⟨m386, m388, m19, m65, m389, by decide +kernel⟩
theorem kX2_88 : wV RX2 88 RX2 yX2_numbersOf cX2_numbersOf 4 (some .int) 1 := ⟨m390, m392, m20, m65, m393, by decide +kernel⟩
theorem kX4_224 : wV RX4 224 RX2 yX2_copyFrom cX2_copyFrom 2 none 1 := ⟨m394, m395, m396, m65, m397, by decide +kernel⟩
theorem kX2_61 : wS RX2 61 yX2_copyRow cX2_copyRow 2 none 2 := ⟨m398, m399, m65, m400, by decide +kernel⟩
theorem kX4_60 : wV RX4 60 RX2 yX2_addWish cX2_addWish 5 (some .int) 3 := ⟨m407, m408, m409, m65, m410, by decide +kernel⟩
theorem kX2_91 : wV RX2 91 RX2 yX2_lease cX2_lease 4 none 3 := ⟨m411, m413, m21, m65, m414, by decide +kernel⟩
theorem kX4_230 : wV RX4 230 RX2 yX2_leap cX2_leap 4 (some .boolean) 1 := ⟨m415, m416, m417, m65, m418, by decide +kernel⟩
theorem kX2_109 : wV RX2 109 RX2 yX2_freeDue cX2_freeDue 2 none 0 := ⟨m419, m421, m22, m65, m422, by decide +kernel⟩
theorem kX2_98 : wV RX2 98 RX2 yX2_free cX2_free 5 none 1 := ⟨m423, m425, m23, m65, m426, by decide +kernel⟩
theorem kX2_102 : wV RX2 102 RX2 yX2_dropWish cX2_dropWish 5 none 2 := ⟨m427, m428, m429, m65, m430, by decide +kernel⟩
theorem kX4_182 : wV RX4 182 RX4 yX4_addSpans cX4_addSpans 7 (some .long) 1 := ⟨m431, m433, m24, m64, m434, by decide +kernel⟩
theorem kX4_256 : wV RX4 256 RX2 yX2_spans cX2_spans 3 (some .int) 0 := ⟨m435, m334, m335, m65, m336, by decide +kernel⟩
theorem kX4_145 : wV RX4 145 RX2 yX2_ofSpan cX2_ofSpan 4 (some .int) 2 := ⟨m436, m437, m438, m65, m439, by decide +kernel⟩
theorem kX2_124 : wV RX2 124 RX2 yX2_startOfSpan cX2_startOfSpan 4 (some .int) 1 := ⟨m440, m442, m25, m65, m443, by decide +kernel⟩
theorem kX4_151 : wV RX4 151 RX4 yX4_holderAfter cX4_holderAfter 6 (some .int) 2 := ⟨m444, m446, m26, m64, m447, by decide +kernel⟩
theorem kX4_154 : wV RX4 154 RX4 yX4_timeToFree cX4_timeToFree 4 (some .int) 1 := ⟨m448, m450, m27, m64, m451, by decide +kernel⟩
theorem kX4_191 : wV RX4 191 RX4 yX4_addBuffer cX4_addBuffer 6 (some .long) 1 := ⟨m458, m460, m28, m64, m461, by decide +kernel⟩
theorem kX4_259 : wV RX4 259 RX1 yX1_signAt cX1_signAt 2 (some .int) 1 := ⟨m462, m242, m243, m67, m244, by decide +kernel⟩
theorem kL_7 : wV RL 7 RX4 yX4_take cX4_take 3 (some .int) 2 := ⟨m469, m470, m471, m64, m472, by decide +kernel⟩
theorem kX4_33 : wV RX4 33 RX4 yX4_leaseLowest cX4_leaseLowest 4 (some .int) 3 := ⟨m473, m475, m29, m64, m476, by decide +kernel⟩
theorem kX4_37 : wS RX4 37 yX4_needHolder cX4_needHolder 1 none 1 := ⟨m477, m478, m64, m479, by decide +kernel⟩
theorem kX4_44 : wS RX4 44 yX4_needRange cX4_needRange 3 none 3 := ⟨m543, m544, m64, m545, by decide +kernel⟩
theorem kX4_203 : wV RX4 203 RX2 yX2_mayLease cX2_mayLease 3 (some .boolean) 2 := ⟨m561, m562, m563, m65, m564, by decide +kernel⟩
theorem kX2_81 : wV RX2 81 RX2 yX2_lowestRow cX2_lowestRow 3 (some .int) 1 := ⟨m565, m567, m31, m65, m568, by decide +kernel⟩
theorem kX4_52 : wS RX4 52 yX4_needState cX4_needState 1 none 1 := ⟨m569, m570, m64, m571, by decide +kernel⟩
theorem kX4_56 : wV RX4 56 RX3 yX3_keep cX3_keep 3 none 1 := ⟨m587, m588, m589, m66, m590, by decide +kernel⟩
theorem kX3_22 : wV RX3 22 RX3 yX3_dropOldest cX3_dropOldest 3 none 0 := ⟨m591, m593, m32, m66, m594, by decide +kernel⟩
theorem kX3_25 : wV RX3 25 RX2 yX2_copyFrom cX2_copyFrom 2 none 1 := ⟨m595, m395, m396, m65, m397, by decide +kernel⟩
theorem kX4_206 : wV RX4 206 RX2 yX2_leaseRow cX2_leaseRow 6 (some .int) 3 := ⟨m596, m597, m598, m65, m599, by decide +kernel⟩
theorem kL_19 : wV RL 19 RX4 yX4_takeSpan cX4_takeSpan 4 (some .int) 3 := ⟨m603, m604, m605, m64, m606, by decide +kernel⟩
theorem kL_23 : wV RL 23 RX4 yX4_wish cX4_wish 4 (some .int) 3 := ⟨m610, m611, m612, m64, m613, by decide +kernel⟩
theorem kX4_41 : wV RX4 41 RX4 yX4_needNumber cX4_needNumber 2 none 1 := ⟨m614, m616, m33, m64, m617, by decide +kernel⟩
theorem kX4_197 : wV RX4 197 RX2 yX2_hasNumber cX2_hasNumber 2 (some .boolean) 1 := ⟨m618, m619, m620, m65, m621, by decide +kernel⟩
theorem kL_26 : wV RL 26 RX4 yX4_unwish cX4_unwish 4 (some .int) 2 := ⟨m625, m626, m627, m64, m628, by decide +kernel⟩
theorem kX4_63 : wV RX4 63 RX2 yX2_placeOfWish cX2_placeOfWish 4 (some .int) 2 := ⟨m629, m367, m368, m65, m369, by decide +kernel⟩
theorem kX4_67 : wV RX4 67 RX2 yX2_dropWish cX2_dropWish 5 none 2 := ⟨m630, m428, m429, m65, m430, by decide +kernel⟩
theorem kL_29 : wV RL 29 RX4 yX4_renew cX4_renew 4 (some .int) 3 := ⟨m634, m635, m636, m64, m637, by decide +kernel⟩
theorem kX4_75 : wV RX4 75 RX2 yX2_mayRenew cX2_mayRenew 3 (some .boolean) 2 := ⟨m638, m639, m640, m65, m641, by decide +kernel⟩
theorem kX4_78 : wV RX4 78 RX2 yX2_prolong cX2_prolong 4 (some .int) 2 := ⟨m642, m643, m644, m65, m645, by decide +kernel⟩
theorem kL_32 : wV RL 32 RX4 yX4_giveBack cX4_giveBack 4 (some .int) 3 := ⟨m649, m650, m651, m64, m652, by decide +kernel⟩
theorem kX4_81 : wV RX4 81 RX2 yX2_freeSpan cX2_freeSpan 6 (some .int) 3 := ⟨m653, m654, m655, m65, m656, by decide +kernel⟩
theorem kL_35 : wV RL 35 RX4 yX4_pass cX4_pass 2 (some .int) 1 := ⟨m660, m661, m662, m64, m663, by decide +kernel⟩
theorem kX4_84 : wV RX4 84 RX2 yX2_hasTimeFor cX2_hasTimeFor 2 (some .boolean) 1 := ⟨m664, m665, m666, m65, m667, by decide +kernel⟩
theorem kX4_88 : wV RX4 88 RX2 yX2_passUnits cX2_passUnits 4 (some .int) 1 := ⟨m668, m669, m670, m65, m671, by decide +kernel⟩
theorem kX2_106 : wV RX2 106 RX2 yX2_countUnits cX2_countUnits 2 none 0 := ⟨m672, m674, m34, m65, m675, by decide +kernel⟩
theorem kL_39 : wV RL 39 RX4 yX4_set cX4_set 4 (some .int) 2 := ⟨m679, m680, m681, m64, m682, by decide +kernel⟩
theorem kX4_92 : wS RX4 92 yX4_needSetting cX4_needSetting 1 none 1 := ⟨m683, m684, m64, m685, by decide +kernel⟩
theorem kX4_101 : wV RX4 101 RX2 yX2_fitsIn cX2_fitsIn 3 (some .boolean) 1 := ⟨m690, m691, m692, m65, m693, by decide +kernel⟩
theorem kL_42 : wV RL 42 RX4 yX4_append cX4_append 2 (some .int) 1 := ⟨m697, m698, m699, m64, m700, by decide +kernel⟩
theorem kX4_111 : wV RX4 111 RX1 yX1_addSign cX1_addSign 2 none 1 := ⟨m701, m702, m703, m67, m704, by decide +kernel⟩
theorem kL_45 : wV RL 45 RX4 yX4_run cX4_run 4 (some .int) 0 := ⟨m708, m709, m710, m64, m711, by decide +kernel⟩
theorem kX4_124 : wV RX4 124 RX1 yX1_rewind cX1_rewind 1 none 0 := ⟨m712, m230, m231, m67, m232, by decide +kernel⟩
theorem kX4_127 : wV RX4 127 RX1 yX1_readNext cX1_readNext 1 none 0 := ⟨m713, m234, m235, m67, m236, by decide +kernel⟩
theorem kX4_130 : wV RX4 130 RX4 yX4_carryOut cX4_carryOut 4 (some .boolean) 0 := ⟨m714, m716, m35, m64, m717, by decide +kernel⟩
theorem kL_49 : wV RL 49 RX4 yX4_undo cX4_undo 1 (some .int) 0 := ⟨m721, m722, m723, m64, m724, by decide +kernel⟩
theorem kX4_136 : wV RX4 136 RX3 yX3_restore cX3_restore 3 none 1 := ⟨m725, m726, m727, m66, m728, by decide +kernel⟩
theorem kL_52 : wV RL 52 RX4 yX4_number cX4_number 3 (some .int) 2 := ⟨m732, m733, m734, m64, m735, by decide +kernel⟩
theorem kL_55 : wV RL 55 RX4 yX4_holder cX4_holder 3 (some .int) 2 := ⟨m739, m740, m741, m64, m742, by decide +kernel⟩
theorem kL_58 : wV RL 58 RX4 yX4_span cX4_span 3 (some .int) 2 := ⟨m746, m747, m748, m64, m749, by decide +kernel⟩
theorem kL_61 : wV RL 61 RX4 yX4_count cX4_count 2 (some .int) 1 := ⟨m753, m754, m755, m64, m756, by decide +kernel⟩
theorem kL_64 : wV RL 64 RX4 yX4_setting cX4_setting 2 (some .int) 1 := ⟨m760, m761, m762, m64, m763, by decide +kernel⟩
theorem kL_67 : wV RL 67 RX4 yX4_whoAfter cX4_whoAfter 3 (some .int) 2 := ⟨m767, m768, m769, m64, m770, by decide +kernel⟩
theorem kL_70 : wV RL 70 RX4 yX4_freeIn cX4_freeIn 2 (some .int) 1 := ⟨m774, m775, m776, m64, m777, by decide +kernel⟩
theorem kL_73 : wV RL 73 RX4 yX4_wishedIn cX4_wishedIn 3 (some .int) 2 := ⟨m781, m782, m783, m64, m784, by decide +kernel⟩
theorem kL_86 : wV RL 86 RX5 yX5_thrown cX5_thrown 1 (some .int) 0 := ⟨m828, m829, m830, m68, m831, by decide +kernel⟩
theorem kL_129 : wV RL 129 RX5 yX5_undo cX5_undo 2 (some .int) 0 := ⟨m832, m833, m834, m68, m835, by decide +kernel⟩
theorem kX5_36 : wV RX5 36 RX5 yX5_fails cX5_fails 2 (some .int) 1 := ⟨m836, m838, m36, m68, m839, by decide +kernel⟩
theorem kL_85 : wV RL 85 RX5 yX5_take cX5_take 3 (some .int) 2 := ⟨m840, m841, m842, m68, m843, by decide +kernel⟩
theorem kX5_73 : wS RX5 73 yX5_isHolder cX5_isHolder 1 (some .boolean) 1 := ⟨m844, m845, m68, m846, by decide +kernel⟩
theorem kX5_29 : wS RX5 29 yX5_in cX5_in 3 (some .boolean) 3 := ⟨m847, m848, m68, m849, by decide +kernel⟩
theorem kX5_77 : wS RX5 77 yX5_isTerm cX5_isTerm 1 (some .boolean) 1 := ⟨m850, m851, m68, m852, by decide +kernel⟩
theorem kX5_80 : wV RX5 80 RX5 yX5_mayTake cX5_mayTake 2 (some .boolean) 1 := ⟨m853, m855, m37, m68, m856, by decide +kernel⟩
theorem kX5_70 : wS RX5 70 yX5_firstFree cX5_firstFree 4 (some .int) 2 := ⟨m857, m858, m68, m859, by decide +kernel⟩
theorem kX5_43 : wS RX5 43 yX5_isFree cX5_isFree 2 (some .boolean) 2 := ⟨m860, m861, m68, m862, by decide +kernel⟩
theorem kX5_40 : wS RX5 40 yX5_row cX5_row 1 (some .int) 1 := ⟨m863, m864, m68, m865, by decide +kernel⟩
theorem kX5_58 : wS RX5 58 yX5_hasRoom cX5_hasRoom 3 (some .boolean) 3 := ⟨m866, m867, m68, m868, by decide +kernel⟩
theorem kX5_47 : wS RX5 47 yX5_has cX5_has 4 (some .int) 2 := ⟨m869, m870, m68, m871, by decide +kernel⟩
theorem kX5_83 : wV RX5 83 RX5 yX5_saves cX5_saves 2 none 0 := ⟨m872, m874, m38, m68, m875, by decide +kernel⟩
theorem kX5_86 : wV RX5 86 RX5 yX5_takes cX5_takes 4 (some .int) 2 := ⟨m876, m878, m39, m68, m879, by decide +kernel⟩
theorem kX5_62 : wS RX5 62 yX5_gives cX5_gives 5 none 4 := ⟨m880, m881, m68, m882, by decide +kernel⟩
theorem kL_92 : wV RL 92 RX5 yX5_takeSpan cX5_takeSpan 6 (some .int) 3 := ⟨m883, m884, m885, m68, m886, by decide +kernel⟩
theorem kL_95 : wV RL 95 RX5 yX5_wish cX5_wish 4 (some .int) 3 := ⟨m887, m888, m889, m68, m890, by decide +kernel⟩
theorem kX5_97 : wV RX5 97 RX5 yX5_isNumber cX5_isNumber 2 (some .boolean) 1 := ⟨m891, m893, m40, m68, m894, by decide +kernel⟩
theorem kX5_100 : wV RX5 100 RX5 yX5_mayWish cX5_mayWish 3 (some .boolean) 2 := ⟨m895, m897, m41, m68, m898, by decide +kernel⟩
theorem kX5_90 : wS RX5 90 yX5_wishOf cX5_wishOf 4 (some .int) 3 := ⟨m899, m900, m68, m901, by decide +kernel⟩
theorem kX5_104 : wV RX5 104 RX5 yX5_wishes cX5_wishes 4 (some .int) 3 := ⟨m902, m904, m42, m68, m905, by decide +kernel⟩
theorem kX5_94 : wS RX5 94 yX5_waits cX5_waits 5 none 4 := ⟨m906, m907, m68, m908, by decide +kernel⟩
theorem kL_98 : wV RL 98 RX5 yX5_unwish cX5_unwish 4 (some .int) 2 := ⟨m909, m910, m911, m68, m912, by decide +kernel⟩
theorem kX5_54 : wS RX5 54 yX5_drops cX5_drops 5 none 3 := ⟨m913, m914, m68, m915, by decide +kernel⟩
theorem kL_101 : wV RL 101 RX5 yX5_renew cX5_renew 6 (some .int) 3 := ⟨m916, m917, m918, m68, m919, by decide +kernel⟩
theorem kX5_51 : wS RX5 51 yX5_stageOf cX5_stageOf 2 (some .int) 2 := ⟨m920, m921, m68, m922, by decide +kernel⟩
theorem kL_104 : wV RL 104 RX5 yX5_giveBack cX5_giveBack 4 (some .int) 3 := ⟨m923, m924, m925, m68, m926, by decide +kernel⟩
theorem kX5_108 : wV RX5 108 RX5 yX5_givesBack cX5_givesBack 6 (some .int) 3 := ⟨m927, m929, m43, m68, m930, by decide +kernel⟩
theorem kX5_66 : wS RX5 66 yX5_frees cX5_frees 5 none 2 := ⟨m931, m932, m68, m933, by decide +kernel⟩
theorem kL_108 : wV RL 108 RX5 yX5_pass cX5_pass 2 (some .int) 1 := ⟨m934, m935, m936, m68, m937, by decide +kernel⟩
theorem kX5_115 : wV RX5 115 RX5 yX5_passesBy cX5_passesBy 4 (some .int) 1 := ⟨m938, m940, m44, m68, m941, by decide +kernel⟩
theorem kX5_111 : wS RX5 111 yX5_passes cX5_passes 3 (some .int) 1 := ⟨m942, m943, m68, m944, by decide +kernel⟩
theorem kL_111 : wV RL 111 RX5 yX5_set cX5_set 4 (some .int) 2 := ⟨m945, m946, m947, m68, m948, by decide +kernel⟩
theorem kX5_118 : wV RX5 118 RX5 yX5_isFor cX5_isFor 3 (some .boolean) 2 := ⟨m949, m951, m45, m68, m952, by decide +kernel⟩
theorem kL_114 : wV RL 114 RX5 yX5_append cX5_append 2 (some .int) 1 := ⟨m953, m954, m955, m68, m956, by decide +kernel⟩
theorem kL_118 : wV RL 118 RX5 yX5_clearBuffer cX5_clearBuffer 2 (some .int) 0 := ⟨m957, m958, m959, m68, m960, by decide +kernel⟩
theorem kL_122 : wV RL 122 RX5 yX5_firstError cX5_firstError 2 (some .int) 0 := ⟨m961, m962, m963, m68, m964, by decide +kernel⟩
theorem kX5_159 : wV RX5 159 RX5 yX5_isText cX5_isText 2 (some .boolean) 0 := ⟨m965, m967, m46, m68, m968, by decide +kernel⟩
theorem kX5_156 : wV RX5 156 RX5 yX5_isOrder cX5_isOrder 2 (some .boolean) 0 := ⟨m969, m971, m47, m68, m972, by decide +kernel⟩
theorem kX5_131 : wV RX5 131 RX5 yX5_isAt cX5_isAt 3 (some .boolean) 2 := ⟨m973, m975, m48, m68, m976, by decide +kernel⟩
theorem kX5_134 : wV RX5 134 RX5 yX5_stops cX5_stops 1 (some .boolean) 0 := ⟨m977, m979, m49, m68, m980, by decide +kernel⟩
theorem kX5_150 : wV RX5 150 RX5 yX5_isTold cX5_isTold 5 (some .boolean) 3 := ⟨m981, m983, m50, m68, m984, by decide +kernel⟩
theorem kX5_144 : wV RX5 144 RX5 yX5_isWhole cX5_isWhole 3 (some .boolean) 2 := ⟨m985, m987, m51, m68, m988, by decide +kernel⟩
theorem kX5_138 : wS RX5 138 yX5_begins cX5_begins 3 (some .boolean) 3 := ⟨m989, m990, m68, m991, by decide +kernel⟩
theorem kX5_153 : wV RX5 153 RX5 yX5_isSign cX5_isSign 2 (some .boolean) 1 := ⟨m992, m994, m52, m68, m995, by decide +kernel⟩
theorem kL_126 : wV RL 126 RX5 yX5_run cX5_run 2 (some .int) 0 := ⟨m996, m997, m998, m68, m999, by decide +kernel⟩
theorem kX5_162 : wV RX5 162 RX5 yX5_isDone cX5_isDone 7 (some .boolean) 1 := ⟨m1000, m1002, m53, m68, m1003, by decide +kernel⟩
theorem kL_132 : wV RL 132 RX5 yX5_number cX5_number 3 (some .int) 2 := ⟨m1004, m1005, m1006, m68, m1007, by decide +kernel⟩
theorem kX5_165 : wV RX5 165 RX5 yX5_ofNumber cX5_ofNumber 4 (some .int) 2 := ⟨m1008, m1010, m54, m68, m1011, by decide +kernel⟩
theorem kL_135 : wV RL 135 RX5 yX5_holder cX5_holder 3 (some .int) 2 := ⟨m1012, m1013, m1014, m68, m1015, by decide +kernel⟩
theorem kX5_168 : wV RX5 168 RX5 yX5_ofHolder cX5_ofHolder 11 (some .int) 2 := ⟨m1016, m1018, m55, m68, m1019, by decide +kernel⟩
theorem kL_138 : wV RL 138 RX5 yX5_span cX5_span 3 (some .int) 2 := ⟨m1020, m1021, m1022, m68, m1023, by decide +kernel⟩
theorem kX5_171 : wV RX5 171 RX5 yX5_spans cX5_spans 8 (some .int) 2 := ⟨m1024, m1026, m56, m68, m1027, by decide +kernel⟩
theorem kL_141 : wV RL 141 RX5 yX5_count cX5_count 2 (some .int) 1 := ⟨m1028, m1029, m1030, m68, m1031, by decide +kernel⟩
theorem kX5_180 : wV RX5 180 RX5 yX5_counted cX5_counted 2 (some .int) 1 := ⟨m1032, m1034, m57, m68, m1035, by decide +kernel⟩
theorem kX5_174 : wS RX5 174 yX5_atStage cX5_atStage 4 (some .int) 2 := ⟨m1036, m1037, m68, m1038, by decide +kernel⟩
theorem kX5_177 : wV RX5 177 RX5 yX5_sumOf cX5_sumOf 6 (some .int) 3 := ⟨m1039, m1041, m58, m68, m1042, by decide +kernel⟩
theorem kL_144 : wV RL 144 RX5 yX5_setting cX5_setting 2 (some .int) 1 := ⟨m1043, m1044, m1045, m68, m1046, by decide +kernel⟩
theorem kL_147 : wV RL 147 RX5 yX5_whoAfter cX5_whoAfter 3 (some .int) 2 := ⟨m1047, m1048, m1049, m68, m1050, by decide +kernel⟩
theorem kX5_186 : wV RX5 186 RX5 yX5_whoThen cX5_whoThen 4 (some .int) 2 := ⟨m1051, m1053, m59, m68, m1054, by decide +kernel⟩
theorem kX5_183 : wV RX5 183 RX5 yX5_tries cX5_tries 2 none 0 := ⟨m1055, m1057, m60, m68, m1058, by decide +kernel⟩
theorem kL_150 : wV RL 150 RX5 yX5_freeIn cX5_freeIn 2 (some .int) 1 := ⟨m1059, m1060, m1061, m68, m1062, by decide +kernel⟩
theorem kX5_189 : wV RX5 189 RX5 yX5_freeThen cX5_freeThen 3 (some .int) 1 := ⟨m1063, m1065, m61, m68, m1066, by decide +kernel⟩
theorem kL_153 : wV RL 153 RX5 yX5_wishedIn cX5_wishedIn 3 (some .int) 2 := ⟨m1067, m1068, m1069, m68, m1070, by decide +kernel⟩
theorem kX5_192 : wV RX5 192 RX5 yX5_wishedThen cX5_wishedThen 4 (some .int) 2 := ⟨m1071, m1073, m62, m68, m1074, by decide +kernel⟩
theorem kL_157 : wV RL 157 RX5 yX5_fullness cX5_fullness 2 (some .int) 0 := ⟨m1075, m1076, m1077, m68, m1078, by decide +kernel⟩
theorem kL_161 : wV RL 161 RX5 yX5_scatter cX5_scatter 2 (some .int) 0 := ⟨m1089, m1090, m1091, m68, m1092, by decide +kernel⟩
theorem kL_166 : wV RL 166 RX5 yX5_meanHeld cX5_meanHeld 2 (some .double) 0 := ⟨m1093, m1094, m1095, m68, m1096, by decide +kernel⟩
theorem kL_171 : wV RL 171 RX5 yX5_digest cX5_digest 5 (some .long) 0 := ⟨m1097, m1098, m1099, m68, m1100, by decide +kernel⟩
theorem kX5_205 : wV RX5 205 RX5 yX5_fullness cX5_fullness 2 (some .int) 0 := ⟨m1103, m1076, m1077, m68, m1078, by decide +kernel⟩
theorem kX5_209 : wV RX5 209 RX5 yX5_scatter cX5_scatter 2 (some .int) 0 := ⟨m1104, m1090, m1091, m68, m1092, by decide +kernel⟩
theorem kX5_212 : wV RX5 212 RX5 yX5_meanHeld cX5_meanHeld 2 (some .double) 0 := ⟨m1105, m1094, m1095, m68, m1096, by decide +kernel⟩
section WRAPS
variable {l : Launch} {E : jE} {own : String} {cc : ByteArray} {nL d n0 cap : Nat} {J : jT} {pc : Nat} {L : List (Option Value)} {rest : List Value}
theorem r_V0v (hJ : jR l E own cc nL d n0 cap J) {ix nL' d' a : Nat} {C : String} {y : MethodName} {cc' : ByteArray} {ret : Option FieldType} {S S' : jS} {x : jX} {v : Value} (w : wV own ix C y cc' nL' ret 0) (hrc : rcv E a C) (ct : Ct l E y cc' nL' ret d' [.ref a] (S, x) (some v) (S', x)) (hd : decode cc pc = .ok (.invokevirtual ix, 3)) (hdd : d' < d ∧ nL' ≤ 13) (hst : (rest.map fun v => v.category).sum ≤ 8) (k : J (S', x) (pc + 3) L (v :: rest)) : J (S, x) pc L (.ref a :: rest) :=
  r_callV hJ (As := []) w hrc ct hd hdd rfl hst id k
theorem r_S0v (hJ : jR l E own cc nL d n0 cap J) {ix nL' d' : Nat} {y : MethodName} {cc' : ByteArray} {ret : Option FieldType} {S S' : jS} {x : jX} {v : Value} (w : wS own ix y cc' nL' ret 0) (ct : Ct l E y cc' nL' ret d' [] (S, x) (some v) (S', x)) (hd : decode cc pc = .ok (.invokestatic ix, 3)) (hdd : d' < d ∧ nL' ≤ 13) (hst : (rest.map fun v => v.category).sum ≤ 8) (k : J (S', x) (pc + 3) L (v :: rest)) : J (S, x) pc L (rest) :=
  r_callS hJ (As := []) w ct hd hdd rfl hst id k
theorem r_V0u (hJ : jR l E own cc nL d n0 cap J) {ix nL' d' a : Nat} {C : String} {y : MethodName} {cc' : ByteArray} {ret : Option FieldType} {S S' : jS} {x : jX} (w : wV own ix C y cc' nL' ret 0) (hrc : rcv E a C) (ct : Ct l E y cc' nL' ret d' [.ref a] (S, x) none (S', x)) (hd : decode cc pc = .ok (.invokevirtual ix, 3)) (hdd : d' < d ∧ nL' ≤ 13) (hst : (rest.map fun v => v.category).sum ≤ 8) (k : J (S', x) (pc + 3) L rest) : J (S, x) pc L (.ref a :: rest) :=
  r_callV hJ (As := []) w hrc ct hd hdd rfl hst id k
theorem r_S0u (hJ : jR l E own cc nL d n0 cap J) {ix nL' d' : Nat} {y : MethodName} {cc' : ByteArray} {ret : Option FieldType} {S S' : jS} {x : jX} (w : wS own ix y cc' nL' ret 0) (ct : Ct l E y cc' nL' ret d' [] (S, x) none (S', x)) (hd : decode cc pc = .ok (.invokestatic ix, 3)) (hdd : d' < d ∧ nL' ≤ 13) (hst : (rest.map fun v => v.category).sum ≤ 8) (k : J (S', x) (pc + 3) L rest) : J (S, x) pc L (rest) :=
  r_callS hJ (As := []) w ct hd hdd rfl hst id k
theorem r_V1v (hJ : jR l E own cc nL d n0 cap J) {ix nL' d' a : Nat} {C : String} {y : MethodName} {cc' : ByteArray} {ret : Option FieldType} {S S' : jS} {x : jX} {x1 : Value} {v : Value} (w : wV own ix C y cc' nL' ret 1) (hrc : rcv E a C) (ct : Ct l E y cc' nL' ret d' [.ref a, x1] (S, x) (some v) (S', x)) (hd : decode cc pc = .ok (.invokevirtual ix, 3)) (hdd : d' < d ∧ nL' ≤ 13) (hst : (rest.map fun v => v.category).sum ≤ 8) (k : J (S', x) (pc + 3) L (v :: rest)) : J (S, x) pc L (x1 :: .ref a :: rest) :=
  r_callV hJ (As := [x1]) w hrc ct hd hdd rfl hst id k
theorem r_S1v (hJ : jR l E own cc nL d n0 cap J) {ix nL' d' : Nat} {y : MethodName} {cc' : ByteArray} {ret : Option FieldType} {S S' : jS} {x : jX} {x1 : Value} {v : Value} (w : wS own ix y cc' nL' ret 1) (ct : Ct l E y cc' nL' ret d' [x1] (S, x) (some v) (S', x)) (hd : decode cc pc = .ok (.invokestatic ix, 3)) (hdd : d' < d ∧ nL' ≤ 13) (hst : (rest.map fun v => v.category).sum ≤ 8) (k : J (S', x) (pc + 3) L (v :: rest)) : J (S, x) pc L (x1 :: rest) :=
  r_callS hJ (As := [x1]) w ct hd hdd rfl hst id k
theorem r_V1u (hJ : jR l E own cc nL d n0 cap J) {ix nL' d' a : Nat} {C : String} {y : MethodName} {cc' : ByteArray} {ret : Option FieldType} {S S' : jS} {x : jX} {x1 : Value} (w : wV own ix C y cc' nL' ret 1) (hrc : rcv E a C) (ct : Ct l E y cc' nL' ret d' [.ref a, x1] (S, x) none (S', x)) (hd : decode cc pc = .ok (.invokevirtual ix, 3)) (hdd : d' < d ∧ nL' ≤ 13) (hst : (rest.map fun v => v.category).sum ≤ 8) (k : J (S', x) (pc + 3) L rest) : J (S, x) pc L (x1 :: .ref a :: rest) :=
  r_callV hJ (As := [x1]) w hrc ct hd hdd rfl hst id k
theorem r_S1u (hJ : jR l E own cc nL d n0 cap J) {ix nL' d' : Nat} {y : MethodName} {cc' : ByteArray} {ret : Option FieldType} {S S' : jS} {x : jX} {x1 : Value} (w : wS own ix y cc' nL' ret 1) (ct : Ct l E y cc' nL' ret d' [x1] (S, x) none (S', x)) (hd : decode cc pc = .ok (.invokestatic ix, 3)) (hdd : d' < d ∧ nL' ≤ 13) (hst : (rest.map fun v => v.category).sum ≤ 8) (k : J (S', x) (pc + 3) L rest) : J (S, x) pc L (x1 :: rest) :=
  r_callS hJ (As := [x1]) w ct hd hdd rfl hst id k
theorem r_V2v (hJ : jR l E own cc nL d n0 cap J) {ix nL' d' a : Nat} {C : String} {y : MethodName} {cc' : ByteArray} {ret : Option FieldType} {S S' : jS} {x : jX} {x1 x2 : Value} {v : Value} (w : wV own ix C y cc' nL' ret 2) (hrc : rcv E a C) (ct : Ct l E y cc' nL' ret d' [.ref a, x1, x2] (S, x) (some v) (S', x)) (hd : decode cc pc = .ok (.invokevirtual ix, 3)) (hdd : d' < d ∧ nL' ≤ 13) (hst : (rest.map fun v => v.category).sum ≤ 8) (k : J (S', x) (pc + 3) L (v :: rest)) : J (S, x) pc L (x2 :: x1 :: .ref a :: rest) :=
  r_callV hJ (As := [x1, x2]) w hrc ct hd hdd rfl hst id k
theorem r_S2v (hJ : jR l E own cc nL d n0 cap J) {ix nL' d' : Nat} {y : MethodName} {cc' : ByteArray} {ret : Option FieldType} {S S' : jS} {x : jX} {x1 x2 : Value} {v : Value} (w : wS own ix y cc' nL' ret 2) (ct : Ct l E y cc' nL' ret d' [x1, x2] (S, x) (some v) (S', x)) (hd : decode cc pc = .ok (.invokestatic ix, 3)) (hdd : d' < d ∧ nL' ≤ 13) (hst : (rest.map fun v => v.category).sum ≤ 8) (k : J (S', x) (pc + 3) L (v :: rest)) : J (S, x) pc L (x2 :: x1 :: rest) :=
  r_callS hJ (As := [x1, x2]) w ct hd hdd rfl hst id k
theorem r_V2u (hJ : jR l E own cc nL d n0 cap J) {ix nL' d' a : Nat} {C : String} {y : MethodName} {cc' : ByteArray} {ret : Option FieldType} {S S' : jS} {x : jX} {x1 x2 : Value} (w : wV own ix C y cc' nL' ret 2) (hrc : rcv E a C) (ct : Ct l E y cc' nL' ret d' [.ref a, x1, x2] (S, x) none (S', x)) (hd : decode cc pc = .ok (.invokevirtual ix, 3)) (hdd : d' < d ∧ nL' ≤ 13) (hst : (rest.map fun v => v.category).sum ≤ 8) (k : J (S', x) (pc + 3) L rest) : J (S, x) pc L (x2 :: x1 :: .ref a :: rest) :=
  r_callV hJ (As := [x1, x2]) w hrc ct hd hdd rfl hst id k
theorem r_S2u (hJ : jR l E own cc nL d n0 cap J) {ix nL' d' : Nat} {y : MethodName} {cc' : ByteArray} {ret : Option FieldType} {S S' : jS} {x : jX} {x1 x2 : Value} (w : wS own ix y cc' nL' ret 2) (ct : Ct l E y cc' nL' ret d' [x1, x2] (S, x) none (S', x)) (hd : decode cc pc = .ok (.invokestatic ix, 3)) (hdd : d' < d ∧ nL' ≤ 13) (hst : (rest.map fun v => v.category).sum ≤ 8) (k : J (S', x) (pc + 3) L rest) : J (S, x) pc L (x2 :: x1 :: rest) :=
  r_callS hJ (As := [x1, x2]) w ct hd hdd rfl hst id k
theorem r_V3v (hJ : jR l E own cc nL d n0 cap J) {ix nL' d' a : Nat} {C : String} {y : MethodName} {cc' : ByteArray} {ret : Option FieldType} {S S' : jS} {x : jX} {x1 x2 x3 : Value} {v : Value} (w : wV own ix C y cc' nL' ret 3) (hrc : rcv E a C) (ct : Ct l E y cc' nL' ret d' [.ref a, x1, x2, x3] (S, x) (some v) (S', x)) (hd : decode cc pc = .ok (.invokevirtual ix, 3)) (hdd : d' < d ∧ nL' ≤ 13) (hst : (rest.map fun v => v.category).sum ≤ 8) (k : J (S', x) (pc + 3) L (v :: rest)) : J (S, x) pc L (x3 :: x2 :: x1 :: .ref a :: rest) :=
  r_callV hJ (As := [x1, x2, x3]) w hrc ct hd hdd rfl hst id k
theorem r_S3v (hJ : jR l E own cc nL d n0 cap J) {ix nL' d' : Nat} {y : MethodName} {cc' : ByteArray} {ret : Option FieldType} {S S' : jS} {x : jX} {x1 x2 x3 : Value} {v : Value} (w : wS own ix y cc' nL' ret 3) (ct : Ct l E y cc' nL' ret d' [x1, x2, x3] (S, x) (some v) (S', x)) (hd : decode cc pc = .ok (.invokestatic ix, 3)) (hdd : d' < d ∧ nL' ≤ 13) (hst : (rest.map fun v => v.category).sum ≤ 8) (k : J (S', x) (pc + 3) L (v :: rest)) : J (S, x) pc L (x3 :: x2 :: x1 :: rest) :=
  r_callS hJ (As := [x1, x2, x3]) w ct hd hdd rfl hst id k
theorem r_V3u (hJ : jR l E own cc nL d n0 cap J) {ix nL' d' a : Nat} {C : String} {y : MethodName} {cc' : ByteArray} {ret : Option FieldType} {S S' : jS} {x : jX} {x1 x2 x3 : Value} (w : wV own ix C y cc' nL' ret 3) (hrc : rcv E a C) (ct : Ct l E y cc' nL' ret d' [.ref a, x1, x2, x3] (S, x) none (S', x)) (hd : decode cc pc = .ok (.invokevirtual ix, 3)) (hdd : d' < d ∧ nL' ≤ 13) (hst : (rest.map fun v => v.category).sum ≤ 8) (k : J (S', x) (pc + 3) L rest) : J (S, x) pc L (x3 :: x2 :: x1 :: .ref a :: rest) :=
  r_callV hJ (As := [x1, x2, x3]) w hrc ct hd hdd rfl hst id k
theorem r_S3u (hJ : jR l E own cc nL d n0 cap J) {ix nL' d' : Nat} {y : MethodName} {cc' : ByteArray} {ret : Option FieldType} {S S' : jS} {x : jX} {x1 x2 x3 : Value} (w : wS own ix y cc' nL' ret 3) (ct : Ct l E y cc' nL' ret d' [x1, x2, x3] (S, x) none (S', x)) (hd : decode cc pc = .ok (.invokestatic ix, 3)) (hdd : d' < d ∧ nL' ≤ 13) (hst : (rest.map fun v => v.category).sum ≤ 8) (k : J (S', x) (pc + 3) L rest) : J (S, x) pc L (x3 :: x2 :: x1 :: rest) :=
  r_callS hJ (As := [x1, x2, x3]) w ct hd hdd rfl hst id k
theorem r_V4v (hJ : jR l E own cc nL d n0 cap J) {ix nL' d' a : Nat} {C : String} {y : MethodName} {cc' : ByteArray} {ret : Option FieldType} {S S' : jS} {x : jX} {x1 x2 x3 x4 : Value} {v : Value} (w : wV own ix C y cc' nL' ret 4) (hrc : rcv E a C) (ct : Ct l E y cc' nL' ret d' [.ref a, x1, x2, x3, x4] (S, x) (some v) (S', x)) (hd : decode cc pc = .ok (.invokevirtual ix, 3)) (hdd : d' < d ∧ nL' ≤ 13) (hst : (rest.map fun v => v.category).sum ≤ 8) (k : J (S', x) (pc + 3) L (v :: rest)) : J (S, x) pc L (x4 :: x3 :: x2 :: x1 :: .ref a :: rest) :=
  r_callV hJ (As := [x1, x2, x3, x4]) w hrc ct hd hdd rfl hst id k
theorem r_S4v (hJ : jR l E own cc nL d n0 cap J) {ix nL' d' : Nat} {y : MethodName} {cc' : ByteArray} {ret : Option FieldType} {S S' : jS} {x : jX} {x1 x2 x3 x4 : Value} {v : Value} (w : wS own ix y cc' nL' ret 4) (ct : Ct l E y cc' nL' ret d' [x1, x2, x3, x4] (S, x) (some v) (S', x)) (hd : decode cc pc = .ok (.invokestatic ix, 3)) (hdd : d' < d ∧ nL' ≤ 13) (hst : (rest.map fun v => v.category).sum ≤ 8) (k : J (S', x) (pc + 3) L (v :: rest)) : J (S, x) pc L (x4 :: x3 :: x2 :: x1 :: rest) :=
  r_callS hJ (As := [x1, x2, x3, x4]) w ct hd hdd rfl hst id k
theorem r_V4u (hJ : jR l E own cc nL d n0 cap J) {ix nL' d' a : Nat} {C : String} {y : MethodName} {cc' : ByteArray} {ret : Option FieldType} {S S' : jS} {x : jX} {x1 x2 x3 x4 : Value} (w : wV own ix C y cc' nL' ret 4) (hrc : rcv E a C) (ct : Ct l E y cc' nL' ret d' [.ref a, x1, x2, x3, x4] (S, x) none (S', x)) (hd : decode cc pc = .ok (.invokevirtual ix, 3)) (hdd : d' < d ∧ nL' ≤ 13) (hst : (rest.map fun v => v.category).sum ≤ 8) (k : J (S', x) (pc + 3) L rest) : J (S, x) pc L (x4 :: x3 :: x2 :: x1 :: .ref a :: rest) :=
  r_callV hJ (As := [x1, x2, x3, x4]) w hrc ct hd hdd rfl hst id k
theorem r_S4u (hJ : jR l E own cc nL d n0 cap J) {ix nL' d' : Nat} {y : MethodName} {cc' : ByteArray} {ret : Option FieldType} {S S' : jS} {x : jX} {x1 x2 x3 x4 : Value} (w : wS own ix y cc' nL' ret 4) (ct : Ct l E y cc' nL' ret d' [x1, x2, x3, x4] (S, x) none (S', x)) (hd : decode cc pc = .ok (.invokestatic ix, 3)) (hdd : d' < d ∧ nL' ≤ 13) (hst : (rest.map fun v => v.category).sum ≤ 8) (k : J (S', x) (pc + 3) L rest) : J (S, x) pc L (x4 :: x3 :: x2 :: x1 :: rest) :=
  r_callS hJ (As := [x1, x2, x3, x4]) w ct hd hdd rfl hst id k
theorem r_V5v (hJ : jR l E own cc nL d n0 cap J) {ix nL' d' a : Nat} {C : String} {y : MethodName} {cc' : ByteArray} {ret : Option FieldType} {S S' : jS} {x : jX} {x1 x2 x3 x4 x5 : Value} {v : Value} (w : wV own ix C y cc' nL' ret 5) (hrc : rcv E a C) (ct : Ct l E y cc' nL' ret d' [.ref a, x1, x2, x3, x4, x5] (S, x) (some v) (S', x)) (hd : decode cc pc = .ok (.invokevirtual ix, 3)) (hdd : d' < d ∧ nL' ≤ 13) (hst : (rest.map fun v => v.category).sum ≤ 8) (k : J (S', x) (pc + 3) L (v :: rest)) : J (S, x) pc L (x5 :: x4 :: x3 :: x2 :: x1 :: .ref a :: rest) :=
  r_callV hJ (As := [x1, x2, x3, x4, x5]) w hrc ct hd hdd rfl hst id k
theorem r_S5v (hJ : jR l E own cc nL d n0 cap J) {ix nL' d' : Nat} {y : MethodName} {cc' : ByteArray} {ret : Option FieldType} {S S' : jS} {x : jX} {x1 x2 x3 x4 x5 : Value} {v : Value} (w : wS own ix y cc' nL' ret 5) (ct : Ct l E y cc' nL' ret d' [x1, x2, x3, x4, x5] (S, x) (some v) (S', x)) (hd : decode cc pc = .ok (.invokestatic ix, 3)) (hdd : d' < d ∧ nL' ≤ 13) (hst : (rest.map fun v => v.category).sum ≤ 8) (k : J (S', x) (pc + 3) L (v :: rest)) : J (S, x) pc L (x5 :: x4 :: x3 :: x2 :: x1 :: rest) :=
  r_callS hJ (As := [x1, x2, x3, x4, x5]) w ct hd hdd rfl hst id k
theorem r_V5u (hJ : jR l E own cc nL d n0 cap J) {ix nL' d' a : Nat} {C : String} {y : MethodName} {cc' : ByteArray} {ret : Option FieldType} {S S' : jS} {x : jX} {x1 x2 x3 x4 x5 : Value} (w : wV own ix C y cc' nL' ret 5) (hrc : rcv E a C) (ct : Ct l E y cc' nL' ret d' [.ref a, x1, x2, x3, x4, x5] (S, x) none (S', x)) (hd : decode cc pc = .ok (.invokevirtual ix, 3)) (hdd : d' < d ∧ nL' ≤ 13) (hst : (rest.map fun v => v.category).sum ≤ 8) (k : J (S', x) (pc + 3) L rest) : J (S, x) pc L (x5 :: x4 :: x3 :: x2 :: x1 :: .ref a :: rest) :=
  r_callV hJ (As := [x1, x2, x3, x4, x5]) w hrc ct hd hdd rfl hst id k
theorem r_S5u (hJ : jR l E own cc nL d n0 cap J) {ix nL' d' : Nat} {y : MethodName} {cc' : ByteArray} {ret : Option FieldType} {S S' : jS} {x : jX} {x1 x2 x3 x4 x5 : Value} (w : wS own ix y cc' nL' ret 5) (ct : Ct l E y cc' nL' ret d' [x1, x2, x3, x4, x5] (S, x) none (S', x)) (hd : decode cc pc = .ok (.invokestatic ix, 3)) (hdd : d' < d ∧ nL' ≤ 13) (hst : (rest.map fun v => v.category).sum ≤ 8) (k : J (S', x) (pc + 3) L rest) : J (S, x) pc L (x5 :: x4 :: x3 :: x2 :: x1 :: rest) :=
  r_callS hJ (As := [x1, x2, x3, x4, x5]) w ct hd hdd rfl hst id k
theorem ret_i {G G' : jG} {r : Option Value} {v : Int32} (hF : jF l E cc nL (some .int) J r G') (hd : decode cc pc = .ok (.ireturn, 1)) (hr : r = some (.int v)) (hG : G' = G) : J G pc L [.int v] := by
  subst hG; exact hF.1 pc L v rfl hr hd
theorem ret_z {G G' : jG} {r : Option Value} {v : Int32} (hF : jF l E cc nL (some .boolean) J r G') (hd : decode cc pc = .ok (.ireturn, 1)) (hz : narrow .boolean (.int v) = .int v) (hr : r = some (.int v)) (hG : G' = G) : J G pc L [.int v] := by
  subst hG; exact hF.2.1 pc L v rfl hz hr hd
theorem ret_l {G G' : jG} {r : Option Value} {v : Int64} (hF : jF l E cc nL (some .long) J r G') (hd : decode cc pc = .ok (.lreturn, 1)) (hr : r = some (.long v)) (hG : G' = G) : J G pc L [.long v] := by
  subst hG; exact hF.2.2.1 pc L v rfl hr hd
theorem ret_d {G G' : jG} {r : Option Value} {v : UInt64} (hF : jF l E cc nL (some .double) J r G') (hd : decode cc pc = .ok (.dreturn, 1)) (hr : r = some (.double v)) (hG : G' = G) : J G pc L [.double v] := by
  subst hG; exact hF.2.2.2.1 pc L v rfl hr hd
theorem ret_v {G G' : jG} {r : Option Value} (hF : jF l E cc nL none J r G') (hd : decode cc pc = .ok (.return_, 1)) (hr : r = none) (hG : G' = G) : J G pc L [] := by
  subst hG; exact hF.2.2.2.2 pc L rfl hr hd
end WRAPS
theorem ii1 (a : Nat) : nI a + Int32.ofInt 1 = nI (a + 1) := (nI_succ a).symm
theorem alP1 {o n : Nat} (ho : o < 8) (h : n < 4) : n < aln o 1 := by simp [aln, ho]; exact h
theorem alP2 {o n : Nat} (ho : o < 8) (h : n < 64) : n < aln o 2 := by simp [aln, ho]; exact h
theorem alP3 {o n : Nat} (ho : o < 8) (h : n < 64) : n < aln o 3 := by simp [aln, ho]; exact h
theorem alP4 {o n : Nat} (ho : o < 8) (h : n < 64) : n < aln o 4 := by simp [aln, ho]; exact h
theorem alP5 {o n : Nat} (ho : o < 8) (h : n < 64) : n < aln o 5 := by simp [aln, ho]; exact h
theorem alP6 {o n : Nat} (ho : o < 8) (h : n < 64) : n < aln o 6 := by simp [aln, ho]; exact h
theorem alP7 {o n : Nat} (ho : o < 8) (h : n < 64) : n < aln o 7 := by simp [aln, ho]; exact h
theorem alP8 {o n : Nat} (ho : o < 8) (h : n < 192) : n < aln o 8 := by simp [aln, ho]; exact h
theorem alP9 {o n : Nat} (ho : o < 8) (h : n < 192) : n < aln o 9 := by simp [aln, ho]; exact h
theorem alP10 {o n : Nat} (ho : o < 8) (h : n < 8) : n < aln o 10 := by simp [aln, ho]; exact h
theorem alP11 {o n : Nat} (ho : o < 8) (h : n < 8) : n < aln o 11 := by simp [aln, ho]; exact h
theorem alP12 {o n : Nat} (ho : o < 8) (h : n < 8) : n < aln o 12 := by simp [aln, ho]; exact h
theorem alO1 {n : Nat} (h : n < 60) : n < aln 8 1 := h
theorem alM1 {n : Nat} (h : n < 800) : n < aln 10 1 := h
theorem alM2 {n : Nat} (h : n < 800) : n < aln 10 2 := h
theorem alM3 {n : Nat} (h : n < 4800) : n < aln 10 3 := h
theorem alM4 {n : Nat} (h : n < 60) : n < aln 10 4 := h
theorem alM5 {n : Nat} (h : n < 124) : n < aln 10 5 := h
def bI (b : Bool) : Int32 := if b then 1 else 0
theorem bI_nar (b : Bool) : narrow .boolean (.int (bI b)) = .int (bI b) ∧ fits .boolean (.int (bI b)) = true := by cases b <;> exact ⟨rfl, rfl⟩
def oI : Option Nat → Int32
  | none => -1
  | some n => nI n
def cnt (p : Nat → Bool) : Nat → Nat
  | 0 => 0
  | n + 1 => cnt p n + if p n then 1 else 0
/-- the first of k places from n on with p -/
def fnd (p : Nat → Bool) : Nat → Nat → Option Nat
  | 0, _ => none
  | k + 1, n => if p n then some n else fnd p k (n + 1)
/-- how many in a row, of k places from n on, have p -/
def row (p : Nat → Bool) : Nat → Nat → Nat
  | 0, _ => 0
  | k + 1, n => if p n then row p k (n + 1) + 1 else 0
theorem cnt_le (p : Nat → Bool) : ∀ n, cnt p n ≤ n
  | 0 => Nat.le_refl _
  | n + 1 => by
    have := cnt_le p n
    rw [cnt]
    split <;> omega
theorem row_le (p : Nat → Bool) : ∀ k n, row p k n ≤ k
  | 0, _ => Nat.le_refl _
  | k + 1, n => by
    have := row_le p k (n + 1)
    rw [row]
    split <;> omega
