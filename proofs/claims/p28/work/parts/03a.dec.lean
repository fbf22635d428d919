theorem dX1_init_0 : decode cX1_init 0 = .ok (.aload_n 0, 1) := by decide +kernel
theorem dX1_init_1 : decode cX1_init 1 = .ok (.invokespecial 3, 3) := by decide +kernel
theorem dX1_init_4 : decode cX1_init 4 = .ok (.aload_n 0, 1) := by decide +kernel
theorem dX1_init_5 : decode cX1_init 5 = .ok (.bipush 60, 2) := by decide +kernel
theorem dX1_init_7 : decode cX1_init 7 = .ok (.newarray .int, 2) := by decide +kernel
theorem dX1_init_9 : decode cX1_init 9 = .ok (.putfield 9, 3) := by decide +kernel
theorem dX1_init_12 : decode cX1_init 12 = .ok (.return_, 1) := by decide +kernel
theorem dX2_init_0 : decode cX2_init 0 = .ok (.aload_n 0, 1) := by decide +kernel
theorem dX2_init_1 : decode cX2_init 1 = .ok (.invokespecial 3, 3) := by decide +kernel
theorem dX2_init_4 : decode cX2_init 4 = .ok (.aload_n 0, 1) := by decide +kernel
theorem dX2_init_5 : decode cX2_init 5 = .ok (.iconst 4, 1) := by decide +kernel
theorem dX2_init_6 : decode cX2_init 6 = .ok (.newarray .int, 2) := by decide +kernel
theorem dX2_init_8 : decode cX2_init 8 = .ok (.dup, 1) := by decide +kernel
theorem dX2_init_9 : decode cX2_init 9 = .ok (.iconst 0, 1) := by decide +kernel
theorem dX2_init_10 : decode cX2_init 10 = .ok (.iconst 5, 1) := by decide +kernel
theorem dX2_init_11 : decode cX2_init 11 = .ok (.iastore, 1) := by decide +kernel
theorem dX2_init_12 : decode cX2_init 12 = .ok (.dup, 1) := by decide +kernel
theorem dX2_init_13 : decode cX2_init 13 = .ok (.iconst 1, 1) := by decide +kernel
theorem dX2_init_14 : decode cX2_init 14 = .ok (.bipush 16, 2) := by decide +kernel
theorem dX2_init_16 : decode cX2_init 16 = .ok (.iastore, 1) := by decide +kernel
theorem dX2_init_17 : decode cX2_init 17 = .ok (.dup, 1) := by decide +kernel
theorem dX2_init_18 : decode cX2_init 18 = .ok (.iconst 2, 1) := by decide +kernel
theorem dX2_init_19 : decode cX2_init 19 = .ok (.iconst 0, 1) := by decide +kernel
theorem dX2_init_20 : decode cX2_init 20 = .ok (.iastore, 1) := by decide +kernel
theorem dX2_init_21 : decode cX2_init 21 = .ok (.dup, 1) := by decide +kernel
theorem dX2_init_22 : decode cX2_init 22 = .ok (.iconst 3, 1) := by decide +kernel
theorem dX2_init_23 : decode cX2_init 23 = .ok (.bipush 32, 2) := by decide +kernel
theorem dX2_init_25 : decode cX2_init 25 = .ok (.iastore, 1) := by decide +kernel
theorem dX2_init_26 : decode cX2_init 26 = .ok (.putfield 9, 3) := by decide +kernel
theorem dX2_init_29 : decode cX2_init 29 = .ok (.aload_n 0, 1) := by decide +kernel
theorem dX2_init_30 : decode cX2_init 30 = .ok (.bipush 64, 2) := by decide +kernel
theorem dX2_init_32 : decode cX2_init 32 = .ok (.newarray .int, 2) := by decide +kernel
theorem dX2_init_34 : decode cX2_init 34 = .ok (.putfield 15, 3) := by decide +kernel
theorem dX2_init_37 : decode cX2_init 37 = .ok (.aload_n 0, 1) := by decide +kernel
theorem dX2_init_38 : decode cX2_init 38 = .ok (.bipush 64, 2) := by decide +kernel
theorem dX2_init_40 : decode cX2_init 40 = .ok (.newarray .int, 2) := by decide +kernel
theorem dX2_init_42 : decode cX2_init 42 = .ok (.putfield 18, 3) := by decide +kernel
theorem dX2_init_45 : decode cX2_init 45 = .ok (.aload_n 0, 1) := by decide +kernel
theorem dX2_init_46 : decode cX2_init 46 = .ok (.bipush 64, 2) := by decide +kernel
theorem dX2_init_48 : decode cX2_init 48 = .ok (.newarray .int, 2) := by decide +kernel
theorem dX2_init_50 : decode cX2_init 50 = .ok (.putfield 21, 3) := by decide +kernel
theorem dX2_init_53 : decode cX2_init 53 = .ok (.aload_n 0, 1) := by decide +kernel
theorem dX2_init_54 : decode cX2_init 54 = .ok (.bipush 64, 2) := by decide +kernel
theorem dX2_init_56 : decode cX2_init 56 = .ok (.newarray .int, 2) := by decide +kernel
theorem dX2_init_58 : decode cX2_init 58 = .ok (.putfield 24, 3) := by decide +kernel
theorem dX2_init_61 : decode cX2_init 61 = .ok (.aload_n 0, 1) := by decide +kernel
theorem dX2_init_62 : decode cX2_init 62 = .ok (.bipush 64, 2) := by decide +kernel
theorem dX2_init_64 : decode cX2_init 64 = .ok (.newarray .int, 2) := by decide +kernel
theorem dX2_init_66 : decode cX2_init 66 = .ok (.putfield 27, 3) := by decide +kernel
theorem dX2_init_69 : decode cX2_init 69 = .ok (.aload_n 0, 1) := by decide +kernel
theorem dX2_init_70 : decode cX2_init 70 = .ok (.bipush 64, 2) := by decide +kernel
theorem dX2_init_72 : decode cX2_init 72 = .ok (.newarray .int, 2) := by decide +kernel
theorem dX2_init_74 : decode cX2_init 74 = .ok (.putfield 30, 3) := by decide +kernel
theorem dX2_init_77 : decode cX2_init 77 = .ok (.aload_n 0, 1) := by decide +kernel
theorem dX2_init_78 : decode cX2_init 78 = .ok (.sipush 192, 3) := by decide +kernel
theorem dX2_init_81 : decode cX2_init 81 = .ok (.newarray .int, 2) := by decide +kernel
theorem dX2_init_83 : decode cX2_init 83 = .ok (.putfield 33, 3) := by decide +kernel
theorem dX2_init_86 : decode cX2_init 86 = .ok (.aload_n 0, 1) := by decide +kernel
theorem dX2_init_87 : decode cX2_init 87 = .ok (.sipush 192, 3) := by decide +kernel
theorem dX2_init_90 : decode cX2_init 90 = .ok (.newarray .int, 2) := by decide +kernel
theorem dX2_init_92 : decode cX2_init 92 = .ok (.putfield 36, 3) := by decide +kernel
theorem dX2_init_95 : decode cX2_init 95 = .ok (.aload_n 0, 1) := by decide +kernel
theorem dX2_init_96 : decode cX2_init 96 = .ok (.bipush 8, 2) := by decide +kernel
theorem dX2_init_98 : decode cX2_init 98 = .ok (.newarray .int, 2) := by decide +kernel
theorem dX2_init_100 : decode cX2_init 100 = .ok (.putfield 39, 3) := by decide +kernel
theorem dX2_init_103 : decode cX2_init 103 = .ok (.aload_n 0, 1) := by decide +kernel
theorem dX2_init_104 : decode cX2_init 104 = .ok (.bipush 8, 2) := by decide +kernel
theorem dX2_init_106 : decode cX2_init 106 = .ok (.newarray .int, 2) := by decide +kernel
theorem dX2_init_108 : decode cX2_init 108 = .ok (.putfield 42, 3) := by decide +kernel
theorem dX2_init_111 : decode cX2_init 111 = .ok (.aload_n 0, 1) := by decide +kernel
theorem dX2_init_112 : decode cX2_init 112 = .ok (.bipush 8, 2) := by decide +kernel
theorem dX2_init_114 : decode cX2_init 114 = .ok (.newarray .int, 2) := by decide +kernel
theorem dX2_init_116 : decode cX2_init 116 = .ok (.putfield 45, 3) := by decide +kernel
theorem dX2_init_119 : decode cX2_init 119 = .ok (.iconst 0, 1) := by decide +kernel
theorem dX2_init_120 : decode cX2_init 120 = .ok (.istore_n 1, 1) := by decide +kernel
theorem dX2_init_121 : decode cX2_init 121 = .ok (.iload_n 1, 1) := by decide +kernel
theorem dX2_init_122 : decode cX2_init 122 = .ok (.bipush 64, 2) := by decide +kernel
theorem dX2_init_124 : decode cX2_init 124 = .ok (.if_icmp .ge 16, 3) := by decide +kernel
theorem dX2_init_127 : decode cX2_init 127 = .ok (.aload_n 0, 1) := by decide +kernel
theorem dX2_init_128 : decode cX2_init 128 = .ok (.getfield 15, 3) := by decide +kernel
theorem dX2_init_131 : decode cX2_init 131 = .ok (.iload_n 1, 1) := by decide +kernel
theorem dX2_init_132 : decode cX2_init 132 = .ok (.iconst (-1), 1) := by decide +kernel
theorem dX2_init_133 : decode cX2_init 133 = .ok (.iastore, 1) := by decide +kernel
theorem dX2_init_134 : decode cX2_init 134 = .ok (.iinc 1 1, 3) := by decide +kernel
theorem dX2_init_137 : decode cX2_init 137 = .ok (.goto (-16), 3) := by decide +kernel
theorem dX2_init_140 : decode cX2_init 140 = .ok (.return_, 1) := by decide +kernel
theorem dX2_copyFrom_0 : decode cX2_copyFrom 0 = .ok (.aload_n 0, 1) := by decide +kernel
theorem dX2_copyFrom_1 : decode cX2_copyFrom 1 = .ok (.aload_n 1, 1) := by decide +kernel
theorem dX2_copyFrom_2 : decode cX2_copyFrom 2 = .ok (.getfield 48, 3) := by decide +kernel
theorem dX2_copyFrom_5 : decode cX2_copyFrom 5 = .ok (.putfield 48, 3) := by decide +kernel
theorem dX2_copyFrom_8 : decode cX2_copyFrom 8 = .ok (.aload_n 0, 1) := by decide +kernel
theorem dX2_copyFrom_9 : decode cX2_copyFrom 9 = .ok (.aload_n 1, 1) := by decide +kernel
theorem dX2_copyFrom_10 : decode cX2_copyFrom 10 = .ok (.getfield 52, 3) := by decide +kernel
theorem dX2_copyFrom_13 : decode cX2_copyFrom 13 = .ok (.putfield 52, 3) := by decide +kernel
theorem dX2_copyFrom_16 : decode cX2_copyFrom 16 = .ok (.aload_n 0, 1) := by decide +kernel
theorem dX2_copyFrom_17 : decode cX2_copyFrom 17 = .ok (.aload_n 1, 1) := by decide +kernel
theorem dX2_copyFrom_18 : decode cX2_copyFrom 18 = .ok (.getfield 55, 3) := by decide +kernel
theorem dX2_copyFrom_21 : decode cX2_copyFrom 21 = .ok (.putfield 55, 3) := by decide +kernel
theorem dX2_copyFrom_24 : decode cX2_copyFrom 24 = .ok (.aload_n 0, 1) := by decide +kernel
theorem dX2_copyFrom_25 : decode cX2_copyFrom 25 = .ok (.aload_n 1, 1) := by decide +kernel
theorem dX2_copyFrom_26 : decode cX2_copyFrom 26 = .ok (.getfield 58, 3) := by decide +kernel
theorem dX2_copyFrom_29 : decode cX2_copyFrom 29 = .ok (.putfield 58, 3) := by decide +kernel
theorem dX2_copyFrom_32 : decode cX2_copyFrom 32 = .ok (.aload_n 1, 1) := by decide +kernel
theorem dX2_copyFrom_33 : decode cX2_copyFrom 33 = .ok (.getfield 9, 3) := by decide +kernel
theorem dX2_copyFrom_36 : decode cX2_copyFrom 36 = .ok (.aload_n 0, 1) := by decide +kernel
theorem dX2_copyFrom_37 : decode cX2_copyFrom 37 = .ok (.getfield 9, 3) := by decide +kernel
theorem dX2_copyFrom_40 : decode cX2_copyFrom 40 = .ok (.invokestatic 61, 3) := by decide +kernel
theorem dX2_copyFrom_43 : decode cX2_copyFrom 43 = .ok (.aload_n 1, 1) := by decide +kernel
theorem dX2_copyFrom_44 : decode cX2_copyFrom 44 = .ok (.getfield 15, 3) := by decide +kernel
theorem dX2_copyFrom_47 : decode cX2_copyFrom 47 = .ok (.aload_n 0, 1) := by decide +kernel
theorem dX2_copyFrom_48 : decode cX2_copyFrom 48 = .ok (.getfield 15, 3) := by decide +kernel
theorem dX2_copyFrom_51 : decode cX2_copyFrom 51 = .ok (.invokestatic 61, 3) := by decide +kernel
theorem dX2_copyFrom_54 : decode cX2_copyFrom 54 = .ok (.aload_n 1, 1) := by decide +kernel
theorem dX2_copyFrom_55 : decode cX2_copyFrom 55 = .ok (.getfield 18, 3) := by decide +kernel
theorem dX2_copyFrom_58 : decode cX2_copyFrom 58 = .ok (.aload_n 0, 1) := by decide +kernel
theorem dX2_copyFrom_59 : decode cX2_copyFrom 59 = .ok (.getfield 18, 3) := by decide +kernel
theorem dX2_copyFrom_62 : decode cX2_copyFrom 62 = .ok (.invokestatic 61, 3) := by decide +kernel
theorem dX2_copyFrom_65 : decode cX2_copyFrom 65 = .ok (.aload_n 1, 1) := by decide +kernel
theorem dX2_copyFrom_66 : decode cX2_copyFrom 66 = .ok (.getfield 21, 3) := by decide +kernel
theorem dX2_copyFrom_69 : decode cX2_copyFrom 69 = .ok (.aload_n 0, 1) := by decide +kernel
theorem dX2_copyFrom_70 : decode cX2_copyFrom 70 = .ok (.getfield 21, 3) := by decide +kernel
theorem dX2_copyFrom_73 : decode cX2_copyFrom 73 = .ok (.invokestatic 61, 3) := by decide +kernel
theorem dX2_copyFrom_76 : decode cX2_copyFrom 76 = .ok (.aload_n 1, 1) := by decide +kernel
theorem dX2_copyFrom_77 : decode cX2_copyFrom 77 = .ok (.getfield 24, 3) := by decide +kernel
theorem dX2_copyFrom_80 : decode cX2_copyFrom 80 = .ok (.aload_n 0, 1) := by decide +kernel
theorem dX2_copyFrom_81 : decode cX2_copyFrom 81 = .ok (.getfield 24, 3) := by decide +kernel
theorem dX2_copyFrom_84 : decode cX2_copyFrom 84 = .ok (.invokestatic 61, 3) := by decide +kernel
theorem dX2_copyFrom_87 : decode cX2_copyFrom 87 = .ok (.aload_n 1, 1) := by decide +kernel
theorem dX2_copyFrom_88 : decode cX2_copyFrom 88 = .ok (.getfield 27, 3) := by decide +kernel
theorem dX2_copyFrom_91 : decode cX2_copyFrom 91 = .ok (.aload_n 0, 1) := by decide +kernel
theorem dX2_copyFrom_92 : decode cX2_copyFrom 92 = .ok (.getfield 27, 3) := by decide +kernel
theorem dX2_copyFrom_95 : decode cX2_copyFrom 95 = .ok (.invokestatic 61, 3) := by decide +kernel
theorem dX2_copyFrom_98 : decode cX2_copyFrom 98 = .ok (.aload_n 1, 1) := by decide +kernel
theorem dX2_copyFrom_99 : decode cX2_copyFrom 99 = .ok (.getfield 30, 3) := by decide +kernel
theorem dX2_copyFrom_102 : decode cX2_copyFrom 102 = .ok (.aload_n 0, 1) := by decide +kernel
theorem dX2_copyFrom_103 : decode cX2_copyFrom 103 = .ok (.getfield 30, 3) := by decide +kernel
theorem dX2_copyFrom_106 : decode cX2_copyFrom 106 = .ok (.invokestatic 61, 3) := by decide +kernel
theorem dX2_copyFrom_109 : decode cX2_copyFrom 109 = .ok (.aload_n 1, 1) := by decide +kernel
theorem dX2_copyFrom_110 : decode cX2_copyFrom 110 = .ok (.getfield 33, 3) := by decide +kernel
theorem dX2_copyFrom_113 : decode cX2_copyFrom 113 = .ok (.aload_n 0, 1) := by decide +kernel
theorem dX2_copyFrom_114 : decode cX2_copyFrom 114 = .ok (.getfield 33, 3) := by decide +kernel
theorem dX2_copyFrom_117 : decode cX2_copyFrom 117 = .ok (.invokestatic 61, 3) := by decide +kernel
theorem dX2_copyFrom_120 : decode cX2_copyFrom 120 = .ok (.aload_n 1, 1) := by decide +kernel
theorem dX2_copyFrom_121 : decode cX2_copyFrom 121 = .ok (.getfield 36, 3) := by decide +kernel
theorem dX2_copyFrom_124 : decode cX2_copyFrom 124 = .ok (.aload_n 0, 1) := by decide +kernel
theorem dX2_copyFrom_125 : decode cX2_copyFrom 125 = .ok (.getfield 36, 3) := by decide +kernel
theorem dX2_copyFrom_128 : decode cX2_copyFrom 128 = .ok (.invokestatic 61, 3) := by decide +kernel
theorem dX2_copyFrom_131 : decode cX2_copyFrom 131 = .ok (.aload_n 1, 1) := by decide +kernel
theorem dX2_copyFrom_132 : decode cX2_copyFrom 132 = .ok (.getfield 39, 3) := by decide +kernel
theorem dX2_copyFrom_135 : decode cX2_copyFrom 135 = .ok (.aload_n 0, 1) := by decide +kernel
theorem dX2_copyFrom_136 : decode cX2_copyFrom 136 = .ok (.getfield 39, 3) := by decide +kernel
theorem dX2_copyFrom_139 : decode cX2_copyFrom 139 = .ok (.invokestatic 61, 3) := by decide +kernel
theorem dX2_copyFrom_142 : decode cX2_copyFrom 142 = .ok (.aload_n 1, 1) := by decide +kernel
theorem dX2_copyFrom_143 : decode cX2_copyFrom 143 = .ok (.getfield 42, 3) := by decide +kernel
theorem dX2_copyFrom_146 : decode cX2_copyFrom 146 = .ok (.aload_n 0, 1) := by decide +kernel
theorem dX2_copyFrom_147 : decode cX2_copyFrom 147 = .ok (.getfield 42, 3) := by decide +kernel
theorem dX2_copyFrom_150 : decode cX2_copyFrom 150 = .ok (.invokestatic 61, 3) := by decide +kernel
theorem dX2_copyFrom_153 : decode cX2_copyFrom 153 = .ok (.aload_n 1, 1) := by decide +kernel
theorem dX2_copyFrom_154 : decode cX2_copyFrom 154 = .ok (.getfield 45, 3) := by decide +kernel
theorem dX2_copyFrom_157 : decode cX2_copyFrom 157 = .ok (.aload_n 0, 1) := by decide +kernel
theorem dX2_copyFrom_158 : decode cX2_copyFrom 158 = .ok (.getfield 45, 3) := by decide +kernel
theorem dX2_copyFrom_161 : decode cX2_copyFrom 161 = .ok (.invokestatic 61, 3) := by decide +kernel
theorem dX2_copyFrom_164 : decode cX2_copyFrom 164 = .ok (.return_, 1) := by decide +kernel
theorem dX2_copyRow_0 : decode cX2_copyRow 0 = .ok (.aload_n 0, 1) := by decide +kernel
theorem dX2_copyRow_1 : decode cX2_copyRow 1 = .ok (.iconst 0, 1) := by decide +kernel
theorem dX2_copyRow_2 : decode cX2_copyRow 2 = .ok (.aload_n 1, 1) := by decide +kernel
theorem dX2_copyRow_3 : decode cX2_copyRow 3 = .ok (.iconst 0, 1) := by decide +kernel
theorem dX2_copyRow_4 : decode cX2_copyRow 4 = .ok (.aload_n 0, 1) := by decide +kernel
theorem dX2_copyRow_5 : decode cX2_copyRow 5 = .ok (.arraylength, 1) := by decide +kernel
theorem dX2_copyRow_6 : decode cX2_copyRow 6 = .ok (.aload_n 1, 1) := by decide +kernel
theorem dX2_copyRow_7 : decode cX2_copyRow 7 = .ok (.arraylength, 1) := by decide +kernel
theorem dX2_copyRow_8 : decode cX2_copyRow 8 = .ok (.invokestatic 65, 3) := by decide +kernel
theorem dX2_copyRow_11 : decode cX2_copyRow 11 = .ok (.invokestatic 71, 3) := by decide +kernel
theorem dX2_copyRow_14 : decode cX2_copyRow 14 = .ok (.return_, 1) := by decide +kernel
theorem dX2_hasNumber_0 : decode cX2_hasNumber 0 = .ok (.iload_n 1, 1) := by decide +kernel
theorem dX2_hasNumber_1 : decode cX2_hasNumber 1 = .ok (.ifCond .lt 17, 3) := by decide +kernel
theorem dX2_hasNumber_4 : decode cX2_hasNumber 4 = .ok (.iload_n 1, 1) := by decide +kernel
theorem dX2_hasNumber_5 : decode cX2_hasNumber 5 = .ok (.aload_n 0, 1) := by decide +kernel
theorem dX2_hasNumber_6 : decode cX2_hasNumber 6 = .ok (.getfield 9, 3) := by decide +kernel
theorem dX2_hasNumber_9 : decode cX2_hasNumber 9 = .ok (.iconst 3, 1) := by decide +kernel
theorem dX2_hasNumber_10 : decode cX2_hasNumber 10 = .ok (.iaload, 1) := by decide +kernel
theorem dX2_hasNumber_11 : decode cX2_hasNumber 11 = .ok (.if_icmp .ge 7, 3) := by decide +kernel
theorem dX2_hasNumber_14 : decode cX2_hasNumber 14 = .ok (.iconst 1, 1) := by decide +kernel
theorem dX2_hasNumber_15 : decode cX2_hasNumber 15 = .ok (.goto 4, 3) := by decide +kernel
theorem dX2_hasNumber_18 : decode cX2_hasNumber 18 = .ok (.iconst 0, 1) := by decide +kernel
theorem dX2_hasNumber_19 : decode cX2_hasNumber 19 = .ok (.ireturn, 1) := by decide +kernel
theorem dX2_mayLease_0 : decode cX2_mayLease 0 = .ok (.aload_n 0, 1) := by decide +kernel
theorem dX2_mayLease_1 : decode cX2_mayLease 1 = .ok (.iload_n 1, 1) := by decide +kernel
theorem dX2_mayLease_2 : decode cX2_mayLease 2 = .ok (.iload_n 2, 1) := by decide +kernel
theorem dX2_mayLease_3 : decode cX2_mayLease 3 = .ok (.invokevirtual 77, 3) := by decide +kernel
theorem dX2_mayLease_6 : decode cX2_mayLease 6 = .ok (.ifCond .eq 16, 3) := by decide +kernel
theorem dX2_mayLease_9 : decode cX2_mayLease 9 = .ok (.aload_n 0, 1) := by decide +kernel
theorem dX2_mayLease_10 : decode cX2_mayLease 10 = .ok (.iload_n 2, 1) := by decide +kernel
theorem dX2_mayLease_11 : decode cX2_mayLease 11 = .ok (.invokevirtual 81, 3) := by decide +kernel
theorem dX2_mayLease_14 : decode cX2_mayLease 14 = .ok (.iconst (-1), 1) := by decide +kernel
theorem dX2_mayLease_15 : decode cX2_mayLease 15 = .ok (.if_icmp .eq 7, 3) := by decide +kernel
theorem dX2_mayLease_18 : decode cX2_mayLease 18 = .ok (.iconst 1, 1) := by decide +kernel
theorem dX2_mayLease_19 : decode cX2_mayLease 19 = .ok (.goto 4, 3) := by decide +kernel
theorem dX2_mayLease_22 : decode cX2_mayLease 22 = .ok (.iconst 0, 1) := by decide +kernel
theorem dX2_mayLease_23 : decode cX2_mayLease 23 = .ok (.ireturn, 1) := by decide +kernel
theorem dX2_mayWish_0 : decode cX2_mayWish 0 = .ok (.aload_n 0, 1) := by decide +kernel
theorem dX2_mayWish_1 : decode cX2_mayWish 1 = .ok (.getfield 15, 3) := by decide +kernel
theorem dX2_mayWish_4 : decode cX2_mayWish 4 = .ok (.iload_n 2, 1) := by decide +kernel
theorem dX2_mayWish_5 : decode cX2_mayWish 5 = .ok (.iaload, 1) := by decide +kernel
theorem dX2_mayWish_6 : decode cX2_mayWish 6 = .ok (.iconst (-1), 1) := by decide +kernel
theorem dX2_mayWish_7 : decode cX2_mayWish 7 = .ok (.if_icmp .ne 10, 3) := by decide +kernel
theorem dX2_mayWish_10 : decode cX2_mayWish 10 = .ok (.aload_n 0, 1) := by decide +kernel
theorem dX2_mayWish_11 : decode cX2_mayWish 11 = .ok (.iload_n 1, 1) := by decide +kernel
theorem dX2_mayWish_12 : decode cX2_mayWish 12 = .ok (.iconst 1, 1) := by decide +kernel
theorem dX2_mayWish_13 : decode cX2_mayWish 13 = .ok (.invokevirtual 77, 3) := by decide +kernel
theorem dX2_mayWish_16 : decode cX2_mayWish 16 = .ok (.ireturn, 1) := by decide +kernel
theorem dX2_mayWish_17 : decode cX2_mayWish 17 = .ok (.aload_n 0, 1) := by decide +kernel
theorem dX2_mayWish_18 : decode cX2_mayWish 18 = .ok (.getfield 30, 3) := by decide +kernel
theorem dX2_mayWish_21 : decode cX2_mayWish 21 = .ok (.iload_n 2, 1) := by decide +kernel
theorem dX2_mayWish_22 : decode cX2_mayWish 22 = .ok (.iaload, 1) := by decide +kernel
theorem dX2_mayWish_23 : decode cX2_mayWish 23 = .ok (.iconst 3, 1) := by decide +kernel
theorem dX2_mayWish_24 : decode cX2_mayWish 24 = .ok (.if_icmp .ge 27, 3) := by decide +kernel
theorem dX2_mayWish_27 : decode cX2_mayWish 27 = .ok (.aload_n 0, 1) := by decide +kernel
theorem dX2_mayWish_28 : decode cX2_mayWish 28 = .ok (.getfield 15, 3) := by decide +kernel
theorem dX2_mayWish_31 : decode cX2_mayWish 31 = .ok (.iload_n 2, 1) := by decide +kernel
theorem dX2_mayWish_32 : decode cX2_mayWish 32 = .ok (.iaload, 1) := by decide +kernel
theorem dX2_mayWish_33 : decode cX2_mayWish 33 = .ok (.iload_n 1, 1) := by decide +kernel
theorem dX2_mayWish_34 : decode cX2_mayWish 34 = .ok (.if_icmp .eq 17, 3) := by decide +kernel
theorem dX2_mayWish_37 : decode cX2_mayWish 37 = .ok (.aload_n 0, 1) := by decide +kernel
theorem dX2_mayWish_38 : decode cX2_mayWish 38 = .ok (.iload_n 1, 1) := by decide +kernel
theorem dX2_mayWish_39 : decode cX2_mayWish 39 = .ok (.iload_n 2, 1) := by decide +kernel
theorem dX2_mayWish_40 : decode cX2_mayWish 40 = .ok (.invokevirtual 85, 3) := by decide +kernel
theorem dX2_mayWish_43 : decode cX2_mayWish 43 = .ok (.iconst (-1), 1) := by decide +kernel
theorem dX2_mayWish_44 : decode cX2_mayWish 44 = .ok (.if_icmp .ne 7, 3) := by decide +kernel
theorem dX2_mayWish_47 : decode cX2_mayWish 47 = .ok (.iconst 1, 1) := by decide +kernel
theorem dX2_mayWish_48 : decode cX2_mayWish 48 = .ok (.goto 4, 3) := by decide +kernel
theorem dX2_mayWish_51 : decode cX2_mayWish 51 = .ok (.iconst 0, 1) := by decide +kernel
theorem dX2_mayWish_52 : decode cX2_mayWish 52 = .ok (.ireturn, 1) := by decide +kernel
theorem dX2_mayRenew_0 : decode cX2_mayRenew 0 = .ok (.aload_n 0, 1) := by decide +kernel
theorem dX2_mayRenew_1 : decode cX2_mayRenew 1 = .ok (.getfield 15, 3) := by decide +kernel
theorem dX2_mayRenew_4 : decode cX2_mayRenew 4 = .ok (.iload_n 2, 1) := by decide +kernel
theorem dX2_mayRenew_5 : decode cX2_mayRenew 5 = .ok (.iaload, 1) := by decide +kernel
theorem dX2_mayRenew_6 : decode cX2_mayRenew 6 = .ok (.iload_n 1, 1) := by decide +kernel
theorem dX2_mayRenew_7 : decode cX2_mayRenew 7 = .ok (.if_icmp .ne 25, 3) := by decide +kernel
theorem dX2_mayRenew_10 : decode cX2_mayRenew 10 = .ok (.aload_n 0, 1) := by decide +kernel
theorem dX2_mayRenew_11 : decode cX2_mayRenew 11 = .ok (.getfield 9, 3) := by decide +kernel
theorem dX2_mayRenew_14 : decode cX2_mayRenew 14 = .ok (.iconst 2, 1) := by decide +kernel
theorem dX2_mayRenew_15 : decode cX2_mayRenew 15 = .ok (.iaload, 1) := by decide +kernel
theorem dX2_mayRenew_16 : decode cX2_mayRenew 16 = .ok (.ifCond .eq 12, 3) := by decide +kernel
theorem dX2_mayRenew_19 : decode cX2_mayRenew 19 = .ok (.aload_n 0, 1) := by decide +kernel
theorem dX2_mayRenew_20 : decode cX2_mayRenew 20 = .ok (.getfield 30, 3) := by decide +kernel
theorem dX2_mayRenew_23 : decode cX2_mayRenew 23 = .ok (.iload_n 2, 1) := by decide +kernel
theorem dX2_mayRenew_24 : decode cX2_mayRenew 24 = .ok (.iaload, 1) := by decide +kernel
theorem dX2_mayRenew_25 : decode cX2_mayRenew 25 = .ok (.ifCond .ne 7, 3) := by decide +kernel
theorem dX2_mayRenew_28 : decode cX2_mayRenew 28 = .ok (.iconst 1, 1) := by decide +kernel
theorem dX2_mayRenew_29 : decode cX2_mayRenew 29 = .ok (.goto 4, 3) := by decide +kernel
theorem dX2_mayRenew_32 : decode cX2_mayRenew 32 = .ok (.iconst 0, 1) := by decide +kernel
theorem dX2_mayRenew_33 : decode cX2_mayRenew 33 = .ok (.ireturn, 1) := by decide +kernel
theorem dX2_hasTimeFor_0 : decode cX2_hasTimeFor 0 = .ok (.aload_n 0, 1) := by decide +kernel
theorem dX2_hasTimeFor_1 : decode cX2_hasTimeFor 1 = .ok (.getfield 48, 3) := by decide +kernel
theorem dX2_hasTimeFor_4 : decode cX2_hasTimeFor 4 = .ok (.iload_n 1, 1) := by decide +kernel
theorem dX2_hasTimeFor_5 : decode cX2_hasTimeFor 5 = .ok (.iadd, 1) := by decide +kernel
theorem dX2_hasTimeFor_6 : decode cX2_hasTimeFor 6 = .ok (.sipush 9999, 3) := by decide +kernel
theorem dX2_hasTimeFor_9 : decode cX2_hasTimeFor 9 = .ok (.if_icmp .gt 7, 3) := by decide +kernel
theorem dX2_hasTimeFor_12 : decode cX2_hasTimeFor 12 = .ok (.iconst 1, 1) := by decide +kernel
theorem dX2_hasTimeFor_13 : decode cX2_hasTimeFor 13 = .ok (.goto 4, 3) := by decide +kernel
theorem dX2_hasTimeFor_16 : decode cX2_hasTimeFor 16 = .ok (.iconst 0, 1) := by decide +kernel
theorem dX2_hasTimeFor_17 : decode cX2_hasTimeFor 17 = .ok (.ireturn, 1) := by decide +kernel
theorem dX2_fitsIn_0 : decode cX2_fitsIn 0 = .ok (.iload_n 1, 1) := by decide +kernel
theorem dX2_fitsIn_1 : decode cX2_fitsIn 1 = .ok (.istore_n 2, 1) := by decide +kernel
theorem dX2_fitsIn_2 : decode cX2_fitsIn 2 = .ok (.iload_n 2, 1) := by decide +kernel
theorem dX2_fitsIn_3 : decode cX2_fitsIn 3 = .ok (.bipush 64, 2) := by decide +kernel
theorem dX2_fitsIn_5 : decode cX2_fitsIn 5 = .ok (.if_icmp .ge 21, 3) := by decide +kernel
theorem dX2_fitsIn_8 : decode cX2_fitsIn 8 = .ok (.aload_n 0, 1) := by decide +kernel
theorem dX2_fitsIn_9 : decode cX2_fitsIn 9 = .ok (.getfield 15, 3) := by decide +kernel
theorem dX2_fitsIn_12 : decode cX2_fitsIn 12 = .ok (.iload_n 2, 1) := by decide +kernel
theorem dX2_fitsIn_13 : decode cX2_fitsIn 13 = .ok (.iaload, 1) := by decide +kernel
theorem dX2_fitsIn_14 : decode cX2_fitsIn 14 = .ok (.iconst (-1), 1) := by decide +kernel
theorem dX2_fitsIn_15 : decode cX2_fitsIn 15 = .ok (.if_icmp .eq 5, 3) := by decide +kernel
theorem dX2_fitsIn_18 : decode cX2_fitsIn 18 = .ok (.iconst 0, 1) := by decide +kernel
theorem dX2_fitsIn_19 : decode cX2_fitsIn 19 = .ok (.ireturn, 1) := by decide +kernel
theorem dX2_fitsIn_20 : decode cX2_fitsIn 20 = .ok (.iinc 2 1, 3) := by decide +kernel
theorem dX2_fitsIn_23 : decode cX2_fitsIn 23 = .ok (.goto (-21), 3) := by decide +kernel
theorem dX2_fitsIn_26 : decode cX2_fitsIn 26 = .ok (.iconst 1, 1) := by decide +kernel
theorem dX2_fitsIn_27 : decode cX2_fitsIn 27 = .ok (.ireturn, 1) := by decide +kernel
theorem dX2_hasRoom_0 : decode cX2_hasRoom 0 = .ok (.aload_n 0, 1) := by decide +kernel
theorem dX2_hasRoom_1 : decode cX2_hasRoom 1 = .ok (.iload_n 1, 1) := by decide +kernel
theorem dX2_hasRoom_2 : decode cX2_hasRoom 2 = .ok (.invokevirtual 88, 3) := by decide +kernel
theorem dX2_hasRoom_5 : decode cX2_hasRoom 5 = .ok (.iload_n 2, 1) := by decide +kernel
theorem dX2_hasRoom_6 : decode cX2_hasRoom 6 = .ok (.iadd, 1) := by decide +kernel
theorem dX2_hasRoom_7 : decode cX2_hasRoom 7 = .ok (.aload_n 0, 1) := by decide +kernel
theorem dX2_hasRoom_8 : decode cX2_hasRoom 8 = .ok (.getfield 9, 3) := by decide +kernel
theorem dX2_hasRoom_11 : decode cX2_hasRoom 11 = .ok (.iconst 1, 1) := by decide +kernel
theorem dX2_hasRoom_12 : decode cX2_hasRoom 12 = .ok (.iaload, 1) := by decide +kernel
theorem dX2_hasRoom_13 : decode cX2_hasRoom 13 = .ok (.if_icmp .gt 7, 3) := by decide +kernel
theorem dX2_hasRoom_16 : decode cX2_hasRoom 16 = .ok (.iconst 1, 1) := by decide +kernel
theorem dX2_hasRoom_17 : decode cX2_hasRoom 17 = .ok (.goto 4, 3) := by decide +kernel
theorem dX2_hasRoom_20 : decode cX2_hasRoom 20 = .ok (.iconst 0, 1) := by decide +kernel
theorem dX2_hasRoom_21 : decode cX2_hasRoom 21 = .ok (.ireturn, 1) := by decide +kernel
theorem dX2_leaseRow_0 : decode cX2_leaseRow 0 = .ok (.aload_n 0, 1) := by decide +kernel
theorem dX2_leaseRow_1 : decode cX2_leaseRow 1 = .ok (.iload_n 2, 1) := by decide +kernel
theorem dX2_leaseRow_2 : decode cX2_leaseRow 2 = .ok (.invokevirtual 81, 3) := by decide +kernel
theorem dX2_leaseRow_5 : decode cX2_leaseRow 5 = .ok (.istore 4, 2) := by decide +kernel
theorem dX2_leaseRow_7 : decode cX2_leaseRow 7 = .ok (.iload 4, 2) := by decide +kernel
theorem dX2_leaseRow_9 : decode cX2_leaseRow 9 = .ok (.iconst (-1), 1) := by decide +kernel
theorem dX2_leaseRow_10 : decode cX2_leaseRow 10 = .ok (.if_icmp .ne 5, 3) := by decide +kernel
theorem dX2_leaseRow_13 : decode cX2_leaseRow 13 = .ok (.iconst (-1), 1) := by decide +kernel
theorem dX2_leaseRow_14 : decode cX2_leaseRow 14 = .ok (.ireturn, 1) := by decide +kernel
theorem dX2_leaseRow_15 : decode cX2_leaseRow 15 = .ok (.iload 4, 2) := by decide +kernel
theorem dX2_leaseRow_17 : decode cX2_leaseRow 17 = .ok (.istore 5, 2) := by decide +kernel
theorem dX2_leaseRow_19 : decode cX2_leaseRow 19 = .ok (.iload 5, 2) := by decide +kernel
theorem dX2_leaseRow_21 : decode cX2_leaseRow 21 = .ok (.iload 4, 2) := by decide +kernel
theorem dX2_leaseRow_23 : decode cX2_leaseRow 23 = .ok (.iload_n 2, 1) := by decide +kernel
theorem dX2_leaseRow_24 : decode cX2_leaseRow 24 = .ok (.iadd, 1) := by decide +kernel
theorem dX2_leaseRow_25 : decode cX2_leaseRow 25 = .ok (.if_icmp .ge 17, 3) := by decide +kernel
theorem dX2_leaseRow_28 : decode cX2_leaseRow 28 = .ok (.aload_n 0, 1) := by decide +kernel
theorem dX2_leaseRow_29 : decode cX2_leaseRow 29 = .ok (.iload_n 1, 1) := by decide +kernel
theorem dX2_leaseRow_30 : decode cX2_leaseRow 30 = .ok (.iload 5, 2) := by decide +kernel
theorem dX2_leaseRow_32 : decode cX2_leaseRow 32 = .ok (.iload_n 3, 1) := by decide +kernel
theorem dX2_leaseRow_33 : decode cX2_leaseRow 33 = .ok (.invokevirtual 91, 3) := by decide +kernel
theorem dX2_leaseRow_36 : decode cX2_leaseRow 36 = .ok (.iinc 5 1, 3) := by decide +kernel
theorem dX2_leaseRow_39 : decode cX2_leaseRow 39 = .ok (.goto (-20), 3) := by decide +kernel
theorem dX2_leaseRow_42 : decode cX2_leaseRow 42 = .ok (.iload 4, 2) := by decide +kernel
theorem dX2_leaseRow_44 : decode cX2_leaseRow 44 = .ok (.ireturn, 1) := by decide +kernel
theorem dX2_lease_0 : decode cX2_lease 0 = .ok (.aload_n 0, 1) := by decide +kernel
theorem dX2_lease_1 : decode cX2_lease 1 = .ok (.getfield 15, 3) := by decide +kernel
theorem dX2_lease_4 : decode cX2_lease 4 = .ok (.iload_n 2, 1) := by decide +kernel
theorem dX2_lease_5 : decode cX2_lease 5 = .ok (.iload_n 1, 1) := by decide +kernel
theorem dX2_lease_6 : decode cX2_lease 6 = .ok (.iastore, 1) := by decide +kernel
theorem dX2_lease_7 : decode cX2_lease 7 = .ok (.aload_n 0, 1) := by decide +kernel
theorem dX2_lease_8 : decode cX2_lease 8 = .ok (.getfield 18, 3) := by decide +kernel
theorem dX2_lease_11 : decode cX2_lease 11 = .ok (.iload_n 2, 1) := by decide +kernel
theorem dX2_lease_12 : decode cX2_lease 12 = .ok (.aload_n 0, 1) := by decide +kernel
theorem dX2_lease_13 : decode cX2_lease 13 = .ok (.getfield 48, 3) := by decide +kernel
theorem dX2_lease_16 : decode cX2_lease 16 = .ok (.iastore, 1) := by decide +kernel
theorem dX2_lease_17 : decode cX2_lease 17 = .ok (.aload_n 0, 1) := by decide +kernel
theorem dX2_lease_18 : decode cX2_lease 18 = .ok (.getfield 21, 3) := by decide +kernel
theorem dX2_lease_21 : decode cX2_lease 21 = .ok (.iload_n 2, 1) := by decide +kernel
theorem dX2_lease_22 : decode cX2_lease 22 = .ok (.aload_n 0, 1) := by decide +kernel
theorem dX2_lease_23 : decode cX2_lease 23 = .ok (.getfield 48, 3) := by decide +kernel
theorem dX2_lease_26 : decode cX2_lease 26 = .ok (.iload_n 3, 1) := by decide +kernel
theorem dX2_lease_27 : decode cX2_lease 27 = .ok (.iadd, 1) := by decide +kernel
theorem dX2_lease_28 : decode cX2_lease 28 = .ok (.iastore, 1) := by decide +kernel
theorem dX2_lease_29 : decode cX2_lease 29 = .ok (.aload_n 0, 1) := by decide +kernel
theorem dX2_lease_30 : decode cX2_lease 30 = .ok (.getfield 24, 3) := by decide +kernel
theorem dX2_lease_33 : decode cX2_lease 33 = .ok (.iload_n 2, 1) := by decide +kernel
theorem dX2_lease_34 : decode cX2_lease 34 = .ok (.aload_n 0, 1) := by decide +kernel
theorem dX2_lease_35 : decode cX2_lease 35 = .ok (.getfield 21, 3) := by decide +kernel
theorem dX2_lease_38 : decode cX2_lease 38 = .ok (.iload_n 2, 1) := by decide +kernel
theorem dX2_lease_39 : decode cX2_lease 39 = .ok (.iaload, 1) := by decide +kernel
theorem dX2_lease_40 : decode cX2_lease 40 = .ok (.aload_n 0, 1) := by decide +kernel
theorem dX2_lease_41 : decode cX2_lease 41 = .ok (.getfield 9, 3) := by decide +kernel
theorem dX2_lease_44 : decode cX2_lease 44 = .ok (.iconst 0, 1) := by decide +kernel
theorem dX2_lease_45 : decode cX2_lease 45 = .ok (.iaload, 1) := by decide +kernel
theorem dX2_lease_46 : decode cX2_lease 46 = .ok (.iadd, 1) := by decide +kernel
theorem dX2_lease_47 : decode cX2_lease 47 = .ok (.iastore, 1) := by decide +kernel
theorem dX2_lease_48 : decode cX2_lease 48 = .ok (.aload_n 0, 1) := by decide +kernel
theorem dX2_lease_49 : decode cX2_lease 49 = .ok (.getfield 27, 3) := by decide +kernel
theorem dX2_lease_52 : decode cX2_lease 52 = .ok (.iload_n 2, 1) := by decide +kernel
theorem dX2_lease_53 : decode cX2_lease 53 = .ok (.dup2, 1) := by decide +kernel
theorem dX2_lease_54 : decode cX2_lease 54 = .ok (.iaload, 1) := by decide +kernel
theorem dX2_lease_55 : decode cX2_lease 55 = .ok (.iconst 1, 1) := by decide +kernel
theorem dX2_lease_56 : decode cX2_lease 56 = .ok (.iadd, 1) := by decide +kernel
theorem dX2_lease_57 : decode cX2_lease 57 = .ok (.iastore, 1) := by decide +kernel
theorem dX2_lease_58 : decode cX2_lease 58 = .ok (.aload_n 0, 1) := by decide +kernel
theorem dX2_lease_59 : decode cX2_lease 59 = .ok (.getfield 39, 3) := by decide +kernel
theorem dX2_lease_62 : decode cX2_lease 62 = .ok (.iload_n 1, 1) := by decide +kernel
theorem dX2_lease_63 : decode cX2_lease 63 = .ok (.dup2, 1) := by decide +kernel
theorem dX2_lease_64 : decode cX2_lease 64 = .ok (.iaload, 1) := by decide +kernel
theorem dX2_lease_65 : decode cX2_lease 65 = .ok (.iconst 1, 1) := by decide +kernel
theorem dX2_lease_66 : decode cX2_lease 66 = .ok (.iadd, 1) := by decide +kernel
theorem dX2_lease_67 : decode cX2_lease 67 = .ok (.iastore, 1) := by decide +kernel
theorem dX2_lease_68 : decode cX2_lease 68 = .ok (.return_, 1) := by decide +kernel
theorem dX2_prolong_0 : decode cX2_prolong 0 = .ok (.aload_n 0, 1) := by decide +kernel
theorem dX2_prolong_1 : decode cX2_prolong 1 = .ok (.getfield 21, 3) := by decide +kernel
theorem dX2_prolong_4 : decode cX2_prolong 4 = .ok (.iload_n 1, 1) := by decide +kernel
theorem dX2_prolong_5 : decode cX2_prolong 5 = .ok (.iaload, 1) := by decide +kernel
theorem dX2_prolong_6 : decode cX2_prolong 6 = .ok (.istore_n 3, 1) := by decide +kernel
theorem dX2_prolong_7 : decode cX2_prolong 7 = .ok (.aload_n 0, 1) := by decide +kernel
theorem dX2_prolong_8 : decode cX2_prolong 8 = .ok (.dup, 1) := by decide +kernel
theorem dX2_prolong_9 : decode cX2_prolong 9 = .ok (.getfield 52, 3) := by decide +kernel
theorem dX2_prolong_12 : decode cX2_prolong 12 = .ok (.iconst 1, 1) := by decide +kernel
theorem dX2_prolong_13 : decode cX2_prolong 13 = .ok (.iadd, 1) := by decide +kernel
theorem dX2_prolong_14 : decode cX2_prolong 14 = .ok (.putfield 52, 3) := by decide +kernel
theorem dX2_prolong_17 : decode cX2_prolong 17 = .ok (.aload_n 0, 1) := by decide +kernel
theorem dX2_prolong_18 : decode cX2_prolong 18 = .ok (.iload_n 1, 1) := by decide +kernel
theorem dX2_prolong_19 : decode cX2_prolong 19 = .ok (.invokevirtual 95, 3) := by decide +kernel
theorem dX2_prolong_22 : decode cX2_prolong 22 = .ok (.iconst 2, 1) := by decide +kernel
theorem dX2_prolong_23 : decode cX2_prolong 23 = .ok (.if_icmp .ne 13, 3) := by decide +kernel
theorem dX2_prolong_26 : decode cX2_prolong 26 = .ok (.aload_n 0, 1) := by decide +kernel
theorem dX2_prolong_27 : decode cX2_prolong 27 = .ok (.dup, 1) := by decide +kernel
theorem dX2_prolong_28 : decode cX2_prolong 28 = .ok (.getfield 55, 3) := by decide +kernel
theorem dX2_prolong_31 : decode cX2_prolong 31 = .ok (.iconst 1, 1) := by decide +kernel
theorem dX2_prolong_32 : decode cX2_prolong 32 = .ok (.iadd, 1) := by decide +kernel
theorem dX2_prolong_33 : decode cX2_prolong 33 = .ok (.putfield 55, 3) := by decide +kernel
theorem dX2_prolong_36 : decode cX2_prolong 36 = .ok (.aload_n 0, 1) := by decide +kernel
theorem dX2_prolong_37 : decode cX2_prolong 37 = .ok (.getfield 21, 3) := by decide +kernel
theorem dX2_prolong_40 : decode cX2_prolong 40 = .ok (.iload_n 1, 1) := by decide +kernel
theorem dX2_prolong_41 : decode cX2_prolong 41 = .ok (.aload_n 0, 1) := by decide +kernel
theorem dX2_prolong_42 : decode cX2_prolong 42 = .ok (.getfield 48, 3) := by decide +kernel
theorem dX2_prolong_45 : decode cX2_prolong 45 = .ok (.iload_n 2, 1) := by decide +kernel
theorem dX2_prolong_46 : decode cX2_prolong 46 = .ok (.iadd, 1) := by decide +kernel
theorem dX2_prolong_47 : decode cX2_prolong 47 = .ok (.iastore, 1) := by decide +kernel
theorem dX2_prolong_48 : decode cX2_prolong 48 = .ok (.aload_n 0, 1) := by decide +kernel
theorem dX2_prolong_49 : decode cX2_prolong 49 = .ok (.getfield 24, 3) := by decide +kernel
theorem dX2_prolong_52 : decode cX2_prolong 52 = .ok (.iload_n 1, 1) := by decide +kernel
theorem dX2_prolong_53 : decode cX2_prolong 53 = .ok (.aload_n 0, 1) := by decide +kernel
theorem dX2_prolong_54 : decode cX2_prolong 54 = .ok (.getfield 21, 3) := by decide +kernel
theorem dX2_prolong_57 : decode cX2_prolong 57 = .ok (.iload_n 1, 1) := by decide +kernel
theorem dX2_prolong_58 : decode cX2_prolong 58 = .ok (.iaload, 1) := by decide +kernel
theorem dX2_prolong_59 : decode cX2_prolong 59 = .ok (.aload_n 0, 1) := by decide +kernel
theorem dX2_prolong_60 : decode cX2_prolong 60 = .ok (.getfield 9, 3) := by decide +kernel
theorem dX2_prolong_63 : decode cX2_prolong 63 = .ok (.iconst 0, 1) := by decide +kernel
theorem dX2_prolong_64 : decode cX2_prolong 64 = .ok (.iaload, 1) := by decide +kernel
theorem dX2_prolong_65 : decode cX2_prolong 65 = .ok (.iadd, 1) := by decide +kernel
theorem dX2_prolong_66 : decode cX2_prolong 66 = .ok (.iastore, 1) := by decide +kernel
theorem dX2_prolong_67 : decode cX2_prolong 67 = .ok (.iload_n 3, 1) := by decide +kernel
theorem dX2_prolong_68 : decode cX2_prolong 68 = .ok (.ireturn, 1) := by decide +kernel
theorem dX2_freeSpan_0 : decode cX2_freeSpan 0 = .ok (.iconst 0, 1) := by decide +kernel
theorem dX2_freeSpan_1 : decode cX2_freeSpan 1 = .ok (.istore 4, 2) := by decide +kernel
theorem dX2_freeSpan_3 : decode cX2_freeSpan 3 = .ok (.iload_n 2, 1) := by decide +kernel
theorem dX2_freeSpan_4 : decode cX2_freeSpan 4 = .ok (.istore 5, 2) := by decide +kernel
theorem dX2_freeSpan_6 : decode cX2_freeSpan 6 = .ok (.iload 5, 2) := by decide +kernel
theorem dX2_freeSpan_8 : decode cX2_freeSpan 8 = .ok (.iload_n 3, 1) := by decide +kernel
theorem dX2_freeSpan_9 : decode cX2_freeSpan 9 = .ok (.if_icmp .gt 29, 3) := by decide +kernel
theorem dX2_freeSpan_12 : decode cX2_freeSpan 12 = .ok (.aload_n 0, 1) := by decide +kernel
theorem dX2_freeSpan_13 : decode cX2_freeSpan 13 = .ok (.getfield 15, 3) := by decide +kernel
theorem dX2_freeSpan_16 : decode cX2_freeSpan 16 = .ok (.iload 5, 2) := by decide +kernel
theorem dX2_freeSpan_18 : decode cX2_freeSpan 18 = .ok (.iaload, 1) := by decide +kernel
theorem dX2_freeSpan_19 : decode cX2_freeSpan 19 = .ok (.iload_n 1, 1) := by decide +kernel
theorem dX2_freeSpan_20 : decode cX2_freeSpan 20 = .ok (.if_icmp .ne 12, 3) := by decide +kernel
theorem dX2_freeSpan_23 : decode cX2_freeSpan 23 = .ok (.iinc 4 1, 3) := by decide +kernel
theorem dX2_freeSpan_26 : decode cX2_freeSpan 26 = .ok (.aload_n 0, 1) := by decide +kernel
theorem dX2_freeSpan_27 : decode cX2_freeSpan 27 = .ok (.iload 5, 2) := by decide +kernel
theorem dX2_freeSpan_29 : decode cX2_freeSpan 29 = .ok (.invokevirtual 98, 3) := by decide +kernel
theorem dX2_freeSpan_32 : decode cX2_freeSpan 32 = .ok (.iinc 5 1, 3) := by decide +kernel
theorem dX2_freeSpan_35 : decode cX2_freeSpan 35 = .ok (.goto (-29), 3) := by decide +kernel
theorem dX2_freeSpan_38 : decode cX2_freeSpan 38 = .ok (.iload 4, 2) := by decide +kernel
theorem dX2_freeSpan_40 : decode cX2_freeSpan 40 = .ok (.ireturn, 1) := by decide +kernel
theorem dX2_free_0 : decode cX2_free 0 = .ok (.aload_n 0, 1) := by decide +kernel
theorem dX2_free_1 : decode cX2_free 1 = .ok (.getfield 15, 3) := by decide +kernel
theorem dX2_free_4 : decode cX2_free 4 = .ok (.iload_n 1, 1) := by decide +kernel
theorem dX2_free_5 : decode cX2_free 5 = .ok (.iconst (-1), 1) := by decide +kernel
theorem dX2_free_6 : decode cX2_free 6 = .ok (.iastore, 1) := by decide +kernel
theorem dX2_free_7 : decode cX2_free 7 = .ok (.aload_n 0, 1) := by decide +kernel
theorem dX2_free_8 : decode cX2_free 8 = .ok (.dup, 1) := by decide +kernel
theorem dX2_free_9 : decode cX2_free 9 = .ok (.getfield 58, 3) := by decide +kernel
theorem dX2_free_12 : decode cX2_free 12 = .ok (.iconst 1, 1) := by decide +kernel
theorem dX2_free_13 : decode cX2_free 13 = .ok (.iadd, 1) := by decide +kernel
theorem dX2_free_14 : decode cX2_free 14 = .ok (.putfield 58, 3) := by decide +kernel
theorem dX2_free_17 : decode cX2_free 17 = .ok (.iconst 0, 1) := by decide +kernel
theorem dX2_free_18 : decode cX2_free 18 = .ok (.istore_n 2, 1) := by decide +kernel
theorem dX2_free_19 : decode cX2_free 19 = .ok (.iload_n 2, 1) := by decide +kernel
theorem dX2_free_20 : decode cX2_free 20 = .ok (.iconst 3, 1) := by decide +kernel
theorem dX2_free_21 : decode cX2_free 21 = .ok (.if_icmp .ge 88, 3) := by decide +kernel
theorem dX2_free_24 : decode cX2_free 24 = .ok (.aload_n 0, 1) := by decide +kernel
theorem dX2_free_25 : decode cX2_free 25 = .ok (.getfield 15, 3) := by decide +kernel
theorem dX2_free_28 : decode cX2_free 28 = .ok (.iload_n 1, 1) := by decide +kernel
theorem dX2_free_29 : decode cX2_free 29 = .ok (.iaload, 1) := by decide +kernel
theorem dX2_free_30 : decode cX2_free 30 = .ok (.iconst (-1), 1) := by decide +kernel
theorem dX2_free_31 : decode cX2_free 31 = .ok (.if_icmp .ne 78, 3) := by decide +kernel
theorem dX2_free_34 : decode cX2_free 34 = .ok (.aload_n 0, 1) := by decide +kernel
theorem dX2_free_35 : decode cX2_free 35 = .ok (.getfield 30, 3) := by decide +kernel
theorem dX2_free_38 : decode cX2_free 38 = .ok (.iload_n 1, 1) := by decide +kernel
theorem dX2_free_39 : decode cX2_free 39 = .ok (.iaload, 1) := by decide +kernel
theorem dX2_free_40 : decode cX2_free 40 = .ok (.ifCond .le 69, 3) := by decide +kernel
theorem dX2_free_43 : decode cX2_free 43 = .ok (.aload_n 0, 1) := by decide +kernel
theorem dX2_free_44 : decode cX2_free 44 = .ok (.getfield 33, 3) := by decide +kernel
theorem dX2_free_47 : decode cX2_free 47 = .ok (.iload_n 1, 1) := by decide +kernel
theorem dX2_free_48 : decode cX2_free 48 = .ok (.iconst 3, 1) := by decide +kernel
theorem dX2_free_49 : decode cX2_free 49 = .ok (.imul, 1) := by decide +kernel
theorem dX2_free_50 : decode cX2_free 50 = .ok (.iaload, 1) := by decide +kernel
theorem dX2_free_51 : decode cX2_free 51 = .ok (.istore_n 3, 1) := by decide +kernel
theorem dX2_free_52 : decode cX2_free 52 = .ok (.aload_n 0, 1) := by decide +kernel
theorem dX2_free_53 : decode cX2_free 53 = .ok (.getfield 36, 3) := by decide +kernel
theorem dX2_free_56 : decode cX2_free 56 = .ok (.iload_n 1, 1) := by decide +kernel
theorem dX2_free_57 : decode cX2_free 57 = .ok (.iconst 3, 1) := by decide +kernel
theorem dX2_free_58 : decode cX2_free 58 = .ok (.imul, 1) := by decide +kernel
theorem dX2_free_59 : decode cX2_free 59 = .ok (.iaload, 1) := by decide +kernel
theorem dX2_free_60 : decode cX2_free 60 = .ok (.istore 4, 2) := by decide +kernel
theorem dX2_free_62 : decode cX2_free 62 = .ok (.aload_n 0, 1) := by decide +kernel
theorem dX2_free_63 : decode cX2_free 63 = .ok (.iload_n 1, 1) := by decide +kernel
theorem dX2_free_64 : decode cX2_free 64 = .ok (.iconst 0, 1) := by decide +kernel
theorem dX2_free_65 : decode cX2_free 65 = .ok (.invokevirtual 102, 3) := by decide +kernel
theorem dX2_free_68 : decode cX2_free 68 = .ok (.aload_n 0, 1) := by decide +kernel
theorem dX2_free_69 : decode cX2_free 69 = .ok (.iload_n 3, 1) := by decide +kernel
theorem dX2_free_70 : decode cX2_free 70 = .ok (.invokevirtual 88, 3) := by decide +kernel
theorem dX2_free_73 : decode cX2_free 73 = .ok (.aload_n 0, 1) := by decide +kernel
theorem dX2_free_74 : decode cX2_free 74 = .ok (.getfield 9, 3) := by decide +kernel
theorem dX2_free_77 : decode cX2_free 77 = .ok (.iconst 1, 1) := by decide +kernel
theorem dX2_free_78 : decode cX2_free 78 = .ok (.iaload, 1) := by decide +kernel
theorem dX2_free_79 : decode cX2_free 79 = .ok (.if_icmp .ge 14, 3) := by decide +kernel
theorem dX2_free_82 : decode cX2_free 82 = .ok (.aload_n 0, 1) := by decide +kernel
theorem dX2_free_83 : decode cX2_free 83 = .ok (.iload_n 3, 1) := by decide +kernel
theorem dX2_free_84 : decode cX2_free 84 = .ok (.iload_n 1, 1) := by decide +kernel
theorem dX2_free_85 : decode cX2_free 85 = .ok (.iload 4, 2) := by decide +kernel
theorem dX2_free_87 : decode cX2_free 87 = .ok (.invokevirtual 91, 3) := by decide +kernel
theorem dX2_free_90 : decode cX2_free 90 = .ok (.goto 13, 3) := by decide +kernel
theorem dX2_free_93 : decode cX2_free 93 = .ok (.aload_n 0, 1) := by decide +kernel
theorem dX2_free_94 : decode cX2_free 94 = .ok (.getfield 42, 3) := by decide +kernel
theorem dX2_free_97 : decode cX2_free 97 = .ok (.iload_n 3, 1) := by decide +kernel
theorem dX2_free_98 : decode cX2_free 98 = .ok (.dup2, 1) := by decide +kernel
theorem dX2_free_99 : decode cX2_free 99 = .ok (.iaload, 1) := by decide +kernel
theorem dX2_free_100 : decode cX2_free 100 = .ok (.iconst 1, 1) := by decide +kernel
theorem dX2_free_101 : decode cX2_free 101 = .ok (.iadd, 1) := by decide +kernel
theorem dX2_free_102 : decode cX2_free 102 = .ok (.iastore, 1) := by decide +kernel
theorem dX2_free_103 : decode cX2_free 103 = .ok (.iinc 2 1, 3) := by decide +kernel
theorem dX2_free_106 : decode cX2_free 106 = .ok (.goto (-87), 3) := by decide +kernel
theorem dX2_free_109 : decode cX2_free 109 = .ok (.return_, 1) := by decide +kernel
theorem dX2_addWish_0 : decode cX2_addWish 0 = .ok (.aload_n 0, 1) := by decide +kernel
theorem dX2_addWish_1 : decode cX2_addWish 1 = .ok (.getfield 15, 3) := by decide +kernel
theorem dX2_addWish_4 : decode cX2_addWish 4 = .ok (.iload_n 2, 1) := by decide +kernel
theorem dX2_addWish_5 : decode cX2_addWish 5 = .ok (.iaload, 1) := by decide +kernel
theorem dX2_addWish_6 : decode cX2_addWish 6 = .ok (.iconst (-1), 1) := by decide +kernel
theorem dX2_addWish_7 : decode cX2_addWish 7 = .ok (.if_icmp .ne 12, 3) := by decide +kernel
theorem dX2_addWish_10 : decode cX2_addWish 10 = .ok (.aload_n 0, 1) := by decide +kernel
theorem dX2_addWish_11 : decode cX2_addWish 11 = .ok (.iload_n 1, 1) := by decide +kernel
theorem dX2_addWish_12 : decode cX2_addWish 12 = .ok (.iload_n 2, 1) := by decide +kernel
theorem dX2_addWish_13 : decode cX2_addWish 13 = .ok (.iload_n 3, 1) := by decide +kernel
theorem dX2_addWish_14 : decode cX2_addWish 14 = .ok (.invokevirtual 91, 3) := by decide +kernel
theorem dX2_addWish_17 : decode cX2_addWish 17 = .ok (.iconst 0, 1) := by decide +kernel
theorem dX2_addWish_18 : decode cX2_addWish 18 = .ok (.ireturn, 1) := by decide +kernel
theorem dX2_addWish_19 : decode cX2_addWish 19 = .ok (.aload_n 0, 1) := by decide +kernel
theorem dX2_addWish_20 : decode cX2_addWish 20 = .ok (.getfield 30, 3) := by decide +kernel
theorem dX2_addWish_23 : decode cX2_addWish 23 = .ok (.iload_n 2, 1) := by decide +kernel
theorem dX2_addWish_24 : decode cX2_addWish 24 = .ok (.iaload, 1) := by decide +kernel
theorem dX2_addWish_25 : decode cX2_addWish 25 = .ok (.iconst 3, 1) := by decide +kernel
theorem dX2_addWish_26 : decode cX2_addWish 26 = .ok (.if_icmp .ge 41, 3) := by decide +kernel
theorem dX2_addWish_29 : decode cX2_addWish 29 = .ok (.iload_n 2, 1) := by decide +kernel
theorem dX2_addWish_30 : decode cX2_addWish 30 = .ok (.iconst 3, 1) := by decide +kernel
theorem dX2_addWish_31 : decode cX2_addWish 31 = .ok (.imul, 1) := by decide +kernel
theorem dX2_addWish_32 : decode cX2_addWish 32 = .ok (.aload_n 0, 1) := by decide +kernel
theorem dX2_addWish_33 : decode cX2_addWish 33 = .ok (.getfield 30, 3) := by decide +kernel
theorem dX2_addWish_36 : decode cX2_addWish 36 = .ok (.iload_n 2, 1) := by decide +kernel
theorem dX2_addWish_37 : decode cX2_addWish 37 = .ok (.iaload, 1) := by decide +kernel
theorem dX2_addWish_38 : decode cX2_addWish 38 = .ok (.iadd, 1) := by decide +kernel
theorem dX2_addWish_39 : decode cX2_addWish 39 = .ok (.istore 4, 2) := by decide +kernel
theorem dX2_addWish_41 : decode cX2_addWish 41 = .ok (.aload_n 0, 1) := by decide +kernel
theorem dX2_addWish_42 : decode cX2_addWish 42 = .ok (.getfield 33, 3) := by decide +kernel
theorem dX2_addWish_45 : decode cX2_addWish 45 = .ok (.iload 4, 2) := by decide +kernel
theorem dX2_addWish_47 : decode cX2_addWish 47 = .ok (.iload_n 1, 1) := by decide +kernel
theorem dX2_addWish_48 : decode cX2_addWish 48 = .ok (.iastore, 1) := by decide +kernel
theorem dX2_addWish_49 : decode cX2_addWish 49 = .ok (.aload_n 0, 1) := by decide +kernel
theorem dX2_addWish_50 : decode cX2_addWish 50 = .ok (.getfield 36, 3) := by decide +kernel
theorem dX2_addWish_53 : decode cX2_addWish 53 = .ok (.iload 4, 2) := by decide +kernel
theorem dX2_addWish_55 : decode cX2_addWish 55 = .ok (.iload_n 3, 1) := by decide +kernel
theorem dX2_addWish_56 : decode cX2_addWish 56 = .ok (.iastore, 1) := by decide +kernel
theorem dX2_addWish_57 : decode cX2_addWish 57 = .ok (.aload_n 0, 1) := by decide +kernel
theorem dX2_addWish_58 : decode cX2_addWish 58 = .ok (.getfield 30, 3) := by decide +kernel
theorem dX2_addWish_61 : decode cX2_addWish 61 = .ok (.iload_n 2, 1) := by decide +kernel
theorem dX2_addWish_62 : decode cX2_addWish 62 = .ok (.dup2, 1) := by decide +kernel
theorem dX2_addWish_63 : decode cX2_addWish 63 = .ok (.iaload, 1) := by decide +kernel
theorem dX2_addWish_64 : decode cX2_addWish 64 = .ok (.iconst 1, 1) := by decide +kernel
theorem dX2_addWish_65 : decode cX2_addWish 65 = .ok (.iadd, 1) := by decide +kernel
theorem dX2_addWish_66 : decode cX2_addWish 66 = .ok (.iastore, 1) := by decide +kernel
theorem dX2_addWish_67 : decode cX2_addWish 67 = .ok (.aload_n 0, 1) := by decide +kernel
theorem dX2_addWish_68 : decode cX2_addWish 68 = .ok (.getfield 30, 3) := by decide +kernel
theorem dX2_addWish_71 : decode cX2_addWish 71 = .ok (.iload_n 2, 1) := by decide +kernel
theorem dX2_addWish_72 : decode cX2_addWish 72 = .ok (.iaload, 1) := by decide +kernel
theorem dX2_addWish_73 : decode cX2_addWish 73 = .ok (.ireturn, 1) := by decide +kernel
theorem dX2_placeOfWish_0 : decode cX2_placeOfWish 0 = .ok (.iconst 0, 1) := by decide +kernel
theorem dX2_placeOfWish_1 : decode cX2_placeOfWish 1 = .ok (.istore_n 3, 1) := by decide +kernel
theorem dX2_placeOfWish_2 : decode cX2_placeOfWish 2 = .ok (.iload_n 3, 1) := by decide +kernel
theorem dX2_placeOfWish_3 : decode cX2_placeOfWish 3 = .ok (.aload_n 0, 1) := by decide +kernel
theorem dX2_placeOfWish_4 : decode cX2_placeOfWish 4 = .ok (.getfield 30, 3) := by decide +kernel
theorem dX2_placeOfWish_7 : decode cX2_placeOfWish 7 = .ok (.iload_n 2, 1) := by decide +kernel
theorem dX2_placeOfWish_8 : decode cX2_placeOfWish 8 = .ok (.iaload, 1) := by decide +kernel
theorem dX2_placeOfWish_9 : decode cX2_placeOfWish 9 = .ok (.if_icmp .ge 25, 3) := by decide +kernel
theorem dX2_placeOfWish_12 : decode cX2_placeOfWish 12 = .ok (.aload_n 0, 1) := by decide +kernel
theorem dX2_placeOfWish_13 : decode cX2_placeOfWish 13 = .ok (.getfield 33, 3) := by decide +kernel
theorem dX2_placeOfWish_16 : decode cX2_placeOfWish 16 = .ok (.iload_n 2, 1) := by decide +kernel
theorem dX2_placeOfWish_17 : decode cX2_placeOfWish 17 = .ok (.iconst 3, 1) := by decide +kernel
theorem dX2_placeOfWish_18 : decode cX2_placeOfWish 18 = .ok (.imul, 1) := by decide +kernel
theorem dX2_placeOfWish_19 : decode cX2_placeOfWish 19 = .ok (.iload_n 3, 1) := by decide +kernel
theorem dX2_placeOfWish_20 : decode cX2_placeOfWish 20 = .ok (.iadd, 1) := by decide +kernel
theorem dX2_placeOfWish_21 : decode cX2_placeOfWish 21 = .ok (.iaload, 1) := by decide +kernel
theorem dX2_placeOfWish_22 : decode cX2_placeOfWish 22 = .ok (.iload_n 1, 1) := by decide +kernel
theorem dX2_placeOfWish_23 : decode cX2_placeOfWish 23 = .ok (.if_icmp .ne 5, 3) := by decide +kernel
theorem dX2_placeOfWish_26 : decode cX2_placeOfWish 26 = .ok (.iload_n 3, 1) := by decide +kernel
theorem dX2_placeOfWish_27 : decode cX2_placeOfWish 27 = .ok (.ireturn, 1) := by decide +kernel
theorem dX2_placeOfWish_28 : decode cX2_placeOfWish 28 = .ok (.iinc 3 1, 3) := by decide +kernel
theorem dX2_placeOfWish_31 : decode cX2_placeOfWish 31 = .ok (.goto (-29), 3) := by decide +kernel
theorem dX2_placeOfWish_34 : decode cX2_placeOfWish 34 = .ok (.iconst (-1), 1) := by decide +kernel
theorem dX2_placeOfWish_35 : decode cX2_placeOfWish 35 = .ok (.ireturn, 1) := by decide +kernel
theorem dX2_dropWish_0 : decode cX2_dropWish 0 = .ok (.iload_n 2, 1) := by decide +kernel
theorem dX2_dropWish_1 : decode cX2_dropWish 1 = .ok (.istore_n 3, 1) := by decide +kernel
theorem dX2_dropWish_2 : decode cX2_dropWish 2 = .ok (.iload_n 3, 1) := by decide +kernel
theorem dX2_dropWish_3 : decode cX2_dropWish 3 = .ok (.aload_n 0, 1) := by decide +kernel
theorem dX2_dropWish_4 : decode cX2_dropWish 4 = .ok (.getfield 30, 3) := by decide +kernel
theorem dX2_dropWish_7 : decode cX2_dropWish 7 = .ok (.iload_n 1, 1) := by decide +kernel
theorem dX2_dropWish_8 : decode cX2_dropWish 8 = .ok (.iaload, 1) := by decide +kernel
theorem dX2_dropWish_9 : decode cX2_dropWish 9 = .ok (.iconst 1, 1) := by decide +kernel
theorem dX2_dropWish_10 : decode cX2_dropWish 10 = .ok (.isub, 1) := by decide +kernel
theorem dX2_dropWish_11 : decode cX2_dropWish 11 = .ok (.if_icmp .ge 48, 3) := by decide +kernel
theorem dX2_dropWish_14 : decode cX2_dropWish 14 = .ok (.iload_n 1, 1) := by decide +kernel
theorem dX2_dropWish_15 : decode cX2_dropWish 15 = .ok (.iconst 3, 1) := by decide +kernel
theorem dX2_dropWish_16 : decode cX2_dropWish 16 = .ok (.imul, 1) := by decide +kernel
theorem dX2_dropWish_17 : decode cX2_dropWish 17 = .ok (.iload_n 3, 1) := by decide +kernel
theorem dX2_dropWish_18 : decode cX2_dropWish 18 = .ok (.iadd, 1) := by decide +kernel
theorem dX2_dropWish_19 : decode cX2_dropWish 19 = .ok (.istore 4, 2) := by decide +kernel
theorem dX2_dropWish_21 : decode cX2_dropWish 21 = .ok (.aload_n 0, 1) := by decide +kernel
theorem dX2_dropWish_22 : decode cX2_dropWish 22 = .ok (.getfield 33, 3) := by decide +kernel
theorem dX2_dropWish_25 : decode cX2_dropWish 25 = .ok (.iload 4, 2) := by decide +kernel
theorem dX2_dropWish_27 : decode cX2_dropWish 27 = .ok (.aload_n 0, 1) := by decide +kernel
theorem dX2_dropWish_28 : decode cX2_dropWish 28 = .ok (.getfield 33, 3) := by decide +kernel
theorem dX2_dropWish_31 : decode cX2_dropWish 31 = .ok (.iload 4, 2) := by decide +kernel
theorem dX2_dropWish_33 : decode cX2_dropWish 33 = .ok (.iconst 1, 1) := by decide +kernel
theorem dX2_dropWish_34 : decode cX2_dropWish 34 = .ok (.iadd, 1) := by decide +kernel
theorem dX2_dropWish_35 : decode cX2_dropWish 35 = .ok (.iaload, 1) := by decide +kernel
theorem dX2_dropWish_36 : decode cX2_dropWish 36 = .ok (.iastore, 1) := by decide +kernel
theorem dX2_dropWish_37 : decode cX2_dropWish 37 = .ok (.aload_n 0, 1) := by decide +kernel
theorem dX2_dropWish_38 : decode cX2_dropWish 38 = .ok (.getfield 36, 3) := by decide +kernel
theorem dX2_dropWish_41 : decode cX2_dropWish 41 = .ok (.iload 4, 2) := by decide +kernel
theorem dX2_dropWish_43 : decode cX2_dropWish 43 = .ok (.aload_n 0, 1) := by decide +kernel
theorem dX2_dropWish_44 : decode cX2_dropWish 44 = .ok (.getfield 36, 3) := by decide +kernel
theorem dX2_dropWish_47 : decode cX2_dropWish 47 = .ok (.iload 4, 2) := by decide +kernel
theorem dX2_dropWish_49 : decode cX2_dropWish 49 = .ok (.iconst 1, 1) := by decide +kernel
theorem dX2_dropWish_50 : decode cX2_dropWish 50 = .ok (.iadd, 1) := by decide +kernel
theorem dX2_dropWish_51 : decode cX2_dropWish 51 = .ok (.iaload, 1) := by decide +kernel
theorem dX2_dropWish_52 : decode cX2_dropWish 52 = .ok (.iastore, 1) := by decide +kernel
theorem dX2_dropWish_53 : decode cX2_dropWish 53 = .ok (.iinc 3 1, 3) := by decide +kernel
theorem dX2_dropWish_56 : decode cX2_dropWish 56 = .ok (.goto (-54), 3) := by decide +kernel
theorem dX2_dropWish_59 : decode cX2_dropWish 59 = .ok (.aload_n 0, 1) := by decide +kernel
theorem dX2_dropWish_60 : decode cX2_dropWish 60 = .ok (.getfield 30, 3) := by decide +kernel
theorem dX2_dropWish_63 : decode cX2_dropWish 63 = .ok (.iload_n 1, 1) := by decide +kernel
theorem dX2_dropWish_64 : decode cX2_dropWish 64 = .ok (.dup2, 1) := by decide +kernel
theorem dX2_dropWish_65 : decode cX2_dropWish 65 = .ok (.iaload, 1) := by decide +kernel
theorem dX2_dropWish_66 : decode cX2_dropWish 66 = .ok (.iconst 1, 1) := by decide +kernel
theorem dX2_dropWish_67 : decode cX2_dropWish 67 = .ok (.isub, 1) := by decide +kernel
theorem dX2_dropWish_68 : decode cX2_dropWish 68 = .ok (.iastore, 1) := by decide +kernel
theorem dX2_dropWish_69 : decode cX2_dropWish 69 = .ok (.return_, 1) := by decide +kernel
theorem dX2_passUnits_0 : decode cX2_passUnits 0 = .ok (.aload_n 0, 1) := by decide +kernel
theorem dX2_passUnits_1 : decode cX2_passUnits 1 = .ok (.getfield 58, 3) := by decide +kernel
theorem dX2_passUnits_4 : decode cX2_passUnits 4 = .ok (.istore_n 2, 1) := by decide +kernel
theorem dX2_passUnits_5 : decode cX2_passUnits 5 = .ok (.iconst 0, 1) := by decide +kernel
theorem dX2_passUnits_6 : decode cX2_passUnits 6 = .ok (.istore_n 3, 1) := by decide +kernel
theorem dX2_passUnits_7 : decode cX2_passUnits 7 = .ok (.iload_n 3, 1) := by decide +kernel
theorem dX2_passUnits_8 : decode cX2_passUnits 8 = .ok (.iload_n 1, 1) := by decide +kernel
theorem dX2_passUnits_9 : decode cX2_passUnits 9 = .ok (.if_icmp .ge 27, 3) := by decide +kernel
theorem dX2_passUnits_12 : decode cX2_passUnits 12 = .ok (.aload_n 0, 1) := by decide +kernel
theorem dX2_passUnits_13 : decode cX2_passUnits 13 = .ok (.invokevirtual 106, 3) := by decide +kernel
theorem dX2_passUnits_16 : decode cX2_passUnits 16 = .ok (.aload_n 0, 1) := by decide +kernel
theorem dX2_passUnits_17 : decode cX2_passUnits 17 = .ok (.dup, 1) := by decide +kernel
theorem dX2_passUnits_18 : decode cX2_passUnits 18 = .ok (.getfield 48, 3) := by decide +kernel
theorem dX2_passUnits_21 : decode cX2_passUnits 21 = .ok (.iconst 1, 1) := by decide +kernel
theorem dX2_passUnits_22 : decode cX2_passUnits 22 = .ok (.iadd, 1) := by decide +kernel
theorem dX2_passUnits_23 : decode cX2_passUnits 23 = .ok (.putfield 48, 3) := by decide +kernel
theorem dX2_passUnits_26 : decode cX2_passUnits 26 = .ok (.aload_n 0, 1) := by decide +kernel
theorem dX2_passUnits_27 : decode cX2_passUnits 27 = .ok (.invokevirtual 109, 3) := by decide +kernel
theorem dX2_passUnits_30 : decode cX2_passUnits 30 = .ok (.iinc 3 1, 3) := by decide +kernel
theorem dX2_passUnits_33 : decode cX2_passUnits 33 = .ok (.goto (-26), 3) := by decide +kernel
theorem dX2_passUnits_36 : decode cX2_passUnits 36 = .ok (.aload_n 0, 1) := by decide +kernel
theorem dX2_passUnits_37 : decode cX2_passUnits 37 = .ok (.getfield 58, 3) := by decide +kernel
theorem dX2_passUnits_40 : decode cX2_passUnits 40 = .ok (.iload_n 2, 1) := by decide +kernel
theorem dX2_passUnits_41 : decode cX2_passUnits 41 = .ok (.isub, 1) := by decide +kernel
theorem dX2_passUnits_42 : decode cX2_passUnits 42 = .ok (.ireturn, 1) := by decide +kernel
theorem dX2_leap_0 : decode cX2_leap 0 = .ok (.iload_n 1, 1) := by decide +kernel
theorem dX2_leap_1 : decode cX2_leap 1 = .ok (.iconst 1, 1) := by decide +kernel
theorem dX2_leap_2 : decode cX2_leap 2 = .ok (.iadd, 1) := by decide +kernel
theorem dX2_leap_3 : decode cX2_leap 3 = .ok (.istore_n 2, 1) := by decide +kernel
theorem dX2_leap_4 : decode cX2_leap 4 = .ok (.iconst 0, 1) := by decide +kernel
theorem dX2_leap_5 : decode cX2_leap 5 = .ok (.istore_n 3, 1) := by decide +kernel
theorem dX2_leap_6 : decode cX2_leap 6 = .ok (.iload_n 3, 1) := by decide +kernel
theorem dX2_leap_7 : decode cX2_leap 7 = .ok (.bipush 64, 2) := by decide +kernel
theorem dX2_leap_9 : decode cX2_leap 9 = .ok (.if_icmp .ge 36, 3) := by decide +kernel
theorem dX2_leap_12 : decode cX2_leap 12 = .ok (.aload_n 0, 1) := by decide +kernel
theorem dX2_leap_13 : decode cX2_leap 13 = .ok (.getfield 15, 3) := by decide +kernel
theorem dX2_leap_16 : decode cX2_leap 16 = .ok (.iload_n 3, 1) := by decide +kernel
theorem dX2_leap_17 : decode cX2_leap 17 = .ok (.iaload, 1) := by decide +kernel
theorem dX2_leap_18 : decode cX2_leap 18 = .ok (.iconst (-1), 1) := by decide +kernel
theorem dX2_leap_19 : decode cX2_leap 19 = .ok (.if_icmp .eq 20, 3) := by decide +kernel
theorem dX2_leap_22 : decode cX2_leap 22 = .ok (.aload_n 0, 1) := by decide +kernel
theorem dX2_leap_23 : decode cX2_leap 23 = .ok (.getfield 24, 3) := by decide +kernel
theorem dX2_leap_26 : decode cX2_leap 26 = .ok (.iload_n 3, 1) := by decide +kernel
theorem dX2_leap_27 : decode cX2_leap 27 = .ok (.iaload, 1) := by decide +kernel
theorem dX2_leap_28 : decode cX2_leap 28 = .ok (.iload_n 2, 1) := by decide +kernel
theorem dX2_leap_29 : decode cX2_leap 29 = .ok (.if_icmp .ge 10, 3) := by decide +kernel
theorem dX2_leap_32 : decode cX2_leap 32 = .ok (.aload_n 0, 1) := by decide +kernel
theorem dX2_leap_33 : decode cX2_leap 33 = .ok (.getfield 24, 3) := by decide +kernel
theorem dX2_leap_36 : decode cX2_leap 36 = .ok (.iload_n 3, 1) := by decide +kernel
theorem dX2_leap_37 : decode cX2_leap 37 = .ok (.iaload, 1) := by decide +kernel
theorem dX2_leap_38 : decode cX2_leap 38 = .ok (.istore_n 2, 1) := by decide +kernel
theorem dX2_leap_39 : decode cX2_leap 39 = .ok (.iinc 3 1, 3) := by decide +kernel
theorem dX2_leap_42 : decode cX2_leap 42 = .ok (.goto (-36), 3) := by decide +kernel
theorem dX2_leap_45 : decode cX2_leap 45 = .ok (.iload_n 2, 1) := by decide +kernel
theorem dX2_leap_46 : decode cX2_leap 46 = .ok (.iload_n 1, 1) := by decide +kernel
theorem dX2_leap_47 : decode cX2_leap 47 = .ok (.if_icmp .le 5, 3) := by decide +kernel
theorem dX2_leap_50 : decode cX2_leap 50 = .ok (.iconst 0, 1) := by decide +kernel
theorem dX2_leap_51 : decode cX2_leap 51 = .ok (.ireturn, 1) := by decide +kernel
theorem dX2_leap_52 : decode cX2_leap 52 = .ok (.aload_n 0, 1) := by decide +kernel
theorem dX2_leap_53 : decode cX2_leap 53 = .ok (.iload_n 2, 1) := by decide +kernel
theorem dX2_leap_54 : decode cX2_leap 54 = .ok (.putfield 48, 3) := by decide +kernel
theorem dX2_leap_57 : decode cX2_leap 57 = .ok (.aload_n 0, 1) := by decide +kernel
theorem dX2_leap_58 : decode cX2_leap 58 = .ok (.invokevirtual 109, 3) := by decide +kernel
theorem dX2_leap_61 : decode cX2_leap 61 = .ok (.iconst 1, 1) := by decide +kernel
theorem dX2_leap_62 : decode cX2_leap 62 = .ok (.ireturn, 1) := by decide +kernel
theorem dX2_countUnits_0 : decode cX2_countUnits 0 = .ok (.iconst 0, 1) := by decide +kernel
theorem dX2_countUnits_1 : decode cX2_countUnits 1 = .ok (.istore_n 1, 1) := by decide +kernel
theorem dX2_countUnits_2 : decode cX2_countUnits 2 = .ok (.iload_n 1, 1) := by decide +kernel
theorem dX2_countUnits_3 : decode cX2_countUnits 3 = .ok (.bipush 64, 2) := by decide +kernel
theorem dX2_countUnits_5 : decode cX2_countUnits 5 = .ok (.if_icmp .ge 33, 3) := by decide +kernel
theorem dX2_countUnits_8 : decode cX2_countUnits 8 = .ok (.aload_n 0, 1) := by decide +kernel
theorem dX2_countUnits_9 : decode cX2_countUnits 9 = .ok (.iload_n 1, 1) := by decide +kernel
theorem dX2_countUnits_10 : decode cX2_countUnits 10 = .ok (.invokevirtual 95, 3) := by decide +kernel
theorem dX2_countUnits_13 : decode cX2_countUnits 13 = .ok (.iconst 1, 1) := by decide +kernel
theorem dX2_countUnits_14 : decode cX2_countUnits 14 = .ok (.if_icmp .ne 18, 3) := by decide +kernel
theorem dX2_countUnits_17 : decode cX2_countUnits 17 = .ok (.aload_n 0, 1) := by decide +kernel
theorem dX2_countUnits_18 : decode cX2_countUnits 18 = .ok (.getfield 45, 3) := by decide +kernel
theorem dX2_countUnits_21 : decode cX2_countUnits 21 = .ok (.aload_n 0, 1) := by decide +kernel
theorem dX2_countUnits_22 : decode cX2_countUnits 22 = .ok (.getfield 15, 3) := by decide +kernel
theorem dX2_countUnits_25 : decode cX2_countUnits 25 = .ok (.iload_n 1, 1) := by decide +kernel
theorem dX2_countUnits_26 : decode cX2_countUnits 26 = .ok (.iaload, 1) := by decide +kernel
theorem dX2_countUnits_27 : decode cX2_countUnits 27 = .ok (.dup2, 1) := by decide +kernel
theorem dX2_countUnits_28 : decode cX2_countUnits 28 = .ok (.iaload, 1) := by decide +kernel
theorem dX2_countUnits_29 : decode cX2_countUnits 29 = .ok (.iconst 1, 1) := by decide +kernel
theorem dX2_countUnits_30 : decode cX2_countUnits 30 = .ok (.iadd, 1) := by decide +kernel
theorem dX2_countUnits_31 : decode cX2_countUnits 31 = .ok (.iastore, 1) := by decide +kernel
theorem dX2_countUnits_32 : decode cX2_countUnits 32 = .ok (.iinc 1 1, 3) := by decide +kernel
theorem dX2_countUnits_35 : decode cX2_countUnits 35 = .ok (.goto (-33), 3) := by decide +kernel
theorem dX2_countUnits_38 : decode cX2_countUnits 38 = .ok (.return_, 1) := by decide +kernel
theorem dX2_freeDue_0 : decode cX2_freeDue 0 = .ok (.iconst 0, 1) := by decide +kernel
theorem dX2_freeDue_1 : decode cX2_freeDue 1 = .ok (.istore_n 1, 1) := by decide +kernel
theorem dX2_freeDue_2 : decode cX2_freeDue 2 = .ok (.iload_n 1, 1) := by decide +kernel
theorem dX2_freeDue_3 : decode cX2_freeDue 3 = .ok (.bipush 64, 2) := by decide +kernel
theorem dX2_freeDue_5 : decode cX2_freeDue 5 = .ok (.if_icmp .ge 37, 3) := by decide +kernel
theorem dX2_freeDue_8 : decode cX2_freeDue 8 = .ok (.aload_n 0, 1) := by decide +kernel
theorem dX2_freeDue_9 : decode cX2_freeDue 9 = .ok (.getfield 15, 3) := by decide +kernel
theorem dX2_freeDue_12 : decode cX2_freeDue 12 = .ok (.iload_n 1, 1) := by decide +kernel
theorem dX2_freeDue_13 : decode cX2_freeDue 13 = .ok (.iaload, 1) := by decide +kernel
theorem dX2_freeDue_14 : decode cX2_freeDue 14 = .ok (.iconst (-1), 1) := by decide +kernel
theorem dX2_freeDue_15 : decode cX2_freeDue 15 = .ok (.if_icmp .eq 21, 3) := by decide +kernel
theorem dX2_freeDue_18 : decode cX2_freeDue 18 = .ok (.aload_n 0, 1) := by decide +kernel
theorem dX2_freeDue_19 : decode cX2_freeDue 19 = .ok (.getfield 24, 3) := by decide +kernel
theorem dX2_freeDue_22 : decode cX2_freeDue 22 = .ok (.iload_n 1, 1) := by decide +kernel
theorem dX2_freeDue_23 : decode cX2_freeDue 23 = .ok (.iaload, 1) := by decide +kernel
theorem dX2_freeDue_24 : decode cX2_freeDue 24 = .ok (.aload_n 0, 1) := by decide +kernel
theorem dX2_freeDue_25 : decode cX2_freeDue 25 = .ok (.getfield 48, 3) := by decide +kernel
theorem dX2_freeDue_28 : decode cX2_freeDue 28 = .ok (.if_icmp .ne 8, 3) := by decide +kernel
theorem dX2_freeDue_31 : decode cX2_freeDue 31 = .ok (.aload_n 0, 1) := by decide +kernel
theorem dX2_freeDue_32 : decode cX2_freeDue 32 = .ok (.iload_n 1, 1) := by decide +kernel
theorem dX2_freeDue_33 : decode cX2_freeDue 33 = .ok (.invokevirtual 98, 3) := by decide +kernel
theorem dX2_freeDue_36 : decode cX2_freeDue 36 = .ok (.iinc 1 1, 3) := by decide +kernel
theorem dX2_freeDue_39 : decode cX2_freeDue 39 = .ok (.goto (-37), 3) := by decide +kernel
theorem dX2_freeDue_42 : decode cX2_freeDue 42 = .ok (.return_, 1) := by decide +kernel
theorem dX2_stateOf_0 : decode cX2_stateOf 0 = .ok (.aload_n 0, 1) := by decide +kernel
theorem dX2_stateOf_1 : decode cX2_stateOf 1 = .ok (.getfield 15, 3) := by decide +kernel
theorem dX2_stateOf_4 : decode cX2_stateOf 4 = .ok (.iload_n 1, 1) := by decide +kernel
theorem dX2_stateOf_5 : decode cX2_stateOf 5 = .ok (.iaload, 1) := by decide +kernel
theorem dX2_stateOf_6 : decode cX2_stateOf 6 = .ok (.iconst (-1), 1) := by decide +kernel
theorem dX2_stateOf_7 : decode cX2_stateOf 7 = .ok (.if_icmp .ne 5, 3) := by decide +kernel
theorem dX2_stateOf_10 : decode cX2_stateOf 10 = .ok (.iconst 0, 1) := by decide +kernel
theorem dX2_stateOf_11 : decode cX2_stateOf 11 = .ok (.ireturn, 1) := by decide +kernel
theorem dX2_stateOf_12 : decode cX2_stateOf 12 = .ok (.aload_n 0, 1) := by decide +kernel
theorem dX2_stateOf_13 : decode cX2_stateOf 13 = .ok (.getfield 48, 3) := by decide +kernel
theorem dX2_stateOf_16 : decode cX2_stateOf 16 = .ok (.aload_n 0, 1) := by decide +kernel
theorem dX2_stateOf_17 : decode cX2_stateOf 17 = .ok (.getfield 21, 3) := by decide +kernel
theorem dX2_stateOf_20 : decode cX2_stateOf 20 = .ok (.iload_n 1, 1) := by decide +kernel
theorem dX2_stateOf_21 : decode cX2_stateOf 21 = .ok (.iaload, 1) := by decide +kernel
theorem dX2_stateOf_22 : decode cX2_stateOf 22 = .ok (.if_icmp .ge 7, 3) := by decide +kernel
theorem dX2_stateOf_25 : decode cX2_stateOf 25 = .ok (.iconst 1, 1) := by decide +kernel
theorem dX2_stateOf_26 : decode cX2_stateOf 26 = .ok (.goto 4, 3) := by decide +kernel
theorem dX2_stateOf_29 : decode cX2_stateOf 29 = .ok (.iconst 2, 1) := by decide +kernel
theorem dX2_stateOf_30 : decode cX2_stateOf 30 = .ok (.ireturn, 1) := by decide +kernel
theorem dX2_ofNumber_0 : decode cX2_ofNumber 0 = .ok (.aload_n 0, 1) := by decide +kernel
theorem dX2_ofNumber_1 : decode cX2_ofNumber 1 = .ok (.getfield 15, 3) := by decide +kernel
theorem dX2_ofNumber_4 : decode cX2_ofNumber 4 = .ok (.iload_n 1, 1) := by decide +kernel
theorem dX2_ofNumber_5 : decode cX2_ofNumber 5 = .ok (.iaload, 1) := by decide +kernel
theorem dX2_ofNumber_6 : decode cX2_ofNumber 6 = .ok (.iconst (-1), 1) := by decide +kernel
theorem dX2_ofNumber_7 : decode cX2_ofNumber 7 = .ok (.if_icmp .ne 7, 3) := by decide +kernel
theorem dX2_ofNumber_10 : decode cX2_ofNumber 10 = .ok (.iconst 1, 1) := by decide +kernel
theorem dX2_ofNumber_11 : decode cX2_ofNumber 11 = .ok (.goto 4, 3) := by decide +kernel
theorem dX2_ofNumber_14 : decode cX2_ofNumber 14 = .ok (.iconst 0, 1) := by decide +kernel
theorem dX2_ofNumber_15 : decode cX2_ofNumber 15 = .ok (.istore_n 3, 1) := by decide +kernel
theorem dX2_ofNumber_16 : decode cX2_ofNumber 16 = .ok (.aload_n 0, 1) := by decide +kernel
theorem dX2_ofNumber_17 : decode cX2_ofNumber 17 = .ok (.getfield 30, 3) := by decide +kernel
theorem dX2_ofNumber_20 : decode cX2_ofNumber 20 = .ok (.iload_n 1, 1) := by decide +kernel
theorem dX2_ofNumber_21 : decode cX2_ofNumber 21 = .ok (.iaload, 1) := by decide +kernel
theorem dX2_ofNumber_22 : decode cX2_ofNumber 22 = .ok (.ifCond .le 7, 3) := by decide +kernel
theorem dX2_ofNumber_25 : decode cX2_ofNumber 25 = .ok (.iconst 1, 1) := by decide +kernel
theorem dX2_ofNumber_26 : decode cX2_ofNumber 26 = .ok (.goto 4, 3) := by decide +kernel
theorem dX2_ofNumber_29 : decode cX2_ofNumber 29 = .ok (.iconst 0, 1) := by decide +kernel
theorem dX2_ofNumber_30 : decode cX2_ofNumber 30 = .ok (.istore 4, 2) := by decide +kernel
theorem dX2_ofNumber_32 : decode cX2_ofNumber 32 = .ok (.iload_n 2, 1) := by decide +kernel
theorem dX2_ofNumber_33 : decode cX2_ofNumber 33 = .ok (.tableswitch 148 0 7 #[47, 53, 60, 75, 90, 105, 112, 130], 47) := by decide +kernel
theorem dX2_ofNumber_80 : decode cX2_ofNumber 80 = .ok (.aload_n 0, 1) := by decide +kernel
theorem dX2_ofNumber_81 : decode cX2_ofNumber 81 = .ok (.iload_n 1, 1) := by decide +kernel
theorem dX2_ofNumber_82 : decode cX2_ofNumber 82 = .ok (.invokevirtual 95, 3) := by decide +kernel
theorem dX2_ofNumber_85 : decode cX2_ofNumber 85 = .ok (.ireturn, 1) := by decide +kernel
theorem dX2_ofNumber_86 : decode cX2_ofNumber 86 = .ok (.aload_n 0, 1) := by decide +kernel
theorem dX2_ofNumber_87 : decode cX2_ofNumber 87 = .ok (.getfield 15, 3) := by decide +kernel
theorem dX2_ofNumber_90 : decode cX2_ofNumber 90 = .ok (.iload_n 1, 1) := by decide +kernel
theorem dX2_ofNumber_91 : decode cX2_ofNumber 91 = .ok (.iaload, 1) := by decide +kernel
theorem dX2_ofNumber_92 : decode cX2_ofNumber 92 = .ok (.ireturn, 1) := by decide +kernel
theorem dX2_ofNumber_93 : decode cX2_ofNumber 93 = .ok (.iload_n 3, 1) := by decide +kernel
theorem dX2_ofNumber_94 : decode cX2_ofNumber 94 = .ok (.ifCond .eq 7, 3) := by decide +kernel
theorem dX2_ofNumber_97 : decode cX2_ofNumber 97 = .ok (.iconst (-1), 1) := by decide +kernel
theorem dX2_ofNumber_98 : decode cX2_ofNumber 98 = .ok (.goto 9, 3) := by decide +kernel
theorem dX2_ofNumber_101 : decode cX2_ofNumber 101 = .ok (.aload_n 0, 1) := by decide +kernel
theorem dX2_ofNumber_102 : decode cX2_ofNumber 102 = .ok (.getfield 18, 3) := by decide +kernel
theorem dX2_ofNumber_105 : decode cX2_ofNumber 105 = .ok (.iload_n 1, 1) := by decide +kernel
theorem dX2_ofNumber_106 : decode cX2_ofNumber 106 = .ok (.iaload, 1) := by decide +kernel
theorem dX2_ofNumber_107 : decode cX2_ofNumber 107 = .ok (.ireturn, 1) := by decide +kernel
theorem dX2_ofNumber_108 : decode cX2_ofNumber 108 = .ok (.iload_n 3, 1) := by decide +kernel
theorem dX2_ofNumber_109 : decode cX2_ofNumber 109 = .ok (.ifCond .eq 7, 3) := by decide +kernel
theorem dX2_ofNumber_112 : decode cX2_ofNumber 112 = .ok (.iconst (-1), 1) := by decide +kernel
theorem dX2_ofNumber_113 : decode cX2_ofNumber 113 = .ok (.goto 9, 3) := by decide +kernel
theorem dX2_ofNumber_116 : decode cX2_ofNumber 116 = .ok (.aload_n 0, 1) := by decide +kernel
theorem dX2_ofNumber_117 : decode cX2_ofNumber 117 = .ok (.getfield 21, 3) := by decide +kernel
theorem dX2_ofNumber_120 : decode cX2_ofNumber 120 = .ok (.iload_n 1, 1) := by decide +kernel
theorem dX2_ofNumber_121 : decode cX2_ofNumber 121 = .ok (.iaload, 1) := by decide +kernel
theorem dX2_ofNumber_122 : decode cX2_ofNumber 122 = .ok (.ireturn, 1) := by decide +kernel
theorem dX2_ofNumber_123 : decode cX2_ofNumber 123 = .ok (.iload_n 3, 1) := by decide +kernel
theorem dX2_ofNumber_124 : decode cX2_ofNumber 124 = .ok (.ifCond .eq 7, 3) := by decide +kernel
theorem dX2_ofNumber_127 : decode cX2_ofNumber 127 = .ok (.iconst (-1), 1) := by decide +kernel
theorem dX2_ofNumber_128 : decode cX2_ofNumber 128 = .ok (.goto 9, 3) := by decide +kernel
theorem dX2_ofNumber_131 : decode cX2_ofNumber 131 = .ok (.aload_n 0, 1) := by decide +kernel
theorem dX2_ofNumber_132 : decode cX2_ofNumber 132 = .ok (.getfield 24, 3) := by decide +kernel
theorem dX2_ofNumber_135 : decode cX2_ofNumber 135 = .ok (.iload_n 1, 1) := by decide +kernel
theorem dX2_ofNumber_136 : decode cX2_ofNumber 136 = .ok (.iaload, 1) := by decide +kernel
theorem dX2_ofNumber_137 : decode cX2_ofNumber 137 = .ok (.ireturn, 1) := by decide +kernel
theorem dX2_ofNumber_138 : decode cX2_ofNumber 138 = .ok (.aload_n 0, 1) := by decide +kernel
theorem dX2_ofNumber_139 : decode cX2_ofNumber 139 = .ok (.getfield 30, 3) := by decide +kernel
theorem dX2_ofNumber_142 : decode cX2_ofNumber 142 = .ok (.iload_n 1, 1) := by decide +kernel
theorem dX2_ofNumber_143 : decode cX2_ofNumber 143 = .ok (.iaload, 1) := by decide +kernel
theorem dX2_ofNumber_144 : decode cX2_ofNumber 144 = .ok (.ireturn, 1) := by decide +kernel
theorem dX2_ofNumber_145 : decode cX2_ofNumber 145 = .ok (.iload 4, 2) := by decide +kernel
theorem dX2_ofNumber_147 : decode cX2_ofNumber 147 = .ok (.ifCond .eq 14, 3) := by decide +kernel
theorem dX2_ofNumber_150 : decode cX2_ofNumber 150 = .ok (.aload_n 0, 1) := by decide +kernel
theorem dX2_ofNumber_151 : decode cX2_ofNumber 151 = .ok (.getfield 33, 3) := by decide +kernel
theorem dX2_ofNumber_154 : decode cX2_ofNumber 154 = .ok (.iload_n 1, 1) := by decide +kernel
theorem dX2_ofNumber_155 : decode cX2_ofNumber 155 = .ok (.iconst 3, 1) := by decide +kernel
theorem dX2_ofNumber_156 : decode cX2_ofNumber 156 = .ok (.imul, 1) := by decide +kernel
theorem dX2_ofNumber_157 : decode cX2_ofNumber 157 = .ok (.iaload, 1) := by decide +kernel
theorem dX2_ofNumber_158 : decode cX2_ofNumber 158 = .ok (.goto 4, 3) := by decide +kernel
theorem dX2_ofNumber_161 : decode cX2_ofNumber 161 = .ok (.iconst (-1), 1) := by decide +kernel
theorem dX2_ofNumber_162 : decode cX2_ofNumber 162 = .ok (.ireturn, 1) := by decide +kernel
theorem dX2_ofNumber_163 : decode cX2_ofNumber 163 = .ok (.iload 4, 2) := by decide +kernel
theorem dX2_ofNumber_165 : decode cX2_ofNumber 165 = .ok (.ifCond .eq 14, 3) := by decide +kernel
theorem dX2_ofNumber_168 : decode cX2_ofNumber 168 = .ok (.aload_n 0, 1) := by decide +kernel
theorem dX2_ofNumber_169 : decode cX2_ofNumber 169 = .ok (.getfield 36, 3) := by decide +kernel
theorem dX2_ofNumber_172 : decode cX2_ofNumber 172 = .ok (.iload_n 1, 1) := by decide +kernel
theorem dX2_ofNumber_173 : decode cX2_ofNumber 173 = .ok (.iconst 3, 1) := by decide +kernel
theorem dX2_ofNumber_174 : decode cX2_ofNumber 174 = .ok (.imul, 1) := by decide +kernel
theorem dX2_ofNumber_175 : decode cX2_ofNumber 175 = .ok (.iaload, 1) := by decide +kernel
theorem dX2_ofNumber_176 : decode cX2_ofNumber 176 = .ok (.goto 4, 3) := by decide +kernel
theorem dX2_ofNumber_179 : decode cX2_ofNumber 179 = .ok (.iconst (-1), 1) := by decide +kernel
theorem dX2_ofNumber_180 : decode cX2_ofNumber 180 = .ok (.ireturn, 1) := by decide +kernel
theorem dX2_ofNumber_181 : decode cX2_ofNumber 181 = .ok (.aload_n 0, 1) := by decide +kernel
theorem dX2_ofNumber_182 : decode cX2_ofNumber 182 = .ok (.getfield 27, 3) := by decide +kernel
theorem dX2_ofNumber_185 : decode cX2_ofNumber 185 = .ok (.iload_n 1, 1) := by decide +kernel
theorem dX2_ofNumber_186 : decode cX2_ofNumber 186 = .ok (.iaload, 1) := by decide +kernel
theorem dX2_ofNumber_187 : decode cX2_ofNumber 187 = .ok (.ireturn, 1) := by decide +kernel
theorem dX2_ofHolder_0 : decode cX2_ofHolder 0 = .ok (.iload_n 2, 1) := by decide +kernel
theorem dX2_ofHolder_1 : decode cX2_ofHolder 1 = .ok (.tableswitch 89 0 6 #[43, 50, 57, 63, 69, 75, 82], 43) := by decide +kernel
theorem dX2_ofHolder_44 : decode cX2_ofHolder 44 = .ok (.aload_n 0, 1) := by decide +kernel
theorem dX2_ofHolder_45 : decode cX2_ofHolder 45 = .ok (.iload_n 1, 1) := by decide +kernel
theorem dX2_ofHolder_46 : decode cX2_ofHolder 46 = .ok (.iconst 1, 1) := by decide +kernel
theorem dX2_ofHolder_47 : decode cX2_ofHolder 47 = .ok (.invokevirtual 112, 3) := by decide +kernel
theorem dX2_ofHolder_50 : decode cX2_ofHolder 50 = .ok (.ireturn, 1) := by decide +kernel
theorem dX2_ofHolder_51 : decode cX2_ofHolder 51 = .ok (.aload_n 0, 1) := by decide +kernel
theorem dX2_ofHolder_52 : decode cX2_ofHolder 52 = .ok (.iload_n 1, 1) := by decide +kernel
theorem dX2_ofHolder_53 : decode cX2_ofHolder 53 = .ok (.iconst 2, 1) := by decide +kernel
theorem dX2_ofHolder_54 : decode cX2_ofHolder 54 = .ok (.invokevirtual 112, 3) := by decide +kernel
theorem dX2_ofHolder_57 : decode cX2_ofHolder 57 = .ok (.ireturn, 1) := by decide +kernel
theorem dX2_ofHolder_58 : decode cX2_ofHolder 58 = .ok (.aload_n 0, 1) := by decide +kernel
theorem dX2_ofHolder_59 : decode cX2_ofHolder 59 = .ok (.iload_n 1, 1) := by decide +kernel
theorem dX2_ofHolder_60 : decode cX2_ofHolder 60 = .ok (.invokevirtual 115, 3) := by decide +kernel
theorem dX2_ofHolder_63 : decode cX2_ofHolder 63 = .ok (.ireturn, 1) := by decide +kernel
theorem dX2_ofHolder_64 : decode cX2_ofHolder 64 = .ok (.aload_n 0, 1) := by decide +kernel
theorem dX2_ofHolder_65 : decode cX2_ofHolder 65 = .ok (.iload_n 1, 1) := by decide +kernel
theorem dX2_ofHolder_66 : decode cX2_ofHolder 66 = .ok (.invokevirtual 118, 3) := by decide +kernel
theorem dX2_ofHolder_69 : decode cX2_ofHolder 69 = .ok (.ireturn, 1) := by decide +kernel
theorem dX2_ofHolder_70 : decode cX2_ofHolder 70 = .ok (.aload_n 0, 1) := by decide +kernel
theorem dX2_ofHolder_71 : decode cX2_ofHolder 71 = .ok (.iload_n 1, 1) := by decide +kernel
theorem dX2_ofHolder_72 : decode cX2_ofHolder 72 = .ok (.invokevirtual 121, 3) := by decide +kernel
theorem dX2_ofHolder_75 : decode cX2_ofHolder 75 = .ok (.ireturn, 1) := by decide +kernel
theorem dX2_ofHolder_76 : decode cX2_ofHolder 76 = .ok (.aload_n 0, 1) := by decide +kernel
theorem dX2_ofHolder_77 : decode cX2_ofHolder 77 = .ok (.getfield 39, 3) := by decide +kernel
theorem dX2_ofHolder_80 : decode cX2_ofHolder 80 = .ok (.iload_n 1, 1) := by decide +kernel
theorem dX2_ofHolder_81 : decode cX2_ofHolder 81 = .ok (.iaload, 1) := by decide +kernel
theorem dX2_ofHolder_82 : decode cX2_ofHolder 82 = .ok (.ireturn, 1) := by decide +kernel
theorem dX2_ofHolder_83 : decode cX2_ofHolder 83 = .ok (.aload_n 0, 1) := by decide +kernel
theorem dX2_ofHolder_84 : decode cX2_ofHolder 84 = .ok (.getfield 42, 3) := by decide +kernel
theorem dX2_ofHolder_87 : decode cX2_ofHolder 87 = .ok (.iload_n 1, 1) := by decide +kernel
theorem dX2_ofHolder_88 : decode cX2_ofHolder 88 = .ok (.iaload, 1) := by decide +kernel
theorem dX2_ofHolder_89 : decode cX2_ofHolder 89 = .ok (.ireturn, 1) := by decide +kernel
theorem dX2_ofHolder_90 : decode cX2_ofHolder 90 = .ok (.aload_n 0, 1) := by decide +kernel
theorem dX2_ofHolder_91 : decode cX2_ofHolder 91 = .ok (.getfield 45, 3) := by decide +kernel
theorem dX2_ofHolder_94 : decode cX2_ofHolder 94 = .ok (.iload_n 1, 1) := by decide +kernel
theorem dX2_ofHolder_95 : decode cX2_ofHolder 95 = .ok (.iaload, 1) := by decide +kernel
theorem dX2_ofHolder_96 : decode cX2_ofHolder 96 = .ok (.ireturn, 1) := by decide +kernel
theorem dX2_ofSpan_0 : decode cX2_ofSpan 0 = .ok (.aload_n 0, 1) := by decide +kernel
theorem dX2_ofSpan_1 : decode cX2_ofSpan 1 = .ok (.iload_n 1, 1) := by decide +kernel
theorem dX2_ofSpan_2 : decode cX2_ofSpan 2 = .ok (.invokevirtual 124, 3) := by decide +kernel
theorem dX2_ofSpan_5 : decode cX2_ofSpan 5 = .ok (.istore_n 3, 1) := by decide +kernel
theorem dX2_ofSpan_6 : decode cX2_ofSpan 6 = .ok (.iload_n 3, 1) := by decide +kernel
theorem dX2_ofSpan_7 : decode cX2_ofSpan 7 = .ok (.iconst (-1), 1) := by decide +kernel
theorem dX2_ofSpan_8 : decode cX2_ofSpan 8 = .ok (.if_icmp .eq 7, 3) := by decide +kernel
theorem dX2_ofSpan_11 : decode cX2_ofSpan 11 = .ok (.iload_n 2, 1) := by decide +kernel
theorem dX2_ofSpan_12 : decode cX2_ofSpan 12 = .ok (.ifCond .ne 5, 3) := by decide +kernel
theorem dX2_ofSpan_15 : decode cX2_ofSpan 15 = .ok (.iload_n 3, 1) := by decide +kernel
theorem dX2_ofSpan_16 : decode cX2_ofSpan 16 = .ok (.ireturn, 1) := by decide +kernel
theorem dX2_ofSpan_17 : decode cX2_ofSpan 17 = .ok (.aload_n 0, 1) := by decide +kernel
theorem dX2_ofSpan_18 : decode cX2_ofSpan 18 = .ok (.iload_n 3, 1) := by decide +kernel
theorem dX2_ofSpan_19 : decode cX2_ofSpan 19 = .ok (.invokevirtual 127, 3) := by decide +kernel
theorem dX2_ofSpan_22 : decode cX2_ofSpan 22 = .ok (.ireturn, 1) := by decide +kernel
theorem dX2_ofAll_0 : decode cX2_ofAll 0 = .ok (.iload_n 1, 1) := by decide +kernel
theorem dX2_ofAll_1 : decode cX2_ofAll 1 = .ok (.tableswitch 125 0 10 #[59, 64, 69, 75, 81, 89, 97, 102, 107, 112, 120], 59) := by decide +kernel
theorem dX2_ofAll_60 : decode cX2_ofAll 60 = .ok (.aload_n 0, 1) := by decide +kernel
theorem dX2_ofAll_61 : decode cX2_ofAll 61 = .ok (.getfield 48, 3) := by decide +kernel
theorem dX2_ofAll_64 : decode cX2_ofAll 64 = .ok (.ireturn, 1) := by decide +kernel
theorem dX2_ofAll_65 : decode cX2_ofAll 65 = .ok (.aload_n 0, 1) := by decide +kernel
theorem dX2_ofAll_66 : decode cX2_ofAll 66 = .ok (.invokevirtual 130, 3) := by decide +kernel
theorem dX2_ofAll_69 : decode cX2_ofAll 69 = .ok (.ireturn, 1) := by decide +kernel
theorem dX2_ofAll_70 : decode cX2_ofAll 70 = .ok (.aload_n 0, 1) := by decide +kernel
theorem dX2_ofAll_71 : decode cX2_ofAll 71 = .ok (.iconst 1, 1) := by decide +kernel
theorem dX2_ofAll_72 : decode cX2_ofAll 72 = .ok (.invokevirtual 134, 3) := by decide +kernel
theorem dX2_ofAll_75 : decode cX2_ofAll 75 = .ok (.ireturn, 1) := by decide +kernel
theorem dX2_ofAll_76 : decode cX2_ofAll 76 = .ok (.aload_n 0, 1) := by decide +kernel
theorem dX2_ofAll_77 : decode cX2_ofAll 77 = .ok (.iconst 2, 1) := by decide +kernel
theorem dX2_ofAll_78 : decode cX2_ofAll 78 = .ok (.invokevirtual 134, 3) := by decide +kernel
theorem dX2_ofAll_81 : decode cX2_ofAll 81 = .ok (.ireturn, 1) := by decide +kernel
theorem dX2_ofAll_82 : decode cX2_ofAll 82 = .ok (.aload_n 0, 1) := by decide +kernel
theorem dX2_ofAll_83 : decode cX2_ofAll 83 = .ok (.getfield 30, 3) := by decide +kernel
theorem dX2_ofAll_86 : decode cX2_ofAll 86 = .ok (.invokestatic 137, 3) := by decide +kernel
theorem dX2_ofAll_89 : decode cX2_ofAll 89 = .ok (.ireturn, 1) := by decide +kernel
theorem dX2_ofAll_90 : decode cX2_ofAll 90 = .ok (.aload_n 0, 1) := by decide +kernel
theorem dX2_ofAll_91 : decode cX2_ofAll 91 = .ok (.getfield 39, 3) := by decide +kernel
theorem dX2_ofAll_94 : decode cX2_ofAll 94 = .ok (.invokestatic 137, 3) := by decide +kernel
theorem dX2_ofAll_97 : decode cX2_ofAll 97 = .ok (.ireturn, 1) := by decide +kernel
theorem dX2_ofAll_98 : decode cX2_ofAll 98 = .ok (.aload_n 0, 1) := by decide +kernel
theorem dX2_ofAll_99 : decode cX2_ofAll 99 = .ok (.getfield 52, 3) := by decide +kernel
theorem dX2_ofAll_102 : decode cX2_ofAll 102 = .ok (.ireturn, 1) := by decide +kernel
theorem dX2_ofAll_103 : decode cX2_ofAll 103 = .ok (.aload_n 0, 1) := by decide +kernel
theorem dX2_ofAll_104 : decode cX2_ofAll 104 = .ok (.getfield 55, 3) := by decide +kernel
theorem dX2_ofAll_107 : decode cX2_ofAll 107 = .ok (.ireturn, 1) := by decide +kernel
theorem dX2_ofAll_108 : decode cX2_ofAll 108 = .ok (.aload_n 0, 1) := by decide +kernel
theorem dX2_ofAll_109 : decode cX2_ofAll 109 = .ok (.getfield 58, 3) := by decide +kernel
theorem dX2_ofAll_112 : decode cX2_ofAll 112 = .ok (.ireturn, 1) := by decide +kernel
theorem dX2_ofAll_113 : decode cX2_ofAll 113 = .ok (.aload_n 0, 1) := by decide +kernel
theorem dX2_ofAll_114 : decode cX2_ofAll 114 = .ok (.getfield 42, 3) := by decide +kernel
theorem dX2_ofAll_117 : decode cX2_ofAll 117 = .ok (.invokestatic 137, 3) := by decide +kernel
theorem dX2_ofAll_120 : decode cX2_ofAll 120 = .ok (.ireturn, 1) := by decide +kernel
theorem dX2_ofAll_121 : decode cX2_ofAll 121 = .ok (.aload_n 0, 1) := by decide +kernel
theorem dX2_ofAll_122 : decode cX2_ofAll 122 = .ok (.invokevirtual 141, 3) := by decide +kernel
theorem dX2_ofAll_125 : decode cX2_ofAll 125 = .ok (.ireturn, 1) := by decide +kernel
theorem dX2_ofAll_126 : decode cX2_ofAll 126 = .ok (.aload_n 0, 1) := by decide +kernel
theorem dX2_ofAll_127 : decode cX2_ofAll 127 = .ok (.invokevirtual 144, 3) := by decide +kernel
theorem dX2_ofAll_130 : decode cX2_ofAll 130 = .ok (.ireturn, 1) := by decide +kernel
theorem dX2_freeNumbers_0 : decode cX2_freeNumbers 0 = .ok (.aload_n 0, 1) := by decide +kernel
theorem dX2_freeNumbers_1 : decode cX2_freeNumbers 1 = .ok (.iconst 0, 1) := by decide +kernel
theorem dX2_freeNumbers_2 : decode cX2_freeNumbers 2 = .ok (.invokevirtual 134, 3) := by decide +kernel
theorem dX2_freeNumbers_5 : decode cX2_freeNumbers 5 = .ok (.ireturn, 1) := by decide +kernel
theorem dX2_numbersIn_0 : decode cX2_numbersIn 0 = .ok (.iconst 0, 1) := by decide +kernel
theorem dX2_numbersIn_1 : decode cX2_numbersIn 1 = .ok (.istore_n 2, 1) := by decide +kernel
theorem dX2_numbersIn_2 : decode cX2_numbersIn 2 = .ok (.iconst 0, 1) := by decide +kernel
theorem dX2_numbersIn_3 : decode cX2_numbersIn 3 = .ok (.istore_n 3, 1) := by decide +kernel
theorem dX2_numbersIn_4 : decode cX2_numbersIn 4 = .ok (.iload_n 3, 1) := by decide +kernel
theorem dX2_numbersIn_5 : decode cX2_numbersIn 5 = .ok (.aload_n 0, 1) := by decide +kernel
theorem dX2_numbersIn_6 : decode cX2_numbersIn 6 = .ok (.getfield 9, 3) := by decide +kernel
theorem dX2_numbersIn_9 : decode cX2_numbersIn 9 = .ok (.iconst 3, 1) := by decide +kernel
theorem dX2_numbersIn_10 : decode cX2_numbersIn 10 = .ok (.iaload, 1) := by decide +kernel
theorem dX2_numbersIn_11 : decode cX2_numbersIn 11 = .ok (.if_icmp .ge 21, 3) := by decide +kernel
theorem dX2_numbersIn_14 : decode cX2_numbersIn 14 = .ok (.aload_n 0, 1) := by decide +kernel
theorem dX2_numbersIn_15 : decode cX2_numbersIn 15 = .ok (.iload_n 3, 1) := by decide +kernel
theorem dX2_numbersIn_16 : decode cX2_numbersIn 16 = .ok (.invokevirtual 95, 3) := by decide +kernel
theorem dX2_numbersIn_19 : decode cX2_numbersIn 19 = .ok (.iload_n 1, 1) := by decide +kernel
theorem dX2_numbersIn_20 : decode cX2_numbersIn 20 = .ok (.if_icmp .ne 6, 3) := by decide +kernel
theorem dX2_numbersIn_23 : decode cX2_numbersIn 23 = .ok (.iinc 2 1, 3) := by decide +kernel
theorem dX2_numbersIn_26 : decode cX2_numbersIn 26 = .ok (.iinc 3 1, 3) := by decide +kernel
theorem dX2_numbersIn_29 : decode cX2_numbersIn 29 = .ok (.goto (-25), 3) := by decide +kernel
theorem dX2_numbersIn_32 : decode cX2_numbersIn 32 = .ok (.iload_n 2, 1) := by decide +kernel
theorem dX2_numbersIn_33 : decode cX2_numbersIn 33 = .ok (.ireturn, 1) := by decide +kernel
theorem dX2_numbersOf_0 : decode cX2_numbersOf 0 = .ok (.iconst 0, 1) := by decide +kernel
theorem dX2_numbersOf_1 : decode cX2_numbersOf 1 = .ok (.istore_n 2, 1) := by decide +kernel
theorem dX2_numbersOf_2 : decode cX2_numbersOf 2 = .ok (.iconst 0, 1) := by decide +kernel
theorem dX2_numbersOf_3 : decode cX2_numbersOf 3 = .ok (.istore_n 3, 1) := by decide +kernel
theorem dX2_numbersOf_4 : decode cX2_numbersOf 4 = .ok (.iload_n 3, 1) := by decide +kernel
theorem dX2_numbersOf_5 : decode cX2_numbersOf 5 = .ok (.bipush 64, 2) := by decide +kernel
theorem dX2_numbersOf_7 : decode cX2_numbersOf 7 = .ok (.if_icmp .ge 22, 3) := by decide +kernel
theorem dX2_numbersOf_10 : decode cX2_numbersOf 10 = .ok (.aload_n 0, 1) := by decide +kernel
theorem dX2_numbersOf_11 : decode cX2_numbersOf 11 = .ok (.getfield 15, 3) := by decide +kernel
theorem dX2_numbersOf_14 : decode cX2_numbersOf 14 = .ok (.iload_n 3, 1) := by decide +kernel
theorem dX2_numbersOf_15 : decode cX2_numbersOf 15 = .ok (.iaload, 1) := by decide +kernel
theorem dX2_numbersOf_16 : decode cX2_numbersOf 16 = .ok (.iload_n 1, 1) := by decide +kernel
theorem dX2_numbersOf_17 : decode cX2_numbersOf 17 = .ok (.if_icmp .ne 6, 3) := by decide +kernel
theorem dX2_numbersOf_20 : decode cX2_numbersOf 20 = .ok (.iinc 2 1, 3) := by decide +kernel
theorem dX2_numbersOf_23 : decode cX2_numbersOf 23 = .ok (.iinc 3 1, 3) := by decide +kernel
theorem dX2_numbersOf_26 : decode cX2_numbersOf 26 = .ok (.goto (-22), 3) := by decide +kernel
theorem dX2_numbersOf_29 : decode cX2_numbersOf 29 = .ok (.iload_n 2, 1) := by decide +kernel
theorem dX2_numbersOf_30 : decode cX2_numbersOf 30 = .ok (.ireturn, 1) := by decide +kernel
theorem dX2_numbersOfIn_0 : decode cX2_numbersOfIn 0 = .ok (.iconst 0, 1) := by decide +kernel
theorem dX2_numbersOfIn_1 : decode cX2_numbersOfIn 1 = .ok (.istore_n 3, 1) := by decide +kernel
theorem dX2_numbersOfIn_2 : decode cX2_numbersOfIn 2 = .ok (.iconst 0, 1) := by decide +kernel
theorem dX2_numbersOfIn_3 : decode cX2_numbersOfIn 3 = .ok (.istore 4, 2) := by decide +kernel
theorem dX2_numbersOfIn_5 : decode cX2_numbersOfIn 5 = .ok (.iload 4, 2) := by decide +kernel
theorem dX2_numbersOfIn_7 : decode cX2_numbersOfIn 7 = .ok (.bipush 64, 2) := by decide +kernel
theorem dX2_numbersOfIn_9 : decode cX2_numbersOfIn 9 = .ok (.if_icmp .ge 33, 3) := by decide +kernel
theorem dX2_numbersOfIn_12 : decode cX2_numbersOfIn 12 = .ok (.aload_n 0, 1) := by decide +kernel
theorem dX2_numbersOfIn_13 : decode cX2_numbersOfIn 13 = .ok (.getfield 15, 3) := by decide +kernel
theorem dX2_numbersOfIn_16 : decode cX2_numbersOfIn 16 = .ok (.iload 4, 2) := by decide +kernel
theorem dX2_numbersOfIn_18 : decode cX2_numbersOfIn 18 = .ok (.iaload, 1) := by decide +kernel
theorem dX2_numbersOfIn_19 : decode cX2_numbersOfIn 19 = .ok (.iload_n 1, 1) := by decide +kernel
theorem dX2_numbersOfIn_20 : decode cX2_numbersOfIn 20 = .ok (.if_icmp .ne 16, 3) := by decide +kernel
theorem dX2_numbersOfIn_23 : decode cX2_numbersOfIn 23 = .ok (.aload_n 0, 1) := by decide +kernel
theorem dX2_numbersOfIn_24 : decode cX2_numbersOfIn 24 = .ok (.iload 4, 2) := by decide +kernel
theorem dX2_numbersOfIn_26 : decode cX2_numbersOfIn 26 = .ok (.invokevirtual 95, 3) := by decide +kernel
theorem dX2_numbersOfIn_29 : decode cX2_numbersOfIn 29 = .ok (.iload_n 2, 1) := by decide +kernel
theorem dX2_numbersOfIn_30 : decode cX2_numbersOfIn 30 = .ok (.if_icmp .ne 6, 3) := by decide +kernel
theorem dX2_numbersOfIn_33 : decode cX2_numbersOfIn 33 = .ok (.iinc 3 1, 3) := by decide +kernel
theorem dX2_numbersOfIn_36 : decode cX2_numbersOfIn 36 = .ok (.iinc 4 1, 3) := by decide +kernel
theorem dX2_numbersOfIn_39 : decode cX2_numbersOfIn 39 = .ok (.goto (-34), 3) := by decide +kernel
theorem dX2_numbersOfIn_42 : decode cX2_numbersOfIn 42 = .ok (.iload_n 3, 1) := by decide +kernel
theorem dX2_numbersOfIn_43 : decode cX2_numbersOfIn 43 = .ok (.ireturn, 1) := by decide +kernel
theorem dX2_wishesOf_0 : decode cX2_wishesOf 0 = .ok (.iconst 0, 1) := by decide +kernel
theorem dX2_wishesOf_1 : decode cX2_wishesOf 1 = .ok (.istore_n 2, 1) := by decide +kernel
theorem dX2_wishesOf_2 : decode cX2_wishesOf 2 = .ok (.iconst 0, 1) := by decide +kernel
theorem dX2_wishesOf_3 : decode cX2_wishesOf 3 = .ok (.istore_n 3, 1) := by decide +kernel
theorem dX2_wishesOf_4 : decode cX2_wishesOf 4 = .ok (.iload_n 3, 1) := by decide +kernel
theorem dX2_wishesOf_5 : decode cX2_wishesOf 5 = .ok (.bipush 64, 2) := by decide +kernel
theorem dX2_wishesOf_7 : decode cX2_wishesOf 7 = .ok (.if_icmp .ge 22, 3) := by decide +kernel
theorem dX2_wishesOf_10 : decode cX2_wishesOf 10 = .ok (.aload_n 0, 1) := by decide +kernel
theorem dX2_wishesOf_11 : decode cX2_wishesOf 11 = .ok (.iload_n 1, 1) := by decide +kernel
theorem dX2_wishesOf_12 : decode cX2_wishesOf 12 = .ok (.iload_n 3, 1) := by decide +kernel
theorem dX2_wishesOf_13 : decode cX2_wishesOf 13 = .ok (.invokevirtual 85, 3) := by decide +kernel
theorem dX2_wishesOf_16 : decode cX2_wishesOf 16 = .ok (.iconst (-1), 1) := by decide +kernel
theorem dX2_wishesOf_17 : decode cX2_wishesOf 17 = .ok (.if_icmp .eq 6, 3) := by decide +kernel
theorem dX2_wishesOf_20 : decode cX2_wishesOf 20 = .ok (.iinc 2 1, 3) := by decide +kernel
theorem dX2_wishesOf_23 : decode cX2_wishesOf 23 = .ok (.iinc 3 1, 3) := by decide +kernel
theorem dX2_wishesOf_26 : decode cX2_wishesOf 26 = .ok (.goto (-22), 3) := by decide +kernel
theorem dX2_wishesOf_29 : decode cX2_wishesOf 29 = .ok (.iload_n 2, 1) := by decide +kernel
theorem dX2_wishesOf_30 : decode cX2_wishesOf 30 = .ok (.ireturn, 1) := by decide +kernel
theorem dX2_leastOf_0 : decode cX2_leastOf 0 = .ok (.iconst 0, 1) := by decide +kernel
theorem dX2_leastOf_1 : decode cX2_leastOf 1 = .ok (.istore_n 2, 1) := by decide +kernel
theorem dX2_leastOf_2 : decode cX2_leastOf 2 = .ok (.iload_n 2, 1) := by decide +kernel
theorem dX2_leastOf_3 : decode cX2_leastOf 3 = .ok (.bipush 64, 2) := by decide +kernel
theorem dX2_leastOf_5 : decode cX2_leastOf 5 = .ok (.if_icmp .ge 21, 3) := by decide +kernel
theorem dX2_leastOf_8 : decode cX2_leastOf 8 = .ok (.aload_n 0, 1) := by decide +kernel
theorem dX2_leastOf_9 : decode cX2_leastOf 9 = .ok (.getfield 15, 3) := by decide +kernel
theorem dX2_leastOf_12 : decode cX2_leastOf 12 = .ok (.iload_n 2, 1) := by decide +kernel
theorem dX2_leastOf_13 : decode cX2_leastOf 13 = .ok (.iaload, 1) := by decide +kernel
theorem dX2_leastOf_14 : decode cX2_leastOf 14 = .ok (.iload_n 1, 1) := by decide +kernel
theorem dX2_leastOf_15 : decode cX2_leastOf 15 = .ok (.if_icmp .ne 5, 3) := by decide +kernel
theorem dX2_leastOf_18 : decode cX2_leastOf 18 = .ok (.iload_n 2, 1) := by decide +kernel
theorem dX2_leastOf_19 : decode cX2_leastOf 19 = .ok (.ireturn, 1) := by decide +kernel
theorem dX2_leastOf_20 : decode cX2_leastOf 20 = .ok (.iinc 2 1, 3) := by decide +kernel
theorem dX2_leastOf_23 : decode cX2_leastOf 23 = .ok (.goto (-21), 3) := by decide +kernel
theorem dX2_leastOf_26 : decode cX2_leastOf 26 = .ok (.iconst (-1), 1) := by decide +kernel
theorem dX2_leastOf_27 : decode cX2_leastOf 27 = .ok (.ireturn, 1) := by decide +kernel
theorem dX2_leastEndOf_0 : decode cX2_leastEndOf 0 = .ok (.iconst (-1), 1) := by decide +kernel
theorem dX2_leastEndOf_1 : decode cX2_leastEndOf 1 = .ok (.istore_n 2, 1) := by decide +kernel
theorem dX2_leastEndOf_2 : decode cX2_leastEndOf 2 = .ok (.iconst 0, 1) := by decide +kernel
theorem dX2_leastEndOf_3 : decode cX2_leastEndOf 3 = .ok (.istore_n 3, 1) := by decide +kernel
theorem dX2_leastEndOf_4 : decode cX2_leastEndOf 4 = .ok (.iload_n 3, 1) := by decide +kernel
theorem dX2_leastEndOf_5 : decode cX2_leastEndOf 5 = .ok (.bipush 64, 2) := by decide +kernel
theorem dX2_leastEndOf_7 : decode cX2_leastEndOf 7 = .ok (.if_icmp .ge 50, 3) := by decide +kernel
theorem dX2_leastEndOf_10 : decode cX2_leastEndOf 10 = .ok (.aload_n 0, 1) := by decide +kernel
theorem dX2_leastEndOf_11 : decode cX2_leastEndOf 11 = .ok (.getfield 15, 3) := by decide +kernel
theorem dX2_leastEndOf_14 : decode cX2_leastEndOf 14 = .ok (.iload_n 3, 1) := by decide +kernel
theorem dX2_leastEndOf_15 : decode cX2_leastEndOf 15 = .ok (.iaload, 1) := by decide +kernel
theorem dX2_leastEndOf_16 : decode cX2_leastEndOf 16 = .ok (.iload_n 1, 1) := by decide +kernel
theorem dX2_leastEndOf_17 : decode cX2_leastEndOf 17 = .ok (.if_icmp .ne 34, 3) := by decide +kernel
theorem dX2_leastEndOf_20 : decode cX2_leastEndOf 20 = .ok (.aload_n 0, 1) := by decide +kernel
theorem dX2_leastEndOf_21 : decode cX2_leastEndOf 21 = .ok (.iload_n 3, 1) := by decide +kernel
theorem dX2_leastEndOf_22 : decode cX2_leastEndOf 22 = .ok (.invokevirtual 95, 3) := by decide +kernel
theorem dX2_leastEndOf_25 : decode cX2_leastEndOf 25 = .ok (.iconst 1, 1) := by decide +kernel
theorem dX2_leastEndOf_26 : decode cX2_leastEndOf 26 = .ok (.if_icmp .ne 25, 3) := by decide +kernel
theorem dX2_leastEndOf_29 : decode cX2_leastEndOf 29 = .ok (.iload_n 2, 1) := by decide +kernel
theorem dX2_leastEndOf_30 : decode cX2_leastEndOf 30 = .ok (.iconst (-1), 1) := by decide +kernel
theorem dX2_leastEndOf_31 : decode cX2_leastEndOf 31 = .ok (.if_icmp .eq 13, 3) := by decide +kernel
theorem dX2_leastEndOf_34 : decode cX2_leastEndOf 34 = .ok (.aload_n 0, 1) := by decide +kernel
theorem dX2_leastEndOf_35 : decode cX2_leastEndOf 35 = .ok (.getfield 21, 3) := by decide +kernel
theorem dX2_leastEndOf_38 : decode cX2_leastEndOf 38 = .ok (.iload_n 3, 1) := by decide +kernel
theorem dX2_leastEndOf_39 : decode cX2_leastEndOf 39 = .ok (.iaload, 1) := by decide +kernel
theorem dX2_leastEndOf_40 : decode cX2_leastEndOf 40 = .ok (.iload_n 2, 1) := by decide +kernel
theorem dX2_leastEndOf_41 : decode cX2_leastEndOf 41 = .ok (.if_icmp .ge 10, 3) := by decide +kernel
theorem dX2_leastEndOf_44 : decode cX2_leastEndOf 44 = .ok (.aload_n 0, 1) := by decide +kernel
theorem dX2_leastEndOf_45 : decode cX2_leastEndOf 45 = .ok (.getfield 21, 3) := by decide +kernel
theorem dX2_leastEndOf_48 : decode cX2_leastEndOf 48 = .ok (.iload_n 3, 1) := by decide +kernel
theorem dX2_leastEndOf_49 : decode cX2_leastEndOf 49 = .ok (.iaload, 1) := by decide +kernel
theorem dX2_leastEndOf_50 : decode cX2_leastEndOf 50 = .ok (.istore_n 2, 1) := by decide +kernel
theorem dX2_leastEndOf_51 : decode cX2_leastEndOf 51 = .ok (.iinc 3 1, 3) := by decide +kernel
theorem dX2_leastEndOf_54 : decode cX2_leastEndOf 54 = .ok (.goto (-50), 3) := by decide +kernel
theorem dX2_leastEndOf_57 : decode cX2_leastEndOf 57 = .ok (.iload_n 2, 1) := by decide +kernel
theorem dX2_leastEndOf_58 : decode cX2_leastEndOf 58 = .ok (.ireturn, 1) := by decide +kernel
theorem dX2_rowFrom_0 : decode cX2_rowFrom 0 = .ok (.iload_n 1, 1) := by decide +kernel
theorem dX2_rowFrom_1 : decode cX2_rowFrom 1 = .ok (.istore_n 2, 1) := by decide +kernel
theorem dX2_rowFrom_2 : decode cX2_rowFrom 2 = .ok (.iload_n 2, 1) := by decide +kernel
theorem dX2_rowFrom_3 : decode cX2_rowFrom 3 = .ok (.aload_n 0, 1) := by decide +kernel
theorem dX2_rowFrom_4 : decode cX2_rowFrom 4 = .ok (.getfield 9, 3) := by decide +kernel
theorem dX2_rowFrom_7 : decode cX2_rowFrom 7 = .ok (.iconst 3, 1) := by decide +kernel
theorem dX2_rowFrom_8 : decode cX2_rowFrom 8 = .ok (.iaload, 1) := by decide +kernel
theorem dX2_rowFrom_9 : decode cX2_rowFrom 9 = .ok (.if_icmp .ge 19, 3) := by decide +kernel
theorem dX2_rowFrom_12 : decode cX2_rowFrom 12 = .ok (.aload_n 0, 1) := by decide +kernel
theorem dX2_rowFrom_13 : decode cX2_rowFrom 13 = .ok (.getfield 15, 3) := by decide +kernel
theorem dX2_rowFrom_16 : decode cX2_rowFrom 16 = .ok (.iload_n 2, 1) := by decide +kernel
theorem dX2_rowFrom_17 : decode cX2_rowFrom 17 = .ok (.iaload, 1) := by decide +kernel
theorem dX2_rowFrom_18 : decode cX2_rowFrom 18 = .ok (.iconst (-1), 1) := by decide +kernel
theorem dX2_rowFrom_19 : decode cX2_rowFrom 19 = .ok (.if_icmp .ne 9, 3) := by decide +kernel
theorem dX2_rowFrom_22 : decode cX2_rowFrom 22 = .ok (.iinc 2 1, 3) := by decide +kernel
theorem dX2_rowFrom_25 : decode cX2_rowFrom 25 = .ok (.goto (-23), 3) := by decide +kernel
theorem dX2_rowFrom_28 : decode cX2_rowFrom 28 = .ok (.iload_n 2, 1) := by decide +kernel
theorem dX2_rowFrom_29 : decode cX2_rowFrom 29 = .ok (.iload_n 1, 1) := by decide +kernel
theorem dX2_rowFrom_30 : decode cX2_rowFrom 30 = .ok (.isub, 1) := by decide +kernel
theorem dX2_rowFrom_31 : decode cX2_rowFrom 31 = .ok (.ireturn, 1) := by decide +kernel
theorem dX2_lowestRow_0 : decode cX2_lowestRow 0 = .ok (.iconst 0, 1) := by decide +kernel
theorem dX2_lowestRow_1 : decode cX2_lowestRow 1 = .ok (.istore_n 2, 1) := by decide +kernel
theorem dX2_lowestRow_2 : decode cX2_lowestRow 2 = .ok (.iload_n 2, 1) := by decide +kernel
theorem dX2_lowestRow_3 : decode cX2_lowestRow 3 = .ok (.aload_n 0, 1) := by decide +kernel
theorem dX2_lowestRow_4 : decode cX2_lowestRow 4 = .ok (.getfield 9, 3) := by decide +kernel
theorem dX2_lowestRow_7 : decode cX2_lowestRow 7 = .ok (.iconst 3, 1) := by decide +kernel
theorem dX2_lowestRow_8 : decode cX2_lowestRow 8 = .ok (.iaload, 1) := by decide +kernel
theorem dX2_lowestRow_9 : decode cX2_lowestRow 9 = .ok (.if_icmp .ge 20, 3) := by decide +kernel
theorem dX2_lowestRow_12 : decode cX2_lowestRow 12 = .ok (.aload_n 0, 1) := by decide +kernel
theorem dX2_lowestRow_13 : decode cX2_lowestRow 13 = .ok (.iload_n 2, 1) := by decide +kernel
theorem dX2_lowestRow_14 : decode cX2_lowestRow 14 = .ok (.invokevirtual 127, 3) := by decide +kernel
theorem dX2_lowestRow_17 : decode cX2_lowestRow 17 = .ok (.iload_n 1, 1) := by decide +kernel
theorem dX2_lowestRow_18 : decode cX2_lowestRow 18 = .ok (.if_icmp .lt 5, 3) := by decide +kernel
theorem dX2_lowestRow_21 : decode cX2_lowestRow 21 = .ok (.iload_n 2, 1) := by decide +kernel
theorem dX2_lowestRow_22 : decode cX2_lowestRow 22 = .ok (.ireturn, 1) := by decide +kernel
theorem dX2_lowestRow_23 : decode cX2_lowestRow 23 = .ok (.iinc 2 1, 3) := by decide +kernel
theorem dX2_lowestRow_26 : decode cX2_lowestRow 26 = .ok (.goto (-24), 3) := by decide +kernel
theorem dX2_lowestRow_29 : decode cX2_lowestRow 29 = .ok (.iconst (-1), 1) := by decide +kernel
theorem dX2_lowestRow_30 : decode cX2_lowestRow 30 = .ok (.ireturn, 1) := by decide +kernel
theorem dX2_longestRow_0 : decode cX2_longestRow 0 = .ok (.iconst 0, 1) := by decide +kernel
theorem dX2_longestRow_1 : decode cX2_longestRow 1 = .ok (.istore_n 1, 1) := by decide +kernel
theorem dX2_longestRow_2 : decode cX2_longestRow 2 = .ok (.iconst 0, 1) := by decide +kernel
theorem dX2_longestRow_3 : decode cX2_longestRow 3 = .ok (.istore_n 2, 1) := by decide +kernel
theorem dX2_longestRow_4 : decode cX2_longestRow 4 = .ok (.iload_n 2, 1) := by decide +kernel
theorem dX2_longestRow_5 : decode cX2_longestRow 5 = .ok (.aload_n 0, 1) := by decide +kernel
theorem dX2_longestRow_6 : decode cX2_longestRow 6 = .ok (.getfield 9, 3) := by decide +kernel
theorem dX2_longestRow_9 : decode cX2_longestRow 9 = .ok (.iconst 3, 1) := by decide +kernel
theorem dX2_longestRow_10 : decode cX2_longestRow 10 = .ok (.iaload, 1) := by decide +kernel
theorem dX2_longestRow_11 : decode cX2_longestRow 11 = .ok (.if_icmp .ge 19, 3) := by decide +kernel
theorem dX2_longestRow_14 : decode cX2_longestRow 14 = .ok (.iload_n 1, 1) := by decide +kernel
theorem dX2_longestRow_15 : decode cX2_longestRow 15 = .ok (.aload_n 0, 1) := by decide +kernel
theorem dX2_longestRow_16 : decode cX2_longestRow 16 = .ok (.iload_n 2, 1) := by decide +kernel
theorem dX2_longestRow_17 : decode cX2_longestRow 17 = .ok (.invokevirtual 127, 3) := by decide +kernel
theorem dX2_longestRow_20 : decode cX2_longestRow 20 = .ok (.invokestatic 147, 3) := by decide +kernel
theorem dX2_longestRow_23 : decode cX2_longestRow 23 = .ok (.istore_n 1, 1) := by decide +kernel
theorem dX2_longestRow_24 : decode cX2_longestRow 24 = .ok (.iinc 2 1, 3) := by decide +kernel
theorem dX2_longestRow_27 : decode cX2_longestRow 27 = .ok (.goto (-23), 3) := by decide +kernel
theorem dX2_longestRow_30 : decode cX2_longestRow 30 = .ok (.iload_n 1, 1) := by decide +kernel
theorem dX2_longestRow_31 : decode cX2_longestRow 31 = .ok (.ireturn, 1) := by decide +kernel
theorem dX2_spans_0 : decode cX2_spans 0 = .ok (.iconst 0, 1) := by decide +kernel
theorem dX2_spans_1 : decode cX2_spans 1 = .ok (.istore_n 1, 1) := by decide +kernel
theorem dX2_spans_2 : decode cX2_spans 2 = .ok (.iconst 0, 1) := by decide +kernel
theorem dX2_spans_3 : decode cX2_spans 3 = .ok (.istore_n 2, 1) := by decide +kernel
theorem dX2_spans_4 : decode cX2_spans 4 = .ok (.iload_n 2, 1) := by decide +kernel
theorem dX2_spans_5 : decode cX2_spans 5 = .ok (.aload_n 0, 1) := by decide +kernel
theorem dX2_spans_6 : decode cX2_spans 6 = .ok (.getfield 9, 3) := by decide +kernel
theorem dX2_spans_9 : decode cX2_spans 9 = .ok (.iconst 3, 1) := by decide +kernel
theorem dX2_spans_10 : decode cX2_spans 10 = .ok (.iaload, 1) := by decide +kernel
theorem dX2_spans_11 : decode cX2_spans 11 = .ok (.if_icmp .ge 20, 3) := by decide +kernel
theorem dX2_spans_14 : decode cX2_spans 14 = .ok (.aload_n 0, 1) := by decide +kernel
theorem dX2_spans_15 : decode cX2_spans 15 = .ok (.iload_n 2, 1) := by decide +kernel
theorem dX2_spans_16 : decode cX2_spans 16 = .ok (.invokevirtual 150, 3) := by decide +kernel
theorem dX2_spans_19 : decode cX2_spans 19 = .ok (.ifCond .eq 6, 3) := by decide +kernel
theorem dX2_spans_22 : decode cX2_spans 22 = .ok (.iinc 1 1, 3) := by decide +kernel
theorem dX2_spans_25 : decode cX2_spans 25 = .ok (.iinc 2 1, 3) := by decide +kernel
theorem dX2_spans_28 : decode cX2_spans 28 = .ok (.goto (-24), 3) := by decide +kernel
theorem dX2_spans_31 : decode cX2_spans 31 = .ok (.iload_n 1, 1) := by decide +kernel
theorem dX2_spans_32 : decode cX2_spans 32 = .ok (.ireturn, 1) := by decide +kernel
theorem dX2_startOfSpan_0 : decode cX2_startOfSpan 0 = .ok (.iconst 0, 1) := by decide +kernel
theorem dX2_startOfSpan_1 : decode cX2_startOfSpan 1 = .ok (.istore_n 2, 1) := by decide +kernel
theorem dX2_startOfSpan_2 : decode cX2_startOfSpan 2 = .ok (.iconst 0, 1) := by decide +kernel
theorem dX2_startOfSpan_3 : decode cX2_startOfSpan 3 = .ok (.istore_n 3, 1) := by decide +kernel
theorem dX2_startOfSpan_4 : decode cX2_startOfSpan 4 = .ok (.iload_n 3, 1) := by decide +kernel
theorem dX2_startOfSpan_5 : decode cX2_startOfSpan 5 = .ok (.aload_n 0, 1) := by decide +kernel
theorem dX2_startOfSpan_6 : decode cX2_startOfSpan 6 = .ok (.getfield 9, 3) := by decide +kernel
theorem dX2_startOfSpan_9 : decode cX2_startOfSpan 9 = .ok (.iconst 3, 1) := by decide +kernel
theorem dX2_startOfSpan_10 : decode cX2_startOfSpan 10 = .ok (.iaload, 1) := by decide +kernel
theorem dX2_startOfSpan_11 : decode cX2_startOfSpan 11 = .ok (.if_icmp .ge 27, 3) := by decide +kernel
theorem dX2_startOfSpan_14 : decode cX2_startOfSpan 14 = .ok (.aload_n 0, 1) := by decide +kernel
theorem dX2_startOfSpan_15 : decode cX2_startOfSpan 15 = .ok (.iload_n 3, 1) := by decide +kernel
theorem dX2_startOfSpan_16 : decode cX2_startOfSpan 16 = .ok (.invokevirtual 150, 3) := by decide +kernel
theorem dX2_startOfSpan_19 : decode cX2_startOfSpan 19 = .ok (.ifCond .eq 13, 3) := by decide +kernel
theorem dX2_startOfSpan_22 : decode cX2_startOfSpan 22 = .ok (.iload_n 2, 1) := by decide +kernel
theorem dX2_startOfSpan_23 : decode cX2_startOfSpan 23 = .ok (.iload_n 1, 1) := by decide +kernel
theorem dX2_startOfSpan_24 : decode cX2_startOfSpan 24 = .ok (.if_icmp .ne 5, 3) := by decide +kernel
theorem dX2_startOfSpan_27 : decode cX2_startOfSpan 27 = .ok (.iload_n 3, 1) := by decide +kernel
theorem dX2_startOfSpan_28 : decode cX2_startOfSpan 28 = .ok (.ireturn, 1) := by decide +kernel
theorem dX2_startOfSpan_29 : decode cX2_startOfSpan 29 = .ok (.iinc 2 1, 3) := by decide +kernel
theorem dX2_startOfSpan_32 : decode cX2_startOfSpan 32 = .ok (.iinc 3 1, 3) := by decide +kernel
theorem dX2_startOfSpan_35 : decode cX2_startOfSpan 35 = .ok (.goto (-31), 3) := by decide +kernel
theorem dX2_startOfSpan_38 : decode cX2_startOfSpan 38 = .ok (.iconst (-1), 1) := by decide +kernel
theorem dX2_startOfSpan_39 : decode cX2_startOfSpan 39 = .ok (.ireturn, 1) := by decide +kernel
theorem dX2_startsSpan_0 : decode cX2_startsSpan 0 = .ok (.aload_n 0, 1) := by decide +kernel
theorem dX2_startsSpan_1 : decode cX2_startsSpan 1 = .ok (.getfield 15, 3) := by decide +kernel
theorem dX2_startsSpan_4 : decode cX2_startsSpan 4 = .ok (.iload_n 1, 1) := by decide +kernel
theorem dX2_startsSpan_5 : decode cX2_startsSpan 5 = .ok (.iaload, 1) := by decide +kernel
theorem dX2_startsSpan_6 : decode cX2_startsSpan 6 = .ok (.iconst (-1), 1) := by decide +kernel
theorem dX2_startsSpan_7 : decode cX2_startsSpan 7 = .ok (.if_icmp .ne 23, 3) := by decide +kernel
theorem dX2_startsSpan_10 : decode cX2_startsSpan 10 = .ok (.iload_n 1, 1) := by decide +kernel
theorem dX2_startsSpan_11 : decode cX2_startsSpan 11 = .ok (.ifCond .eq 15, 3) := by decide +kernel
theorem dX2_startsSpan_14 : decode cX2_startsSpan 14 = .ok (.aload_n 0, 1) := by decide +kernel
theorem dX2_startsSpan_15 : decode cX2_startsSpan 15 = .ok (.getfield 15, 3) := by decide +kernel
theorem dX2_startsSpan_18 : decode cX2_startsSpan 18 = .ok (.iload_n 1, 1) := by decide +kernel
theorem dX2_startsSpan_19 : decode cX2_startsSpan 19 = .ok (.iconst 1, 1) := by decide +kernel
theorem dX2_startsSpan_20 : decode cX2_startsSpan 20 = .ok (.isub, 1) := by decide +kernel
theorem dX2_startsSpan_21 : decode cX2_startsSpan 21 = .ok (.iaload, 1) := by decide +kernel
theorem dX2_startsSpan_22 : decode cX2_startsSpan 22 = .ok (.iconst (-1), 1) := by decide +kernel
theorem dX2_startsSpan_23 : decode cX2_startsSpan 23 = .ok (.if_icmp .eq 7, 3) := by decide +kernel
theorem dX2_startsSpan_26 : decode cX2_startsSpan 26 = .ok (.iconst 1, 1) := by decide +kernel
theorem dX2_startsSpan_27 : decode cX2_startsSpan 27 = .ok (.goto 4, 3) := by decide +kernel
theorem dX2_startsSpan_30 : decode cX2_startsSpan 30 = .ok (.iconst 0, 1) := by decide +kernel
theorem dX2_startsSpan_31 : decode cX2_startsSpan 31 = .ok (.ireturn, 1) := by decide +kernel
theorem dX3_init_0 : decode cX3_init 0 = .ok (.aload_n 0, 1) := by decide +kernel
theorem dX3_init_1 : decode cX3_init 1 = .ok (.invokespecial 3, 3) := by decide +kernel
theorem dX3_init_4 : decode cX3_init 4 = .ok (.aload_n 0, 1) := by decide +kernel
theorem dX3_init_5 : decode cX3_init 5 = .ok (.bipush 6, 2) := by decide +kernel
theorem dX3_init_7 : decode cX3_init 7 = .ok (.anewarray 9, 3) := by decide +kernel
theorem dX3_init_10 : decode cX3_init 10 = .ok (.putfield 11, 3) := by decide +kernel
theorem dX3_init_13 : decode cX3_init 13 = .ok (.iconst 0, 1) := by decide +kernel
theorem dX3_init_14 : decode cX3_init 14 = .ok (.istore_n 1, 1) := by decide +kernel
theorem dX3_init_15 : decode cX3_init 15 = .ok (.iload_n 1, 1) := by decide +kernel
theorem dX3_init_16 : decode cX3_init 16 = .ok (.bipush 6, 2) := by decide +kernel
theorem dX3_init_18 : decode cX3_init 18 = .ok (.if_icmp .ge 22, 3) := by decide +kernel
theorem dX3_init_21 : decode cX3_init 21 = .ok (.aload_n 0, 1) := by decide +kernel
theorem dX3_init_22 : decode cX3_init 22 = .ok (.getfield 11, 3) := by decide +kernel
theorem dX3_init_25 : decode cX3_init 25 = .ok (.iload_n 1, 1) := by decide +kernel
theorem dX3_init_26 : decode cX3_init 26 = .ok (.new 9, 3) := by decide +kernel
theorem dX3_init_29 : decode cX3_init 29 = .ok (.dup, 1) := by decide +kernel
theorem dX3_init_30 : decode cX3_init 30 = .ok (.invokespecial 17, 3) := by decide +kernel
theorem dX3_init_33 : decode cX3_init 33 = .ok (.aastore, 1) := by decide +kernel
theorem dX3_init_34 : decode cX3_init 34 = .ok (.iinc 1 1, 3) := by decide +kernel
theorem dX3_init_37 : decode cX3_init 37 = .ok (.goto (-22), 3) := by decide +kernel
theorem dX3_init_40 : decode cX3_init 40 = .ok (.return_, 1) := by decide +kernel
theorem dX3_keep_0 : decode cX3_keep 0 = .ok (.aload_n 0, 1) := by decide +kernel
theorem dX3_keep_1 : decode cX3_keep 1 = .ok (.getfield 18, 3) := by decide +kernel
theorem dX3_keep_4 : decode cX3_keep 4 = .ok (.bipush 6, 2) := by decide +kernel
theorem dX3_keep_6 : decode cX3_keep 6 = .ok (.if_icmp .ne 7, 3) := by decide +kernel
theorem dX3_keep_9 : decode cX3_keep 9 = .ok (.aload_n 0, 1) := by decide +kernel
theorem dX3_keep_10 : decode cX3_keep 10 = .ok (.invokevirtual 22, 3) := by decide +kernel
theorem dX3_keep_13 : decode cX3_keep 13 = .ok (.aload_n 0, 1) := by decide +kernel
theorem dX3_keep_14 : decode cX3_keep 14 = .ok (.getfield 11, 3) := by decide +kernel
theorem dX3_keep_17 : decode cX3_keep 17 = .ok (.aload_n 0, 1) := by decide +kernel
theorem dX3_keep_18 : decode cX3_keep 18 = .ok (.getfield 18, 3) := by decide +kernel
theorem dX3_keep_21 : decode cX3_keep 21 = .ok (.aaload, 1) := by decide +kernel
theorem dX3_keep_22 : decode cX3_keep 22 = .ok (.astore_n 2, 1) := by decide +kernel
theorem dX3_keep_23 : decode cX3_keep 23 = .ok (.aload_n 2, 1) := by decide +kernel
theorem dX3_keep_24 : decode cX3_keep 24 = .ok (.ifnull 18, 3) := by decide +kernel
theorem dX3_keep_27 : decode cX3_keep 27 = .ok (.aload_n 2, 1) := by decide +kernel
theorem dX3_keep_28 : decode cX3_keep 28 = .ok (.aload_n 1, 1) := by decide +kernel
theorem dX3_keep_29 : decode cX3_keep 29 = .ok (.invokevirtual 25, 3) := by decide +kernel
theorem dX3_keep_32 : decode cX3_keep 32 = .ok (.aload_n 0, 1) := by decide +kernel
theorem dX3_keep_33 : decode cX3_keep 33 = .ok (.dup, 1) := by decide +kernel
theorem dX3_keep_34 : decode cX3_keep 34 = .ok (.getfield 18, 3) := by decide +kernel
theorem dX3_keep_37 : decode cX3_keep 37 = .ok (.iconst 1, 1) := by decide +kernel
theorem dX3_keep_38 : decode cX3_keep 38 = .ok (.iadd, 1) := by decide +kernel
theorem dX3_keep_39 : decode cX3_keep 39 = .ok (.putfield 18, 3) := by decide +kernel
theorem dX3_keep_42 : decode cX3_keep 42 = .ok (.return_, 1) := by decide +kernel
theorem dX3_restore_0 : decode cX3_restore 0 = .ok (.aload_n 0, 1) := by decide +kernel
theorem dX3_restore_1 : decode cX3_restore 1 = .ok (.getfield 18, 3) := by decide +kernel
theorem dX3_restore_4 : decode cX3_restore 4 = .ok (.ifCond .ne 4, 3) := by decide +kernel
theorem dX3_restore_7 : decode cX3_restore 7 = .ok (.return_, 1) := by decide +kernel
theorem dX3_restore_8 : decode cX3_restore 8 = .ok (.aload_n 0, 1) := by decide +kernel
theorem dX3_restore_9 : decode cX3_restore 9 = .ok (.dup, 1) := by decide +kernel
theorem dX3_restore_10 : decode cX3_restore 10 = .ok (.getfield 18, 3) := by decide +kernel
theorem dX3_restore_13 : decode cX3_restore 13 = .ok (.iconst 1, 1) := by decide +kernel
theorem dX3_restore_14 : decode cX3_restore 14 = .ok (.isub, 1) := by decide +kernel
theorem dX3_restore_15 : decode cX3_restore 15 = .ok (.putfield 18, 3) := by decide +kernel
theorem dX3_restore_18 : decode cX3_restore 18 = .ok (.aload_n 0, 1) := by decide +kernel
theorem dX3_restore_19 : decode cX3_restore 19 = .ok (.getfield 11, 3) := by decide +kernel
theorem dX3_restore_22 : decode cX3_restore 22 = .ok (.aload_n 0, 1) := by decide +kernel
theorem dX3_restore_23 : decode cX3_restore 23 = .ok (.getfield 18, 3) := by decide +kernel
theorem dX3_restore_26 : decode cX3_restore 26 = .ok (.aaload, 1) := by decide +kernel
theorem dX3_restore_27 : decode cX3_restore 27 = .ok (.astore_n 2, 1) := by decide +kernel
theorem dX3_restore_28 : decode cX3_restore 28 = .ok (.aload_n 2, 1) := by decide +kernel
theorem dX3_restore_29 : decode cX3_restore 29 = .ok (.ifnull 8, 3) := by decide +kernel
theorem dX3_restore_32 : decode cX3_restore 32 = .ok (.aload_n 1, 1) := by decide +kernel
theorem dX3_restore_33 : decode cX3_restore 33 = .ok (.aload_n 2, 1) := by decide +kernel
theorem dX3_restore_34 : decode cX3_restore 34 = .ok (.invokevirtual 25, 3) := by decide +kernel
theorem dX3_restore_37 : decode cX3_restore 37 = .ok (.return_, 1) := by decide +kernel
theorem dX3_dropOldest_0 : decode cX3_dropOldest 0 = .ok (.aload_n 0, 1) := by decide +kernel
theorem dX3_dropOldest_1 : decode cX3_dropOldest 1 = .ok (.getfield 11, 3) := by decide +kernel
theorem dX3_dropOldest_4 : decode cX3_dropOldest 4 = .ok (.iconst 0, 1) := by decide +kernel
theorem dX3_dropOldest_5 : decode cX3_dropOldest 5 = .ok (.aaload, 1) := by decide +kernel
theorem dX3_dropOldest_6 : decode cX3_dropOldest 6 = .ok (.astore_n 1, 1) := by decide +kernel
theorem dX3_dropOldest_7 : decode cX3_dropOldest 7 = .ok (.iconst 1, 1) := by decide +kernel
theorem dX3_dropOldest_8 : decode cX3_dropOldest 8 = .ok (.istore_n 2, 1) := by decide +kernel
theorem dX3_dropOldest_9 : decode cX3_dropOldest 9 = .ok (.iload_n 2, 1) := by decide +kernel
theorem dX3_dropOldest_10 : decode cX3_dropOldest 10 = .ok (.bipush 6, 2) := by decide +kernel
theorem dX3_dropOldest_12 : decode cX3_dropOldest 12 = .ok (.if_icmp .ge 23, 3) := by decide +kernel
theorem dX3_dropOldest_15 : decode cX3_dropOldest 15 = .ok (.aload_n 0, 1) := by decide +kernel
theorem dX3_dropOldest_16 : decode cX3_dropOldest 16 = .ok (.getfield 11, 3) := by decide +kernel
theorem dX3_dropOldest_19 : decode cX3_dropOldest 19 = .ok (.iload_n 2, 1) := by decide +kernel
theorem dX3_dropOldest_20 : decode cX3_dropOldest 20 = .ok (.iconst 1, 1) := by decide +kernel
theorem dX3_dropOldest_21 : decode cX3_dropOldest 21 = .ok (.isub, 1) := by decide +kernel
theorem dX3_dropOldest_22 : decode cX3_dropOldest 22 = .ok (.aload_n 0, 1) := by decide +kernel
theorem dX3_dropOldest_23 : decode cX3_dropOldest 23 = .ok (.getfield 11, 3) := by decide +kernel
theorem dX3_dropOldest_26 : decode cX3_dropOldest 26 = .ok (.iload_n 2, 1) := by decide +kernel
theorem dX3_dropOldest_27 : decode cX3_dropOldest 27 = .ok (.aaload, 1) := by decide +kernel
theorem dX3_dropOldest_28 : decode cX3_dropOldest 28 = .ok (.aastore, 1) := by decide +kernel
theorem dX3_dropOldest_29 : decode cX3_dropOldest 29 = .ok (.iinc 2 1, 3) := by decide +kernel
theorem dX3_dropOldest_32 : decode cX3_dropOldest 32 = .ok (.goto (-23), 3) := by decide +kernel
theorem dX3_dropOldest_35 : decode cX3_dropOldest 35 = .ok (.aload_n 0, 1) := by decide +kernel
theorem dX3_dropOldest_36 : decode cX3_dropOldest 36 = .ok (.getfield 11, 3) := by decide +kernel
theorem dX3_dropOldest_39 : decode cX3_dropOldest 39 = .ok (.iconst 5, 1) := by decide +kernel
theorem dX3_dropOldest_40 : decode cX3_dropOldest 40 = .ok (.aload_n 1, 1) := by decide +kernel
theorem dX3_dropOldest_41 : decode cX3_dropOldest 41 = .ok (.aastore, 1) := by decide +kernel
theorem dX3_dropOldest_42 : decode cX3_dropOldest 42 = .ok (.aload_n 0, 1) := by decide +kernel
theorem dX3_dropOldest_43 : decode cX3_dropOldest 43 = .ok (.dup, 1) := by decide +kernel
theorem dX3_dropOldest_44 : decode cX3_dropOldest 44 = .ok (.getfield 18, 3) := by decide +kernel
theorem dX3_dropOldest_47 : decode cX3_dropOldest 47 = .ok (.iconst 1, 1) := by decide +kernel
theorem dX3_dropOldest_48 : decode cX3_dropOldest 48 = .ok (.isub, 1) := by decide +kernel
theorem dX3_dropOldest_49 : decode cX3_dropOldest 49 = .ok (.putfield 18, 3) := by decide +kernel
theorem dX3_dropOldest_52 : decode cX3_dropOldest 52 = .ok (.return_, 1) := by decide +kernel
theorem dX4_init_0 : decode cX4_init 0 = .ok (.aload_n 0, 1) := by decide +kernel
theorem dX4_init_1 : decode cX4_init 1 = .ok (.invokespecial 1, 3) := by decide +kernel
theorem dX4_init_4 : decode cX4_init 4 = .ok (.aload_n 0, 1) := by decide +kernel
theorem dX4_init_5 : decode cX4_init 5 = .ok (.new 7, 3) := by decide +kernel
theorem dX4_init_8 : decode cX4_init 8 = .ok (.dup, 1) := by decide +kernel
theorem dX4_init_9 : decode cX4_init 9 = .ok (.invokespecial 9, 3) := by decide +kernel
theorem dX4_init_12 : decode cX4_init 12 = .ok (.putfield 10, 3) := by decide +kernel
theorem dX4_init_15 : decode cX4_init 15 = .ok (.aload_n 0, 1) := by decide +kernel
theorem dX4_init_16 : decode cX4_init 16 = .ok (.new 7, 3) := by decide +kernel
theorem dX4_init_19 : decode cX4_init 19 = .ok (.dup, 1) := by decide +kernel
theorem dX4_init_20 : decode cX4_init 20 = .ok (.invokespecial 9, 3) := by decide +kernel
theorem dX4_init_23 : decode cX4_init 23 = .ok (.putfield 16, 3) := by decide +kernel
theorem dX4_init_26 : decode cX4_init 26 = .ok (.aload_n 0, 1) := by decide +kernel
theorem dX4_init_27 : decode cX4_init 27 = .ok (.new 19, 3) := by decide +kernel
theorem dX4_init_30 : decode cX4_init 30 = .ok (.dup, 1) := by decide +kernel
theorem dX4_init_31 : decode cX4_init 31 = .ok (.invokespecial 21, 3) := by decide +kernel
theorem dX4_init_34 : decode cX4_init 34 = .ok (.putfield 22, 3) := by decide +kernel
theorem dX4_init_37 : decode cX4_init 37 = .ok (.aload_n 0, 1) := by decide +kernel
theorem dX4_init_38 : decode cX4_init 38 = .ok (.new 26, 3) := by decide +kernel
theorem dX4_init_41 : decode cX4_init 41 = .ok (.dup, 1) := by decide +kernel
theorem dX4_init_42 : decode cX4_init 42 = .ok (.invokespecial 28, 3) := by decide +kernel
theorem dX4_init_45 : decode cX4_init 45 = .ok (.putfield 29, 3) := by decide +kernel
theorem dX4_init_48 : decode cX4_init 48 = .ok (.return_, 1) := by decide +kernel
theorem dX4_take_0 : decode cX4_take 0 = .ok (.aload_n 0, 1) := by decide +kernel
theorem dX4_take_1 : decode cX4_take 1 = .ok (.iload_n 1, 1) := by decide +kernel
theorem dX4_take_2 : decode cX4_take 2 = .ok (.iconst 1, 1) := by decide +kernel
theorem dX4_take_3 : decode cX4_take 3 = .ok (.iload_n 2, 1) := by decide +kernel
theorem dX4_take_4 : decode cX4_take 4 = .ok (.invokevirtual 33, 3) := by decide +kernel
theorem dX4_take_7 : decode cX4_take 7 = .ok (.ireturn, 1) := by decide +kernel
theorem dX4_takeSpan_0 : decode cX4_takeSpan 0 = .ok (.aload_n 0, 1) := by decide +kernel
theorem dX4_takeSpan_1 : decode cX4_takeSpan 1 = .ok (.iload_n 1, 1) := by decide +kernel
theorem dX4_takeSpan_2 : decode cX4_takeSpan 2 = .ok (.iload_n 2, 1) := by decide +kernel
theorem dX4_takeSpan_3 : decode cX4_takeSpan 3 = .ok (.iload_n 3, 1) := by decide +kernel
theorem dX4_takeSpan_4 : decode cX4_takeSpan 4 = .ok (.invokevirtual 33, 3) := by decide +kernel
theorem dX4_takeSpan_7 : decode cX4_takeSpan 7 = .ok (.ireturn, 1) := by decide +kernel
theorem dX4_wish_0 : decode cX4_wish 0 = .ok (.iload_n 1, 1) := by decide +kernel
theorem dX4_wish_1 : decode cX4_wish 1 = .ok (.invokestatic 37, 3) := by decide +kernel
theorem dX4_wish_4 : decode cX4_wish 4 = .ok (.aload_n 0, 1) := by decide +kernel
theorem dX4_wish_5 : decode cX4_wish 5 = .ok (.iload_n 2, 1) := by decide +kernel
theorem dX4_wish_6 : decode cX4_wish 6 = .ok (.invokevirtual 41, 3) := by decide +kernel
theorem dX4_wish_9 : decode cX4_wish 9 = .ok (.iload_n 3, 1) := by decide +kernel
theorem dX4_wish_10 : decode cX4_wish 10 = .ok (.iconst 1, 1) := by decide +kernel
theorem dX4_wish_11 : decode cX4_wish 11 = .ok (.sipush 999, 3) := by decide +kernel
theorem dX4_wish_14 : decode cX4_wish 14 = .ok (.invokestatic 44, 3) := by decide +kernel
theorem dX4_wish_17 : decode cX4_wish 17 = .ok (.aload_n 0, 1) := by decide +kernel
theorem dX4_wish_18 : decode cX4_wish 18 = .ok (.getfield 10, 3) := by decide +kernel
theorem dX4_wish_21 : decode cX4_wish 21 = .ok (.iload_n 1, 1) := by decide +kernel
theorem dX4_wish_22 : decode cX4_wish 22 = .ok (.iload_n 2, 1) := by decide +kernel
theorem dX4_wish_23 : decode cX4_wish 23 = .ok (.invokevirtual 48, 3) := by decide +kernel
theorem dX4_wish_26 : decode cX4_wish 26 = .ok (.invokestatic 52, 3) := by decide +kernel
theorem dX4_wish_29 : decode cX4_wish 29 = .ok (.aload_n 0, 1) := by decide +kernel
theorem dX4_wish_30 : decode cX4_wish 30 = .ok (.getfield 22, 3) := by decide +kernel
theorem dX4_wish_33 : decode cX4_wish 33 = .ok (.aload_n 0, 1) := by decide +kernel
theorem dX4_wish_34 : decode cX4_wish 34 = .ok (.getfield 10, 3) := by decide +kernel
theorem dX4_wish_37 : decode cX4_wish 37 = .ok (.invokevirtual 56, 3) := by decide +kernel
theorem dX4_wish_40 : decode cX4_wish 40 = .ok (.aload_n 0, 1) := by decide +kernel
theorem dX4_wish_41 : decode cX4_wish 41 = .ok (.getfield 10, 3) := by decide +kernel
theorem dX4_wish_44 : decode cX4_wish 44 = .ok (.iload_n 1, 1) := by decide +kernel
theorem dX4_wish_45 : decode cX4_wish 45 = .ok (.iload_n 2, 1) := by decide +kernel
theorem dX4_wish_46 : decode cX4_wish 46 = .ok (.iload_n 3, 1) := by decide +kernel
theorem dX4_wish_47 : decode cX4_wish 47 = .ok (.invokevirtual 60, 3) := by decide +kernel
theorem dX4_wish_50 : decode cX4_wish 50 = .ok (.ireturn, 1) := by decide +kernel
theorem dX4_unwish_0 : decode cX4_unwish 0 = .ok (.iload_n 1, 1) := by decide +kernel
theorem dX4_unwish_1 : decode cX4_unwish 1 = .ok (.invokestatic 37, 3) := by decide +kernel
theorem dX4_unwish_4 : decode cX4_unwish 4 = .ok (.aload_n 0, 1) := by decide +kernel
theorem dX4_unwish_5 : decode cX4_unwish 5 = .ok (.iload_n 2, 1) := by decide +kernel
theorem dX4_unwish_6 : decode cX4_unwish 6 = .ok (.invokevirtual 41, 3) := by decide +kernel
theorem dX4_unwish_9 : decode cX4_unwish 9 = .ok (.aload_n 0, 1) := by decide +kernel
theorem dX4_unwish_10 : decode cX4_unwish 10 = .ok (.getfield 10, 3) := by decide +kernel
theorem dX4_unwish_13 : decode cX4_unwish 13 = .ok (.iload_n 1, 1) := by decide +kernel
theorem dX4_unwish_14 : decode cX4_unwish 14 = .ok (.iload_n 2, 1) := by decide +kernel
theorem dX4_unwish_15 : decode cX4_unwish 15 = .ok (.invokevirtual 63, 3) := by decide +kernel
theorem dX4_unwish_18 : decode cX4_unwish 18 = .ok (.istore_n 3, 1) := by decide +kernel
theorem dX4_unwish_19 : decode cX4_unwish 19 = .ok (.iload_n 3, 1) := by decide +kernel
theorem dX4_unwish_20 : decode cX4_unwish 20 = .ok (.iconst (-1), 1) := by decide +kernel
theorem dX4_unwish_21 : decode cX4_unwish 21 = .ok (.if_icmp .eq 7, 3) := by decide +kernel
theorem dX4_unwish_24 : decode cX4_unwish 24 = .ok (.iconst 1, 1) := by decide +kernel
theorem dX4_unwish_25 : decode cX4_unwish 25 = .ok (.goto 4, 3) := by decide +kernel
theorem dX4_unwish_28 : decode cX4_unwish 28 = .ok (.iconst 0, 1) := by decide +kernel
theorem dX4_unwish_29 : decode cX4_unwish 29 = .ok (.invokestatic 52, 3) := by decide +kernel
theorem dX4_unwish_32 : decode cX4_unwish 32 = .ok (.aload_n 0, 1) := by decide +kernel
theorem dX4_unwish_33 : decode cX4_unwish 33 = .ok (.getfield 22, 3) := by decide +kernel
theorem dX4_unwish_36 : decode cX4_unwish 36 = .ok (.aload_n 0, 1) := by decide +kernel
theorem dX4_unwish_37 : decode cX4_unwish 37 = .ok (.getfield 10, 3) := by decide +kernel
theorem dX4_unwish_40 : decode cX4_unwish 40 = .ok (.invokevirtual 56, 3) := by decide +kernel
theorem dX4_unwish_43 : decode cX4_unwish 43 = .ok (.aload_n 0, 1) := by decide +kernel
theorem dX4_unwish_44 : decode cX4_unwish 44 = .ok (.getfield 10, 3) := by decide +kernel
theorem dX4_unwish_47 : decode cX4_unwish 47 = .ok (.iload_n 2, 1) := by decide +kernel
theorem dX4_unwish_48 : decode cX4_unwish 48 = .ok (.iload_n 3, 1) := by decide +kernel
theorem dX4_unwish_49 : decode cX4_unwish 49 = .ok (.invokevirtual 67, 3) := by decide +kernel
theorem dX4_unwish_52 : decode cX4_unwish 52 = .ok (.aload_n 0, 1) := by decide +kernel
theorem dX4_unwish_53 : decode cX4_unwish 53 = .ok (.getfield 10, 3) := by decide +kernel
theorem dX4_unwish_56 : decode cX4_unwish 56 = .ok (.getfield 71, 3) := by decide +kernel
theorem dX4_unwish_59 : decode cX4_unwish 59 = .ok (.iload_n 2, 1) := by decide +kernel
theorem dX4_unwish_60 : decode cX4_unwish 60 = .ok (.iaload, 1) := by decide +kernel
theorem dX4_unwish_61 : decode cX4_unwish 61 = .ok (.ireturn, 1) := by decide +kernel
theorem dX4_renew_0 : decode cX4_renew 0 = .ok (.iload_n 1, 1) := by decide +kernel
theorem dX4_renew_1 : decode cX4_renew 1 = .ok (.invokestatic 37, 3) := by decide +kernel
theorem dX4_renew_4 : decode cX4_renew 4 = .ok (.aload_n 0, 1) := by decide +kernel
theorem dX4_renew_5 : decode cX4_renew 5 = .ok (.iload_n 2, 1) := by decide +kernel
theorem dX4_renew_6 : decode cX4_renew 6 = .ok (.invokevirtual 41, 3) := by decide +kernel
theorem dX4_renew_9 : decode cX4_renew 9 = .ok (.iload_n 3, 1) := by decide +kernel
theorem dX4_renew_10 : decode cX4_renew 10 = .ok (.iconst 1, 1) := by decide +kernel
theorem dX4_renew_11 : decode cX4_renew 11 = .ok (.sipush 999, 3) := by decide +kernel
theorem dX4_renew_14 : decode cX4_renew 14 = .ok (.invokestatic 44, 3) := by decide +kernel
theorem dX4_renew_17 : decode cX4_renew 17 = .ok (.aload_n 0, 1) := by decide +kernel
theorem dX4_renew_18 : decode cX4_renew 18 = .ok (.getfield 10, 3) := by decide +kernel
theorem dX4_renew_21 : decode cX4_renew 21 = .ok (.iload_n 1, 1) := by decide +kernel
theorem dX4_renew_22 : decode cX4_renew 22 = .ok (.iload_n 2, 1) := by decide +kernel
theorem dX4_renew_23 : decode cX4_renew 23 = .ok (.invokevirtual 75, 3) := by decide +kernel
theorem dX4_renew_26 : decode cX4_renew 26 = .ok (.invokestatic 52, 3) := by decide +kernel
theorem dX4_renew_29 : decode cX4_renew 29 = .ok (.aload_n 0, 1) := by decide +kernel
theorem dX4_renew_30 : decode cX4_renew 30 = .ok (.getfield 22, 3) := by decide +kernel
theorem dX4_renew_33 : decode cX4_renew 33 = .ok (.aload_n 0, 1) := by decide +kernel
theorem dX4_renew_34 : decode cX4_renew 34 = .ok (.getfield 10, 3) := by decide +kernel
theorem dX4_renew_37 : decode cX4_renew 37 = .ok (.invokevirtual 56, 3) := by decide +kernel
theorem dX4_renew_40 : decode cX4_renew 40 = .ok (.aload_n 0, 1) := by decide +kernel
theorem dX4_renew_41 : decode cX4_renew 41 = .ok (.getfield 10, 3) := by decide +kernel
theorem dX4_renew_44 : decode cX4_renew 44 = .ok (.iload_n 2, 1) := by decide +kernel
theorem dX4_renew_45 : decode cX4_renew 45 = .ok (.iload_n 3, 1) := by decide +kernel
theorem dX4_renew_46 : decode cX4_renew 46 = .ok (.invokevirtual 78, 3) := by decide +kernel
theorem dX4_renew_49 : decode cX4_renew 49 = .ok (.ireturn, 1) := by decide +kernel
theorem dX4_giveBack_0 : decode cX4_giveBack 0 = .ok (.iload_n 1, 1) := by decide +kernel
theorem dX4_giveBack_1 : decode cX4_giveBack 1 = .ok (.invokestatic 37, 3) := by decide +kernel
theorem dX4_giveBack_4 : decode cX4_giveBack 4 = .ok (.aload_n 0, 1) := by decide +kernel
theorem dX4_giveBack_5 : decode cX4_giveBack 5 = .ok (.iload_n 2, 1) := by decide +kernel
theorem dX4_giveBack_6 : decode cX4_giveBack 6 = .ok (.invokevirtual 41, 3) := by decide +kernel
theorem dX4_giveBack_9 : decode cX4_giveBack 9 = .ok (.aload_n 0, 1) := by decide +kernel
theorem dX4_giveBack_10 : decode cX4_giveBack 10 = .ok (.iload_n 3, 1) := by decide +kernel
theorem dX4_giveBack_11 : decode cX4_giveBack 11 = .ok (.invokevirtual 41, 3) := by decide +kernel
theorem dX4_giveBack_14 : decode cX4_giveBack 14 = .ok (.iload_n 3, 1) := by decide +kernel
theorem dX4_giveBack_15 : decode cX4_giveBack 15 = .ok (.iload_n 2, 1) := by decide +kernel
theorem dX4_giveBack_16 : decode cX4_giveBack 16 = .ok (.bipush 64, 2) := by decide +kernel
theorem dX4_giveBack_18 : decode cX4_giveBack 18 = .ok (.invokestatic 44, 3) := by decide +kernel
theorem dX4_giveBack_21 : decode cX4_giveBack 21 = .ok (.aload_n 0, 1) := by decide +kernel
theorem dX4_giveBack_22 : decode cX4_giveBack 22 = .ok (.getfield 22, 3) := by decide +kernel
theorem dX4_giveBack_25 : decode cX4_giveBack 25 = .ok (.aload_n 0, 1) := by decide +kernel
theorem dX4_giveBack_26 : decode cX4_giveBack 26 = .ok (.getfield 10, 3) := by decide +kernel
theorem dX4_giveBack_29 : decode cX4_giveBack 29 = .ok (.invokevirtual 56, 3) := by decide +kernel
theorem dX4_giveBack_32 : decode cX4_giveBack 32 = .ok (.aload_n 0, 1) := by decide +kernel
theorem dX4_giveBack_33 : decode cX4_giveBack 33 = .ok (.getfield 10, 3) := by decide +kernel
theorem dX4_giveBack_36 : decode cX4_giveBack 36 = .ok (.iload_n 1, 1) := by decide +kernel
theorem dX4_giveBack_37 : decode cX4_giveBack 37 = .ok (.iload_n 2, 1) := by decide +kernel
theorem dX4_giveBack_38 : decode cX4_giveBack 38 = .ok (.iload_n 3, 1) := by decide +kernel
theorem dX4_giveBack_39 : decode cX4_giveBack 39 = .ok (.invokevirtual 81, 3) := by decide +kernel
theorem dX4_giveBack_42 : decode cX4_giveBack 42 = .ok (.ireturn, 1) := by decide +kernel
theorem dX4_pass_0 : decode cX4_pass 0 = .ok (.iload_n 1, 1) := by decide +kernel
theorem dX4_pass_1 : decode cX4_pass 1 = .ok (.iconst 1, 1) := by decide +kernel
theorem dX4_pass_2 : decode cX4_pass 2 = .ok (.bipush 99, 2) := by decide +kernel
theorem dX4_pass_4 : decode cX4_pass 4 = .ok (.invokestatic 44, 3) := by decide +kernel
theorem dX4_pass_7 : decode cX4_pass 7 = .ok (.aload_n 0, 1) := by decide +kernel
theorem dX4_pass_8 : decode cX4_pass 8 = .ok (.getfield 10, 3) := by decide +kernel
theorem dX4_pass_11 : decode cX4_pass 11 = .ok (.iload_n 1, 1) := by decide +kernel
theorem dX4_pass_12 : decode cX4_pass 12 = .ok (.invokevirtual 84, 3) := by decide +kernel
theorem dX4_pass_15 : decode cX4_pass 15 = .ok (.invokestatic 52, 3) := by decide +kernel
theorem dX4_pass_18 : decode cX4_pass 18 = .ok (.aload_n 0, 1) := by decide +kernel
theorem dX4_pass_19 : decode cX4_pass 19 = .ok (.getfield 22, 3) := by decide +kernel
theorem dX4_pass_22 : decode cX4_pass 22 = .ok (.aload_n 0, 1) := by decide +kernel
theorem dX4_pass_23 : decode cX4_pass 23 = .ok (.getfield 10, 3) := by decide +kernel
theorem dX4_pass_26 : decode cX4_pass 26 = .ok (.invokevirtual 56, 3) := by decide +kernel
theorem dX4_pass_29 : decode cX4_pass 29 = .ok (.aload_n 0, 1) := by decide +kernel
theorem dX4_pass_30 : decode cX4_pass 30 = .ok (.getfield 10, 3) := by decide +kernel
theorem dX4_pass_33 : decode cX4_pass 33 = .ok (.iload_n 1, 1) := by decide +kernel
theorem dX4_pass_34 : decode cX4_pass 34 = .ok (.invokevirtual 88, 3) := by decide +kernel
theorem dX4_pass_37 : decode cX4_pass 37 = .ok (.ireturn, 1) := by decide +kernel
theorem dX4_set_0 : decode cX4_set 0 = .ok (.iload_n 1, 1) := by decide +kernel
theorem dX4_set_1 : decode cX4_set 1 = .ok (.invokestatic 92, 3) := by decide +kernel
theorem dX4_set_4 : decode cX4_set 4 = .ok (.iload_n 2, 1) := by decide +kernel
theorem dX4_set_5 : decode cX4_set 5 = .ok (.getstatic 95, 3) := by decide +kernel
theorem dX4_set_8 : decode cX4_set 8 = .ok (.iload_n 1, 1) := by decide +kernel
theorem dX4_set_9 : decode cX4_set 9 = .ok (.iaload, 1) := by decide +kernel
theorem dX4_set_10 : decode cX4_set 10 = .ok (.getstatic 98, 3) := by decide +kernel
theorem dX4_set_13 : decode cX4_set 13 = .ok (.iload_n 1, 1) := by decide +kernel
theorem dX4_set_14 : decode cX4_set 14 = .ok (.iaload, 1) := by decide +kernel
theorem dX4_set_15 : decode cX4_set 15 = .ok (.invokestatic 44, 3) := by decide +kernel
theorem dX4_set_18 : decode cX4_set 18 = .ok (.iload_n 1, 1) := by decide +kernel
theorem dX4_set_19 : decode cX4_set 19 = .ok (.iconst 3, 1) := by decide +kernel
theorem dX4_set_20 : decode cX4_set 20 = .ok (.if_icmp .ne 14, 3) := by decide +kernel
theorem dX4_set_23 : decode cX4_set 23 = .ok (.aload_n 0, 1) := by decide +kernel
theorem dX4_set_24 : decode cX4_set 24 = .ok (.getfield 10, 3) := by decide +kernel
theorem dX4_set_27 : decode cX4_set 27 = .ok (.iload_n 2, 1) := by decide +kernel
theorem dX4_set_28 : decode cX4_set 28 = .ok (.invokevirtual 101, 3) := by decide +kernel
theorem dX4_set_31 : decode cX4_set 31 = .ok (.ifCond .eq 7, 3) := by decide +kernel
theorem dX4_set_34 : decode cX4_set 34 = .ok (.iconst 1, 1) := by decide +kernel
theorem dX4_set_35 : decode cX4_set 35 = .ok (.goto 4, 3) := by decide +kernel
theorem dX4_set_38 : decode cX4_set 38 = .ok (.iconst 0, 1) := by decide +kernel
theorem dX4_set_39 : decode cX4_set 39 = .ok (.invokestatic 52, 3) := by decide +kernel
theorem dX4_set_42 : decode cX4_set 42 = .ok (.aload_n 0, 1) := by decide +kernel
theorem dX4_set_43 : decode cX4_set 43 = .ok (.getfield 22, 3) := by decide +kernel
theorem dX4_set_46 : decode cX4_set 46 = .ok (.aload_n 0, 1) := by decide +kernel
theorem dX4_set_47 : decode cX4_set 47 = .ok (.getfield 10, 3) := by decide +kernel
theorem dX4_set_50 : decode cX4_set 50 = .ok (.invokevirtual 56, 3) := by decide +kernel
theorem dX4_set_53 : decode cX4_set 53 = .ok (.aload_n 0, 1) := by decide +kernel
theorem dX4_set_54 : decode cX4_set 54 = .ok (.getfield 10, 3) := by decide +kernel
theorem dX4_set_57 : decode cX4_set 57 = .ok (.getfield 104, 3) := by decide +kernel
theorem dX4_set_60 : decode cX4_set 60 = .ok (.iload_n 1, 1) := by decide +kernel
theorem dX4_set_61 : decode cX4_set 61 = .ok (.iaload, 1) := by decide +kernel
theorem dX4_set_62 : decode cX4_set 62 = .ok (.istore_n 3, 1) := by decide +kernel
theorem dX4_set_63 : decode cX4_set 63 = .ok (.aload_n 0, 1) := by decide +kernel
theorem dX4_set_64 : decode cX4_set 64 = .ok (.getfield 10, 3) := by decide +kernel
theorem dX4_set_67 : decode cX4_set 67 = .ok (.getfield 104, 3) := by decide +kernel
theorem dX4_set_70 : decode cX4_set 70 = .ok (.iload_n 1, 1) := by decide +kernel
theorem dX4_set_71 : decode cX4_set 71 = .ok (.iload_n 2, 1) := by decide +kernel
theorem dX4_set_72 : decode cX4_set 72 = .ok (.iastore, 1) := by decide +kernel
theorem dX4_set_73 : decode cX4_set 73 = .ok (.iload_n 3, 1) := by decide +kernel
theorem dX4_set_74 : decode cX4_set 74 = .ok (.ireturn, 1) := by decide +kernel
theorem dX4_undo_0 : decode cX4_undo 0 = .ok (.aload_n 0, 1) := by decide +kernel
theorem dX4_undo_1 : decode cX4_undo 1 = .ok (.getfield 22, 3) := by decide +kernel
theorem dX4_undo_4 : decode cX4_undo 4 = .ok (.getfield 133, 3) := by decide +kernel
theorem dX4_undo_7 : decode cX4_undo 7 = .ok (.ifCond .le 7, 3) := by decide +kernel
theorem dX4_undo_10 : decode cX4_undo 10 = .ok (.iconst 1, 1) := by decide +kernel
theorem dX4_undo_11 : decode cX4_undo 11 = .ok (.goto 4, 3) := by decide +kernel
theorem dX4_undo_14 : decode cX4_undo 14 = .ok (.iconst 0, 1) := by decide +kernel
theorem dX4_undo_15 : decode cX4_undo 15 = .ok (.invokestatic 52, 3) := by decide +kernel
theorem dX4_undo_18 : decode cX4_undo 18 = .ok (.aload_n 0, 1) := by decide +kernel
theorem dX4_undo_19 : decode cX4_undo 19 = .ok (.getfield 22, 3) := by decide +kernel
theorem dX4_undo_22 : decode cX4_undo 22 = .ok (.aload_n 0, 1) := by decide +kernel
theorem dX4_undo_23 : decode cX4_undo 23 = .ok (.getfield 10, 3) := by decide +kernel
theorem dX4_undo_26 : decode cX4_undo 26 = .ok (.invokevirtual 136, 3) := by decide +kernel
theorem dX4_undo_29 : decode cX4_undo 29 = .ok (.aload_n 0, 1) := by decide +kernel
theorem dX4_undo_30 : decode cX4_undo 30 = .ok (.getfield 22, 3) := by decide +kernel
theorem dX4_undo_33 : decode cX4_undo 33 = .ok (.getfield 133, 3) := by decide +kernel
theorem dX4_undo_36 : decode cX4_undo 36 = .ok (.ireturn, 1) := by decide +kernel
theorem dX4_number_0 : decode cX4_number 0 = .ok (.aload_n 0, 1) := by decide +kernel
theorem dX4_number_1 : decode cX4_number 1 = .ok (.iload_n 1, 1) := by decide +kernel
theorem dX4_number_2 : decode cX4_number 2 = .ok (.invokevirtual 41, 3) := by decide +kernel
theorem dX4_number_5 : decode cX4_number 5 = .ok (.iload_n 2, 1) := by decide +kernel
theorem dX4_number_6 : decode cX4_number 6 = .ok (.iconst 0, 1) := by decide +kernel
theorem dX4_number_7 : decode cX4_number 7 = .ok (.bipush 8, 2) := by decide +kernel
theorem dX4_number_9 : decode cX4_number 9 = .ok (.invokestatic 44, 3) := by decide +kernel
theorem dX4_number_12 : decode cX4_number 12 = .ok (.aload_n 0, 1) := by decide +kernel
theorem dX4_number_13 : decode cX4_number 13 = .ok (.getfield 10, 3) := by decide +kernel
theorem dX4_number_16 : decode cX4_number 16 = .ok (.iload_n 1, 1) := by decide +kernel
theorem dX4_number_17 : decode cX4_number 17 = .ok (.iload_n 2, 1) := by decide +kernel
theorem dX4_number_18 : decode cX4_number 18 = .ok (.invokevirtual 139, 3) := by decide +kernel
theorem dX4_number_21 : decode cX4_number 21 = .ok (.ireturn, 1) := by decide +kernel
theorem dX4_holder_0 : decode cX4_holder 0 = .ok (.iload_n 1, 1) := by decide +kernel
theorem dX4_holder_1 : decode cX4_holder 1 = .ok (.invokestatic 37, 3) := by decide +kernel
theorem dX4_holder_4 : decode cX4_holder 4 = .ok (.iload_n 2, 1) := by decide +kernel
theorem dX4_holder_5 : decode cX4_holder 5 = .ok (.iconst 0, 1) := by decide +kernel
theorem dX4_holder_6 : decode cX4_holder 6 = .ok (.bipush 7, 2) := by decide +kernel
theorem dX4_holder_8 : decode cX4_holder 8 = .ok (.invokestatic 44, 3) := by decide +kernel
theorem dX4_holder_11 : decode cX4_holder 11 = .ok (.aload_n 0, 1) := by decide +kernel
theorem dX4_holder_12 : decode cX4_holder 12 = .ok (.getfield 10, 3) := by decide +kernel
theorem dX4_holder_15 : decode cX4_holder 15 = .ok (.iload_n 1, 1) := by decide +kernel
theorem dX4_holder_16 : decode cX4_holder 16 = .ok (.iload_n 2, 1) := by decide +kernel
theorem dX4_holder_17 : decode cX4_holder 17 = .ok (.invokevirtual 142, 3) := by decide +kernel
theorem dX4_holder_20 : decode cX4_holder 20 = .ok (.ireturn, 1) := by decide +kernel
theorem dX4_span_0 : decode cX4_span 0 = .ok (.iload_n 1, 1) := by decide +kernel
theorem dX4_span_1 : decode cX4_span 1 = .ok (.ifCond .ge 11, 3) := by decide +kernel
theorem dX4_span_4 : decode cX4_span 4 = .ok (.new 121, 3) := by decide +kernel
theorem dX4_span_7 : decode cX4_span 7 = .ok (.dup, 1) := by decide +kernel
theorem dX4_span_8 : decode cX4_span 8 = .ok (.invokespecial 123, 3) := by decide +kernel
theorem dX4_span_11 : decode cX4_span 11 = .ok (.athrow, 1) := by decide +kernel
theorem dX4_span_12 : decode cX4_span 12 = .ok (.iload_n 2, 1) := by decide +kernel
theorem dX4_span_13 : decode cX4_span 13 = .ok (.iconst 0, 1) := by decide +kernel
theorem dX4_span_14 : decode cX4_span 14 = .ok (.iconst 1, 1) := by decide +kernel
theorem dX4_span_15 : decode cX4_span 15 = .ok (.invokestatic 44, 3) := by decide +kernel
theorem dX4_span_18 : decode cX4_span 18 = .ok (.aload_n 0, 1) := by decide +kernel
theorem dX4_span_19 : decode cX4_span 19 = .ok (.getfield 10, 3) := by decide +kernel
theorem dX4_span_22 : decode cX4_span 22 = .ok (.iload_n 1, 1) := by decide +kernel
theorem dX4_span_23 : decode cX4_span 23 = .ok (.iload_n 2, 1) := by decide +kernel
theorem dX4_span_24 : decode cX4_span 24 = .ok (.invokevirtual 145, 3) := by decide +kernel
theorem dX4_span_27 : decode cX4_span 27 = .ok (.ireturn, 1) := by decide +kernel
theorem dX4_count_0 : decode cX4_count 0 = .ok (.iload_n 1, 1) := by decide +kernel
theorem dX4_count_1 : decode cX4_count 1 = .ok (.iconst 0, 1) := by decide +kernel
theorem dX4_count_2 : decode cX4_count 2 = .ok (.bipush 12, 2) := by decide +kernel
theorem dX4_count_4 : decode cX4_count 4 = .ok (.invokestatic 44, 3) := by decide +kernel
theorem dX4_count_7 : decode cX4_count 7 = .ok (.aload_n 0, 1) := by decide +kernel
theorem dX4_count_8 : decode cX4_count 8 = .ok (.iload_n 1, 1) := by decide +kernel
theorem dX4_count_9 : decode cX4_count 9 = .ok (.invokevirtual 148, 3) := by decide +kernel
theorem dX4_count_12 : decode cX4_count 12 = .ok (.ireturn, 1) := by decide +kernel
theorem dX4_setting_0 : decode cX4_setting 0 = .ok (.iload_n 1, 1) := by decide +kernel
theorem dX4_setting_1 : decode cX4_setting 1 = .ok (.invokestatic 92, 3) := by decide +kernel
theorem dX4_setting_4 : decode cX4_setting 4 = .ok (.aload_n 0, 1) := by decide +kernel
theorem dX4_setting_5 : decode cX4_setting 5 = .ok (.getfield 10, 3) := by decide +kernel
theorem dX4_setting_8 : decode cX4_setting 8 = .ok (.getfield 104, 3) := by decide +kernel
theorem dX4_setting_11 : decode cX4_setting 11 = .ok (.iload_n 1, 1) := by decide +kernel
theorem dX4_setting_12 : decode cX4_setting 12 = .ok (.iaload, 1) := by decide +kernel
theorem dX4_setting_13 : decode cX4_setting 13 = .ok (.ireturn, 1) := by decide +kernel
theorem dX4_whoAfter_0 : decode cX4_whoAfter 0 = .ok (.aload_n 0, 1) := by decide +kernel
theorem dX4_whoAfter_1 : decode cX4_whoAfter 1 = .ok (.iload_n 1, 1) := by decide +kernel
theorem dX4_whoAfter_2 : decode cX4_whoAfter 2 = .ok (.invokevirtual 41, 3) := by decide +kernel
theorem dX4_whoAfter_5 : decode cX4_whoAfter 5 = .ok (.iload_n 2, 1) := by decide +kernel
theorem dX4_whoAfter_6 : decode cX4_whoAfter 6 = .ok (.iconst 0, 1) := by decide +kernel
theorem dX4_whoAfter_7 : decode cX4_whoAfter 7 = .ok (.sipush 500, 3) := by decide +kernel
theorem dX4_whoAfter_10 : decode cX4_whoAfter 10 = .ok (.invokestatic 44, 3) := by decide +kernel
theorem dX4_whoAfter_13 : decode cX4_whoAfter 13 = .ok (.aload_n 0, 1) := by decide +kernel
theorem dX4_whoAfter_14 : decode cX4_whoAfter 14 = .ok (.iload_n 1, 1) := by decide +kernel
theorem dX4_whoAfter_15 : decode cX4_whoAfter 15 = .ok (.iload_n 2, 1) := by decide +kernel
theorem dX4_whoAfter_16 : decode cX4_whoAfter 16 = .ok (.invokevirtual 151, 3) := by decide +kernel
theorem dX4_whoAfter_19 : decode cX4_whoAfter 19 = .ok (.ireturn, 1) := by decide +kernel
theorem dX4_freeIn_0 : decode cX4_freeIn 0 = .ok (.iload_n 1, 1) := by decide +kernel
theorem dX4_freeIn_1 : decode cX4_freeIn 1 = .ok (.iconst 1, 1) := by decide +kernel
theorem dX4_freeIn_2 : decode cX4_freeIn 2 = .ok (.bipush 64, 2) := by decide +kernel
theorem dX4_freeIn_4 : decode cX4_freeIn 4 = .ok (.invokestatic 44, 3) := by decide +kernel
theorem dX4_freeIn_7 : decode cX4_freeIn 7 = .ok (.aload_n 0, 1) := by decide +kernel
theorem dX4_freeIn_8 : decode cX4_freeIn 8 = .ok (.iload_n 1, 1) := by decide +kernel
theorem dX4_freeIn_9 : decode cX4_freeIn 9 = .ok (.invokevirtual 154, 3) := by decide +kernel
theorem dX4_freeIn_12 : decode cX4_freeIn 12 = .ok (.ireturn, 1) := by decide +kernel
theorem dX4_wishedIn_0 : decode cX4_wishedIn 0 = .ok (.iload_n 1, 1) := by decide +kernel
theorem dX4_wishedIn_1 : decode cX4_wishedIn 1 = .ok (.invokestatic 37, 3) := by decide +kernel
theorem dX4_wishedIn_4 : decode cX4_wishedIn 4 = .ok (.aload_n 0, 1) := by decide +kernel
theorem dX4_wishedIn_5 : decode cX4_wishedIn 5 = .ok (.iload_n 2, 1) := by decide +kernel
theorem dX4_wishedIn_6 : decode cX4_wishedIn 6 = .ok (.invokevirtual 41, 3) := by decide +kernel
theorem dX4_wishedIn_9 : decode cX4_wishedIn 9 = .ok (.aload_n 0, 1) := by decide +kernel
theorem dX4_wishedIn_10 : decode cX4_wishedIn 10 = .ok (.iload_n 1, 1) := by decide +kernel
theorem dX4_wishedIn_11 : decode cX4_wishedIn 11 = .ok (.iload_n 2, 1) := by decide +kernel
theorem dX4_wishedIn_12 : decode cX4_wishedIn 12 = .ok (.invokevirtual 157, 3) := by decide +kernel
theorem dX4_wishedIn_15 : decode cX4_wishedIn 15 = .ok (.ireturn, 1) := by decide +kernel
theorem dX4_needHolder_0 : decode cX4_needHolder 0 = .ok (.iload_n 0, 1) := by decide +kernel
theorem dX4_needHolder_1 : decode cX4_needHolder 1 = .ok (.ifCond .lt 9, 3) := by decide +kernel
theorem dX4_needHolder_4 : decode cX4_needHolder 4 = .ok (.iload_n 0, 1) := by decide +kernel
theorem dX4_needHolder_5 : decode cX4_needHolder 5 = .ok (.bipush 8, 2) := by decide +kernel
theorem dX4_needHolder_7 : decode cX4_needHolder 7 = .ok (.if_icmp .lt 11, 3) := by decide +kernel
theorem dX4_needHolder_10 : decode cX4_needHolder 10 = .ok (.new 194, 3) := by decide +kernel
theorem dX4_needHolder_13 : decode cX4_needHolder 13 = .ok (.dup, 1) := by decide +kernel
theorem dX4_needHolder_14 : decode cX4_needHolder 14 = .ok (.invokespecial 196, 3) := by decide +kernel
theorem dX4_needHolder_17 : decode cX4_needHolder 17 = .ok (.athrow, 1) := by decide +kernel
theorem dX4_needHolder_18 : decode cX4_needHolder 18 = .ok (.return_, 1) := by decide +kernel
theorem dX4_needNumber_0 : decode cX4_needNumber 0 = .ok (.aload_n 0, 1) := by decide +kernel
theorem dX4_needNumber_1 : decode cX4_needNumber 1 = .ok (.getfield 10, 3) := by decide +kernel
theorem dX4_needNumber_4 : decode cX4_needNumber 4 = .ok (.iload_n 1, 1) := by decide +kernel
theorem dX4_needNumber_5 : decode cX4_needNumber 5 = .ok (.invokevirtual 197, 3) := by decide +kernel
theorem dX4_needNumber_8 : decode cX4_needNumber 8 = .ok (.ifCond .ne 11, 3) := by decide +kernel
theorem dX4_needNumber_11 : decode cX4_needNumber 11 = .ok (.new 194, 3) := by decide +kernel
theorem dX4_needNumber_14 : decode cX4_needNumber 14 = .ok (.dup, 1) := by decide +kernel
theorem dX4_needNumber_15 : decode cX4_needNumber 15 = .ok (.invokespecial 196, 3) := by decide +kernel
theorem dX4_needNumber_18 : decode cX4_needNumber 18 = .ok (.athrow, 1) := by decide +kernel
theorem dX4_needNumber_19 : decode cX4_needNumber 19 = .ok (.return_, 1) := by decide +kernel
theorem dX4_needSetting_0 : decode cX4_needSetting 0 = .ok (.iload_n 0, 1) := by decide +kernel
theorem dX4_needSetting_1 : decode cX4_needSetting 1 = .ok (.ifCond .lt 8, 3) := by decide +kernel
theorem dX4_needSetting_4 : decode cX4_needSetting 4 = .ok (.iload_n 0, 1) := by decide +kernel
theorem dX4_needSetting_5 : decode cX4_needSetting 5 = .ok (.iconst 4, 1) := by decide +kernel
theorem dX4_needSetting_6 : decode cX4_needSetting 6 = .ok (.if_icmp .lt 11, 3) := by decide +kernel
theorem dX4_needSetting_9 : decode cX4_needSetting 9 = .ok (.new 194, 3) := by decide +kernel
theorem dX4_needSetting_12 : decode cX4_needSetting 12 = .ok (.dup, 1) := by decide +kernel
theorem dX4_needSetting_13 : decode cX4_needSetting 13 = .ok (.invokespecial 196, 3) := by decide +kernel
theorem dX4_needSetting_16 : decode cX4_needSetting 16 = .ok (.athrow, 1) := by decide +kernel
theorem dX4_needSetting_17 : decode cX4_needSetting 17 = .ok (.return_, 1) := by decide +kernel
theorem dX4_needRange_0 : decode cX4_needRange 0 = .ok (.iload_n 0, 1) := by decide +kernel
theorem dX4_needRange_1 : decode cX4_needRange 1 = .ok (.iload_n 1, 1) := by decide +kernel
theorem dX4_needRange_2 : decode cX4_needRange 2 = .ok (.if_icmp .lt 8, 3) := by decide +kernel
theorem dX4_needRange_5 : decode cX4_needRange 5 = .ok (.iload_n 0, 1) := by decide +kernel
theorem dX4_needRange_6 : decode cX4_needRange 6 = .ok (.iload_n 2, 1) := by decide +kernel
theorem dX4_needRange_7 : decode cX4_needRange 7 = .ok (.if_icmp .le 11, 3) := by decide +kernel
theorem dX4_needRange_10 : decode cX4_needRange 10 = .ok (.new 121, 3) := by decide +kernel
theorem dX4_needRange_13 : decode cX4_needRange 13 = .ok (.dup, 1) := by decide +kernel
theorem dX4_needRange_14 : decode cX4_needRange 14 = .ok (.invokespecial 123, 3) := by decide +kernel
theorem dX4_needRange_17 : decode cX4_needRange 17 = .ok (.athrow, 1) := by decide +kernel
theorem dX4_needRange_18 : decode cX4_needRange 18 = .ok (.return_, 1) := by decide +kernel
theorem dX4_needState_0 : decode cX4_needState 0 = .ok (.iload_n 0, 1) := by decide +kernel
theorem dX4_needState_1 : decode cX4_needState 1 = .ok (.ifCond .ne 11, 3) := by decide +kernel
theorem dX4_needState_4 : decode cX4_needState 4 = .ok (.new 200, 3) := by decide +kernel
theorem dX4_needState_7 : decode cX4_needState 7 = .ok (.dup, 1) := by decide +kernel
theorem dX4_needState_8 : decode cX4_needState 8 = .ok (.invokespecial 202, 3) := by decide +kernel
theorem dX4_needState_11 : decode cX4_needState 11 = .ok (.athrow, 1) := by decide +kernel
theorem dX4_needState_12 : decode cX4_needState 12 = .ok (.return_, 1) := by decide +kernel
theorem dX4_leaseLowest_0 : decode cX4_leaseLowest 0 = .ok (.iload_n 1, 1) := by decide +kernel
theorem dX4_leaseLowest_1 : decode cX4_leaseLowest 1 = .ok (.invokestatic 37, 3) := by decide +kernel
theorem dX4_leaseLowest_4 : decode cX4_leaseLowest 4 = .ok (.iload_n 2, 1) := by decide +kernel
theorem dX4_leaseLowest_5 : decode cX4_leaseLowest 5 = .ok (.iconst 1, 1) := by decide +kernel
theorem dX4_leaseLowest_6 : decode cX4_leaseLowest 6 = .ok (.bipush 64, 2) := by decide +kernel
theorem dX4_leaseLowest_8 : decode cX4_leaseLowest 8 = .ok (.invokestatic 44, 3) := by decide +kernel
theorem dX4_leaseLowest_11 : decode cX4_leaseLowest 11 = .ok (.iload_n 3, 1) := by decide +kernel
theorem dX4_leaseLowest_12 : decode cX4_leaseLowest 12 = .ok (.iconst 1, 1) := by decide +kernel
theorem dX4_leaseLowest_13 : decode cX4_leaseLowest 13 = .ok (.sipush 999, 3) := by decide +kernel
theorem dX4_leaseLowest_16 : decode cX4_leaseLowest 16 = .ok (.invokestatic 44, 3) := by decide +kernel
theorem dX4_leaseLowest_19 : decode cX4_leaseLowest 19 = .ok (.aload_n 0, 1) := by decide +kernel
theorem dX4_leaseLowest_20 : decode cX4_leaseLowest 20 = .ok (.getfield 10, 3) := by decide +kernel
theorem dX4_leaseLowest_23 : decode cX4_leaseLowest 23 = .ok (.iload_n 1, 1) := by decide +kernel
theorem dX4_leaseLowest_24 : decode cX4_leaseLowest 24 = .ok (.iload_n 2, 1) := by decide +kernel
theorem dX4_leaseLowest_25 : decode cX4_leaseLowest 25 = .ok (.invokevirtual 203, 3) := by decide +kernel
theorem dX4_leaseLowest_28 : decode cX4_leaseLowest 28 = .ok (.invokestatic 52, 3) := by decide +kernel
theorem dX4_leaseLowest_31 : decode cX4_leaseLowest 31 = .ok (.aload_n 0, 1) := by decide +kernel
theorem dX4_leaseLowest_32 : decode cX4_leaseLowest 32 = .ok (.getfield 22, 3) := by decide +kernel
theorem dX4_leaseLowest_35 : decode cX4_leaseLowest 35 = .ok (.aload_n 0, 1) := by decide +kernel
theorem dX4_leaseLowest_36 : decode cX4_leaseLowest 36 = .ok (.getfield 10, 3) := by decide +kernel
theorem dX4_leaseLowest_39 : decode cX4_leaseLowest 39 = .ok (.invokevirtual 56, 3) := by decide +kernel
theorem dX4_leaseLowest_42 : decode cX4_leaseLowest 42 = .ok (.aload_n 0, 1) := by decide +kernel
theorem dX4_leaseLowest_43 : decode cX4_leaseLowest 43 = .ok (.getfield 10, 3) := by decide +kernel
theorem dX4_leaseLowest_46 : decode cX4_leaseLowest 46 = .ok (.iload_n 1, 1) := by decide +kernel
theorem dX4_leaseLowest_47 : decode cX4_leaseLowest 47 = .ok (.iload_n 2, 1) := by decide +kernel
theorem dX4_leaseLowest_48 : decode cX4_leaseLowest 48 = .ok (.iload_n 3, 1) := by decide +kernel
theorem dX4_leaseLowest_49 : decode cX4_leaseLowest 49 = .ok (.invokevirtual 206, 3) := by decide +kernel
theorem dX4_leaseLowest_52 : decode cX4_leaseLowest 52 = .ok (.ireturn, 1) := by decide +kernel
theorem dX4_countOf_0 : decode cX4_countOf 0 = .ok (.iload_n 1, 1) := by decide +kernel
theorem dX4_countOf_1 : decode cX4_countOf 1 = .ok (.bipush 12, 2) := by decide +kernel
theorem dX4_countOf_3 : decode cX4_countOf 3 = .ok (.if_icmp .ne 13, 3) := by decide +kernel
theorem dX4_countOf_6 : decode cX4_countOf 6 = .ok (.aload_n 0, 1) := by decide +kernel
theorem dX4_countOf_7 : decode cX4_countOf 7 = .ok (.getfield 22, 3) := by decide +kernel
theorem dX4_countOf_10 : decode cX4_countOf 10 = .ok (.getfield 133, 3) := by decide +kernel
theorem dX4_countOf_13 : decode cX4_countOf 13 = .ok (.goto 11, 3) := by decide +kernel
theorem dX4_countOf_16 : decode cX4_countOf 16 = .ok (.aload_n 0, 1) := by decide +kernel
theorem dX4_countOf_17 : decode cX4_countOf 17 = .ok (.getfield 10, 3) := by decide +kernel
theorem dX4_countOf_20 : decode cX4_countOf 20 = .ok (.iload_n 1, 1) := by decide +kernel
theorem dX4_countOf_21 : decode cX4_countOf 21 = .ok (.invokevirtual 221, 3) := by decide +kernel
