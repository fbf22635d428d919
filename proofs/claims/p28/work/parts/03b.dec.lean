theorem dX4_countOf_24 : decode cX4_countOf 24 = .ok (.ireturn, 1) := by decide +kernel
theorem dX4_holderAfter_0 : decode cX4_holderAfter 0 = .ok (.aload_n 0, 1) := by decide +kernel
theorem dX4_holderAfter_1 : decode cX4_holderAfter 1 = .ok (.getfield 16, 3) := by decide +kernel
theorem dX4_holderAfter_4 : decode cX4_holderAfter 4 = .ok (.aload_n 0, 1) := by decide +kernel
theorem dX4_holderAfter_5 : decode cX4_holderAfter 5 = .ok (.getfield 10, 3) := by decide +kernel
theorem dX4_holderAfter_8 : decode cX4_holderAfter 8 = .ok (.invokevirtual 224, 3) := by decide +kernel
theorem dX4_holderAfter_11 : decode cX4_holderAfter 11 = .ok (.aload_n 0, 1) := by decide +kernel
theorem dX4_holderAfter_12 : decode cX4_holderAfter 12 = .ok (.getfield 16, 3) := by decide +kernel
theorem dX4_holderAfter_15 : decode cX4_holderAfter 15 = .ok (.getfield 227, 3) := by decide +kernel
theorem dX4_holderAfter_18 : decode cX4_holderAfter 18 = .ok (.iload_n 2, 1) := by decide +kernel
theorem dX4_holderAfter_19 : decode cX4_holderAfter 19 = .ok (.iadd, 1) := by decide +kernel
theorem dX4_holderAfter_20 : decode cX4_holderAfter 20 = .ok (.istore_n 3, 1) := by decide +kernel
theorem dX4_holderAfter_21 : decode cX4_holderAfter 21 = .ok (.iconst 1, 1) := by decide +kernel
theorem dX4_holderAfter_22 : decode cX4_holderAfter 22 = .ok (.istore 4, 2) := by decide +kernel
theorem dX4_holderAfter_24 : decode cX4_holderAfter 24 = .ok (.iconst 0, 1) := by decide +kernel
theorem dX4_holderAfter_25 : decode cX4_holderAfter 25 = .ok (.istore 5, 2) := by decide +kernel
theorem dX4_holderAfter_27 : decode cX4_holderAfter 27 = .ok (.iload 5, 2) := by decide +kernel
theorem dX4_holderAfter_29 : decode cX4_holderAfter 29 = .ok (.iload_n 2, 1) := by decide +kernel
theorem dX4_holderAfter_30 : decode cX4_holderAfter 30 = .ok (.if_icmp .ge 24, 3) := by decide +kernel
theorem dX4_holderAfter_33 : decode cX4_holderAfter 33 = .ok (.iload 4, 2) := by decide +kernel
theorem dX4_holderAfter_35 : decode cX4_holderAfter 35 = .ok (.ifCond .eq 19, 3) := by decide +kernel
theorem dX4_holderAfter_38 : decode cX4_holderAfter 38 = .ok (.aload_n 0, 1) := by decide +kernel
theorem dX4_holderAfter_39 : decode cX4_holderAfter 39 = .ok (.getfield 16, 3) := by decide +kernel
theorem dX4_holderAfter_42 : decode cX4_holderAfter 42 = .ok (.iload_n 3, 1) := by decide +kernel
theorem dX4_holderAfter_43 : decode cX4_holderAfter 43 = .ok (.invokevirtual 230, 3) := by decide +kernel
theorem dX4_holderAfter_46 : decode cX4_holderAfter 46 = .ok (.istore 4, 2) := by decide +kernel
theorem dX4_holderAfter_48 : decode cX4_holderAfter 48 = .ok (.iinc 5 1, 3) := by decide +kernel
theorem dX4_holderAfter_51 : decode cX4_holderAfter 51 = .ok (.goto (-24), 3) := by decide +kernel
theorem dX4_holderAfter_54 : decode cX4_holderAfter 54 = .ok (.aload_n 0, 1) := by decide +kernel
theorem dX4_holderAfter_55 : decode cX4_holderAfter 55 = .ok (.getfield 16, 3) := by decide +kernel
theorem dX4_holderAfter_58 : decode cX4_holderAfter 58 = .ok (.getfield 233, 3) := by decide +kernel
theorem dX4_holderAfter_61 : decode cX4_holderAfter 61 = .ok (.iload_n 1, 1) := by decide +kernel
theorem dX4_holderAfter_62 : decode cX4_holderAfter 62 = .ok (.iaload, 1) := by decide +kernel
theorem dX4_holderAfter_63 : decode cX4_holderAfter 63 = .ok (.ireturn, 1) := by decide +kernel
theorem dX4_timeToFree_0 : decode cX4_timeToFree 0 = .ok (.aload_n 0, 1) := by decide +kernel
theorem dX4_timeToFree_1 : decode cX4_timeToFree 1 = .ok (.getfield 10, 3) := by decide +kernel
theorem dX4_timeToFree_4 : decode cX4_timeToFree 4 = .ok (.invokevirtual 236, 3) := by decide +kernel
theorem dX4_timeToFree_7 : decode cX4_timeToFree 7 = .ok (.iload_n 1, 1) := by decide +kernel
theorem dX4_timeToFree_8 : decode cX4_timeToFree 8 = .ok (.if_icmp .lt 5, 3) := by decide +kernel
theorem dX4_timeToFree_11 : decode cX4_timeToFree 11 = .ok (.iconst 0, 1) := by decide +kernel
theorem dX4_timeToFree_12 : decode cX4_timeToFree 12 = .ok (.ireturn, 1) := by decide +kernel
theorem dX4_timeToFree_13 : decode cX4_timeToFree 13 = .ok (.aload_n 0, 1) := by decide +kernel
theorem dX4_timeToFree_14 : decode cX4_timeToFree 14 = .ok (.getfield 16, 3) := by decide +kernel
theorem dX4_timeToFree_17 : decode cX4_timeToFree 17 = .ok (.aload_n 0, 1) := by decide +kernel
theorem dX4_timeToFree_18 : decode cX4_timeToFree 18 = .ok (.getfield 10, 3) := by decide +kernel
theorem dX4_timeToFree_21 : decode cX4_timeToFree 21 = .ok (.invokevirtual 224, 3) := by decide +kernel
theorem dX4_timeToFree_24 : decode cX4_timeToFree 24 = .ok (.aload_n 0, 1) := by decide +kernel
theorem dX4_timeToFree_25 : decode cX4_timeToFree 25 = .ok (.getfield 10, 3) := by decide +kernel
theorem dX4_timeToFree_28 : decode cX4_timeToFree 28 = .ok (.getfield 227, 3) := by decide +kernel
theorem dX4_timeToFree_31 : decode cX4_timeToFree 31 = .ok (.sipush 500, 3) := by decide +kernel
theorem dX4_timeToFree_34 : decode cX4_timeToFree 34 = .ok (.iadd, 1) := by decide +kernel
theorem dX4_timeToFree_35 : decode cX4_timeToFree 35 = .ok (.istore_n 2, 1) := by decide +kernel
theorem dX4_timeToFree_36 : decode cX4_timeToFree 36 = .ok (.iconst 0, 1) := by decide +kernel
theorem dX4_timeToFree_37 : decode cX4_timeToFree 37 = .ok (.istore_n 3, 1) := by decide +kernel
theorem dX4_timeToFree_38 : decode cX4_timeToFree 38 = .ok (.iload_n 3, 1) := by decide +kernel
theorem dX4_timeToFree_39 : decode cX4_timeToFree 39 = .ok (.sipush 500, 3) := by decide +kernel
theorem dX4_timeToFree_42 : decode cX4_timeToFree 42 = .ok (.if_icmp .ge 47, 3) := by decide +kernel
theorem dX4_timeToFree_45 : decode cX4_timeToFree 45 = .ok (.aload_n 0, 1) := by decide +kernel
theorem dX4_timeToFree_46 : decode cX4_timeToFree 46 = .ok (.getfield 16, 3) := by decide +kernel
theorem dX4_timeToFree_49 : decode cX4_timeToFree 49 = .ok (.iload_n 2, 1) := by decide +kernel
theorem dX4_timeToFree_50 : decode cX4_timeToFree 50 = .ok (.invokevirtual 230, 3) := by decide +kernel
theorem dX4_timeToFree_53 : decode cX4_timeToFree 53 = .ok (.ifCond .eq 36, 3) := by decide +kernel
theorem dX4_timeToFree_56 : decode cX4_timeToFree 56 = .ok (.aload_n 0, 1) := by decide +kernel
theorem dX4_timeToFree_57 : decode cX4_timeToFree 57 = .ok (.getfield 16, 3) := by decide +kernel
theorem dX4_timeToFree_60 : decode cX4_timeToFree 60 = .ok (.invokevirtual 236, 3) := by decide +kernel
theorem dX4_timeToFree_63 : decode cX4_timeToFree 63 = .ok (.iload_n 1, 1) := by decide +kernel
theorem dX4_timeToFree_64 : decode cX4_timeToFree 64 = .ok (.if_icmp .lt 19, 3) := by decide +kernel
theorem dX4_timeToFree_67 : decode cX4_timeToFree 67 = .ok (.aload_n 0, 1) := by decide +kernel
theorem dX4_timeToFree_68 : decode cX4_timeToFree 68 = .ok (.getfield 16, 3) := by decide +kernel
theorem dX4_timeToFree_71 : decode cX4_timeToFree 71 = .ok (.getfield 227, 3) := by decide +kernel
theorem dX4_timeToFree_74 : decode cX4_timeToFree 74 = .ok (.aload_n 0, 1) := by decide +kernel
theorem dX4_timeToFree_75 : decode cX4_timeToFree 75 = .ok (.getfield 10, 3) := by decide +kernel
theorem dX4_timeToFree_78 : decode cX4_timeToFree 78 = .ok (.getfield 227, 3) := by decide +kernel
theorem dX4_timeToFree_81 : decode cX4_timeToFree 81 = .ok (.isub, 1) := by decide +kernel
theorem dX4_timeToFree_82 : decode cX4_timeToFree 82 = .ok (.ireturn, 1) := by decide +kernel
theorem dX4_timeToFree_83 : decode cX4_timeToFree 83 = .ok (.iinc 3 1, 3) := by decide +kernel
theorem dX4_timeToFree_86 : decode cX4_timeToFree 86 = .ok (.goto (-48), 3) := by decide +kernel
theorem dX4_timeToFree_89 : decode cX4_timeToFree 89 = .ok (.iconst (-1), 1) := by decide +kernel
theorem dX4_timeToFree_90 : decode cX4_timeToFree 90 = .ok (.ireturn, 1) := by decide +kernel
theorem dX4_timeToWished_0 : decode cX4_timeToWished 0 = .ok (.aload_n 0, 1) := by decide +kernel
theorem dX4_timeToWished_1 : decode cX4_timeToWished 1 = .ok (.getfield 10, 3) := by decide +kernel
theorem dX4_timeToWished_4 : decode cX4_timeToWished 4 = .ok (.getfield 233, 3) := by decide +kernel
theorem dX4_timeToWished_7 : decode cX4_timeToWished 7 = .ok (.iload_n 2, 1) := by decide +kernel
theorem dX4_timeToWished_8 : decode cX4_timeToWished 8 = .ok (.iaload, 1) := by decide +kernel
theorem dX4_timeToWished_9 : decode cX4_timeToWished 9 = .ok (.iload_n 1, 1) := by decide +kernel
theorem dX4_timeToWished_10 : decode cX4_timeToWished 10 = .ok (.if_icmp .ne 5, 3) := by decide +kernel
theorem dX4_timeToWished_13 : decode cX4_timeToWished 13 = .ok (.iconst 0, 1) := by decide +kernel
theorem dX4_timeToWished_14 : decode cX4_timeToWished 14 = .ok (.ireturn, 1) := by decide +kernel
theorem dX4_timeToWished_15 : decode cX4_timeToWished 15 = .ok (.aload_n 0, 1) := by decide +kernel
theorem dX4_timeToWished_16 : decode cX4_timeToWished 16 = .ok (.getfield 10, 3) := by decide +kernel
theorem dX4_timeToWished_19 : decode cX4_timeToWished 19 = .ok (.iload_n 1, 1) := by decide +kernel
theorem dX4_timeToWished_20 : decode cX4_timeToWished 20 = .ok (.iload_n 2, 1) := by decide +kernel
theorem dX4_timeToWished_21 : decode cX4_timeToWished 21 = .ok (.invokevirtual 48, 3) := by decide +kernel
theorem dX4_timeToWished_24 : decode cX4_timeToWished 24 = .ok (.ifCond .ne 5, 3) := by decide +kernel
theorem dX4_timeToWished_27 : decode cX4_timeToWished 27 = .ok (.iconst (-1), 1) := by decide +kernel
theorem dX4_timeToWished_28 : decode cX4_timeToWished 28 = .ok (.ireturn, 1) := by decide +kernel
theorem dX4_timeToWished_29 : decode cX4_timeToWished 29 = .ok (.aload_n 0, 1) := by decide +kernel
theorem dX4_timeToWished_30 : decode cX4_timeToWished 30 = .ok (.getfield 16, 3) := by decide +kernel
theorem dX4_timeToWished_33 : decode cX4_timeToWished 33 = .ok (.aload_n 0, 1) := by decide +kernel
theorem dX4_timeToWished_34 : decode cX4_timeToWished 34 = .ok (.getfield 10, 3) := by decide +kernel
theorem dX4_timeToWished_37 : decode cX4_timeToWished 37 = .ok (.invokevirtual 224, 3) := by decide +kernel
theorem dX4_timeToWished_40 : decode cX4_timeToWished 40 = .ok (.aload_n 0, 1) := by decide +kernel
theorem dX4_timeToWished_41 : decode cX4_timeToWished 41 = .ok (.getfield 16, 3) := by decide +kernel
theorem dX4_timeToWished_44 : decode cX4_timeToWished 44 = .ok (.iload_n 1, 1) := by decide +kernel
theorem dX4_timeToWished_45 : decode cX4_timeToWished 45 = .ok (.iload_n 2, 1) := by decide +kernel
theorem dX4_timeToWished_46 : decode cX4_timeToWished 46 = .ok (.iconst 1, 1) := by decide +kernel
theorem dX4_timeToWished_47 : decode cX4_timeToWished 47 = .ok (.invokevirtual 60, 3) := by decide +kernel
theorem dX4_timeToWished_50 : decode cX4_timeToWished 50 = .ok (.ifCond .ne 5, 3) := by decide +kernel
theorem dX4_timeToWished_53 : decode cX4_timeToWished 53 = .ok (.iconst 0, 1) := by decide +kernel
theorem dX4_timeToWished_54 : decode cX4_timeToWished 54 = .ok (.ireturn, 1) := by decide +kernel
theorem dX4_timeToWished_55 : decode cX4_timeToWished 55 = .ok (.aload_n 0, 1) := by decide +kernel
theorem dX4_timeToWished_56 : decode cX4_timeToWished 56 = .ok (.getfield 10, 3) := by decide +kernel
theorem dX4_timeToWished_59 : decode cX4_timeToWished 59 = .ok (.getfield 227, 3) := by decide +kernel
theorem dX4_timeToWished_62 : decode cX4_timeToWished 62 = .ok (.sipush 500, 3) := by decide +kernel
theorem dX4_timeToWished_65 : decode cX4_timeToWished 65 = .ok (.iadd, 1) := by decide +kernel
theorem dX4_timeToWished_66 : decode cX4_timeToWished 66 = .ok (.istore_n 3, 1) := by decide +kernel
theorem dX4_timeToWished_67 : decode cX4_timeToWished 67 = .ok (.iconst 0, 1) := by decide +kernel
theorem dX4_timeToWished_68 : decode cX4_timeToWished 68 = .ok (.istore 4, 2) := by decide +kernel
theorem dX4_timeToWished_70 : decode cX4_timeToWished 70 = .ok (.iload 4, 2) := by decide +kernel
theorem dX4_timeToWished_72 : decode cX4_timeToWished 72 = .ok (.sipush 500, 3) := by decide +kernel
theorem dX4_timeToWished_75 : decode cX4_timeToWished 75 = .ok (.if_icmp .ge 49, 3) := by decide +kernel
theorem dX4_timeToWished_78 : decode cX4_timeToWished 78 = .ok (.aload_n 0, 1) := by decide +kernel
theorem dX4_timeToWished_79 : decode cX4_timeToWished 79 = .ok (.getfield 16, 3) := by decide +kernel
theorem dX4_timeToWished_82 : decode cX4_timeToWished 82 = .ok (.iload_n 3, 1) := by decide +kernel
theorem dX4_timeToWished_83 : decode cX4_timeToWished 83 = .ok (.invokevirtual 230, 3) := by decide +kernel
theorem dX4_timeToWished_86 : decode cX4_timeToWished 86 = .ok (.ifCond .eq 38, 3) := by decide +kernel
theorem dX4_timeToWished_89 : decode cX4_timeToWished 89 = .ok (.aload_n 0, 1) := by decide +kernel
theorem dX4_timeToWished_90 : decode cX4_timeToWished 90 = .ok (.getfield 16, 3) := by decide +kernel
theorem dX4_timeToWished_93 : decode cX4_timeToWished 93 = .ok (.getfield 233, 3) := by decide +kernel
theorem dX4_timeToWished_96 : decode cX4_timeToWished 96 = .ok (.iload_n 2, 1) := by decide +kernel
theorem dX4_timeToWished_97 : decode cX4_timeToWished 97 = .ok (.iaload, 1) := by decide +kernel
theorem dX4_timeToWished_98 : decode cX4_timeToWished 98 = .ok (.iload_n 1, 1) := by decide +kernel
theorem dX4_timeToWished_99 : decode cX4_timeToWished 99 = .ok (.if_icmp .ne 19, 3) := by decide +kernel
theorem dX4_timeToWished_102 : decode cX4_timeToWished 102 = .ok (.aload_n 0, 1) := by decide +kernel
theorem dX4_timeToWished_103 : decode cX4_timeToWished 103 = .ok (.getfield 16, 3) := by decide +kernel
theorem dX4_timeToWished_106 : decode cX4_timeToWished 106 = .ok (.getfield 227, 3) := by decide +kernel
theorem dX4_timeToWished_109 : decode cX4_timeToWished 109 = .ok (.aload_n 0, 1) := by decide +kernel
theorem dX4_timeToWished_110 : decode cX4_timeToWished 110 = .ok (.getfield 10, 3) := by decide +kernel
theorem dX4_timeToWished_113 : decode cX4_timeToWished 113 = .ok (.getfield 227, 3) := by decide +kernel
theorem dX4_timeToWished_116 : decode cX4_timeToWished 116 = .ok (.isub, 1) := by decide +kernel
theorem dX4_timeToWished_117 : decode cX4_timeToWished 117 = .ok (.ireturn, 1) := by decide +kernel
theorem dX4_timeToWished_118 : decode cX4_timeToWished 118 = .ok (.iinc 4 1, 3) := by decide +kernel
theorem dX4_timeToWished_121 : decode cX4_timeToWished 121 = .ok (.goto (-51), 3) := by decide +kernel
theorem dX4_timeToWished_124 : decode cX4_timeToWished 124 = .ok (.iconst (-1), 1) := by decide +kernel
theorem dX4_timeToWished_125 : decode cX4_timeToWished 125 = .ok (.ireturn, 1) := by decide +kernel
theorem dX4_sum_0 : decode cX4_sum 0 = .ok (.iconst 0, 1) := by decide +kernel
theorem dX4_sum_1 : decode cX4_sum 1 = .ok (.istore_n 1, 1) := by decide +kernel
theorem dX4_sum_2 : decode cX4_sum 2 = .ok (.aload_n 0, 1) := by decide +kernel
theorem dX4_sum_3 : decode cX4_sum 3 = .ok (.astore_n 2, 1) := by decide +kernel
theorem dX4_sum_4 : decode cX4_sum 4 = .ok (.aload_n 2, 1) := by decide +kernel
theorem dX4_sum_5 : decode cX4_sum 5 = .ok (.arraylength, 1) := by decide +kernel
theorem dX4_sum_6 : decode cX4_sum 6 = .ok (.istore_n 3, 1) := by decide +kernel
theorem dX4_sum_7 : decode cX4_sum 7 = .ok (.iconst 0, 1) := by decide +kernel
theorem dX4_sum_8 : decode cX4_sum 8 = .ok (.istore 4, 2) := by decide +kernel
theorem dX4_sum_10 : decode cX4_sum 10 = .ok (.iload 4, 2) := by decide +kernel
theorem dX4_sum_12 : decode cX4_sum 12 = .ok (.iload_n 3, 1) := by decide +kernel
theorem dX4_sum_13 : decode cX4_sum 13 = .ok (.if_icmp .ge 20, 3) := by decide +kernel
theorem dX4_sum_16 : decode cX4_sum 16 = .ok (.aload_n 2, 1) := by decide +kernel
theorem dX4_sum_17 : decode cX4_sum 17 = .ok (.iload 4, 2) := by decide +kernel
theorem dX4_sum_19 : decode cX4_sum 19 = .ok (.iaload, 1) := by decide +kernel
theorem dX4_sum_20 : decode cX4_sum 20 = .ok (.istore 5, 2) := by decide +kernel
theorem dX4_sum_22 : decode cX4_sum 22 = .ok (.iload_n 1, 1) := by decide +kernel
theorem dX4_sum_23 : decode cX4_sum 23 = .ok (.iload 5, 2) := by decide +kernel
theorem dX4_sum_25 : decode cX4_sum 25 = .ok (.iadd, 1) := by decide +kernel
theorem dX4_sum_26 : decode cX4_sum 26 = .ok (.istore_n 1, 1) := by decide +kernel
theorem dX4_sum_27 : decode cX4_sum 27 = .ok (.iinc 4 1, 3) := by decide +kernel
theorem dX4_sum_30 : decode cX4_sum 30 = .ok (.goto (-20), 3) := by decide +kernel
theorem dX4_sum_33 : decode cX4_sum 33 = .ok (.iload_n 1, 1) := by decide +kernel
theorem dX4_sum_34 : decode cX4_sum 34 = .ok (.ireturn, 1) := by decide +kernel
theorem dJ9_max_7cf53_0 : decode cJ9_max_7cf53 0 = .ok (.iload_n 0, 1) := by decide +kernel
theorem dJ9_max_7cf53_1 : decode cJ9_max_7cf53 1 = .ok (.iload_n 1, 1) := by decide +kernel
theorem dJ9_max_7cf53_2 : decode cJ9_max_7cf53 2 = .ok (.if_icmp .lt 7, 3) := by decide +kernel
theorem dJ9_max_7cf53_5 : decode cJ9_max_7cf53 5 = .ok (.iload_n 0, 1) := by decide +kernel
theorem dJ9_max_7cf53_6 : decode cJ9_max_7cf53 6 = .ok (.goto 4, 3) := by decide +kernel
theorem dJ9_max_7cf53_9 : decode cJ9_max_7cf53 9 = .ok (.iload_n 1, 1) := by decide +kernel
theorem dJ9_max_7cf53_10 : decode cJ9_max_7cf53 10 = .ok (.ireturn, 1) := by decide +kernel
theorem dJ9_min_7cf53_0 : decode cJ9_min_7cf53 0 = .ok (.iload_n 0, 1) := by decide +kernel
theorem dJ9_min_7cf53_1 : decode cJ9_min_7cf53 1 = .ok (.iload_n 1, 1) := by decide +kernel
theorem dJ9_min_7cf53_2 : decode cJ9_min_7cf53 2 = .ok (.if_icmp .gt 7, 3) := by decide +kernel
theorem dJ9_min_7cf53_5 : decode cJ9_min_7cf53 5 = .ok (.iload_n 0, 1) := by decide +kernel
theorem dJ9_min_7cf53_6 : decode cJ9_min_7cf53 6 = .ok (.goto 4, 3) := by decide +kernel
theorem dJ9_min_7cf53_9 : decode cJ9_min_7cf53 9 = .ok (.iload_n 1, 1) := by decide +kernel
theorem dJ9_min_7cf53_10 : decode cJ9_min_7cf53 10 = .ok (.ireturn, 1) := by decide +kernel
theorem dL_low_0 : decode cL_low 0 = .ok (.iload_n 0, 1) := by decide +kernel
theorem dL_low_1 : decode cL_low 1 = .ok (.ldc 7, 2) := by decide +kernel
theorem dL_low_3 : decode cL_low 3 = .ok (.iand, 1) := by decide +kernel
theorem dL_low_4 : decode cL_low 4 = .ok (.iload_n 1, 1) := by decide +kernel
theorem dL_low_5 : decode cL_low 5 = .ok (.irem, 1) := by decide +kernel
theorem dL_low_6 : decode cL_low 6 = .ok (.ireturn, 1) := by decide +kernel
theorem dL_cell_0 : decode cL_cell 0 = .ok (.iload_n 1, 1) := by decide +kernel
theorem dL_cell_1 : decode cL_cell 1 = .ok (.aload_n 0, 1) := by decide +kernel
theorem dL_cell_2 : decode cL_cell 2 = .ok (.arraylength, 1) := by decide +kernel
theorem dL_cell_3 : decode cL_cell 3 = .ok (.if_icmp .ge 9, 3) := by decide +kernel
theorem dL_cell_6 : decode cL_cell 6 = .ok (.aload_n 0, 1) := by decide +kernel
theorem dL_cell_7 : decode cL_cell 7 = .ok (.iload_n 1, 1) := by decide +kernel
theorem dL_cell_8 : decode cL_cell 8 = .ok (.iaload, 1) := by decide +kernel
theorem dL_cell_9 : decode cL_cell 9 = .ok (.goto 11, 3) := by decide +kernel
theorem dL_cell_12 : decode cL_cell 12 = .ok (.ldc 8, 2) := by decide +kernel
theorem dL_cell_14 : decode cL_cell 14 = .ok (.iload_n 1, 1) := by decide +kernel
theorem dL_cell_15 : decode cL_cell 15 = .ok (.imul, 1) := by decide +kernel
theorem dL_cell_16 : decode cL_cell 16 = .ok (.sipush 977, 3) := by decide +kernel
theorem dL_cell_19 : decode cL_cell 19 = .ok (.iadd, 1) := by decide +kernel
theorem dL_cell_20 : decode cL_cell 20 = .ok (.ireturn, 1) := by decide +kernel
theorem dL_take_0 : decode cL_take 0 = .ok (.aload_n 0, 1) := by decide +kernel
theorem dL_take_1 : decode cL_take 1 = .ok (.iload_n 1, 1) := by decide +kernel
theorem dL_take_2 : decode cL_take 2 = .ok (.iload_n 2, 1) := by decide +kernel
theorem dL_take_3 : decode cL_take 3 = .ok (.invokevirtual 9, 3) := by decide +kernel
theorem dL_take_6 : decode cL_take 6 = .ok (.ireturn, 1) := by decide +kernel
theorem dL_take_7 : decode cL_take 7 = .ok (.astore_n 3, 1) := by decide +kernel
theorem dL_take_8 : decode cL_take 8 = .ok (.bipush (-3), 2) := by decide +kernel
theorem dL_take_10 : decode cL_take 10 = .ok (.ireturn, 1) := by decide +kernel
theorem dL_span_0 : decode cL_span 0 = .ok (.aload_n 0, 1) := by decide +kernel
theorem dL_span_1 : decode cL_span 1 = .ok (.iload_n 1, 1) := by decide +kernel
theorem dL_span_2 : decode cL_span 2 = .ok (.iload_n 2, 1) := by decide +kernel
theorem dL_span_3 : decode cL_span 3 = .ok (.iload_n 3, 1) := by decide +kernel
theorem dL_span_4 : decode cL_span 4 = .ok (.invokevirtual 17, 3) := by decide +kernel
theorem dL_span_7 : decode cL_span 7 = .ok (.ireturn, 1) := by decide +kernel
theorem dL_span_8 : decode cL_span 8 = .ok (.astore 4, 2) := by decide +kernel
theorem dL_span_10 : decode cL_span 10 = .ok (.bipush (-3), 2) := by decide +kernel
theorem dL_span_12 : decode cL_span 12 = .ok (.ireturn, 1) := by decide +kernel
theorem dL_wish_0 : decode cL_wish 0 = .ok (.aload_n 0, 1) := by decide +kernel
theorem dL_wish_1 : decode cL_wish 1 = .ok (.iload_n 1, 1) := by decide +kernel
theorem dL_wish_2 : decode cL_wish 2 = .ok (.iload_n 2, 1) := by decide +kernel
theorem dL_wish_3 : decode cL_wish 3 = .ok (.iload_n 3, 1) := by decide +kernel
theorem dL_wish_4 : decode cL_wish 4 = .ok (.invokevirtual 21, 3) := by decide +kernel
theorem dL_wish_7 : decode cL_wish 7 = .ok (.ireturn, 1) := by decide +kernel
theorem dL_wish_8 : decode cL_wish 8 = .ok (.astore 4, 2) := by decide +kernel
theorem dL_wish_10 : decode cL_wish 10 = .ok (.bipush (-4), 2) := by decide +kernel
theorem dL_wish_12 : decode cL_wish 12 = .ok (.ireturn, 1) := by decide +kernel
theorem dL_wish_13 : decode cL_wish 13 = .ok (.astore 4, 2) := by decide +kernel
theorem dL_wish_15 : decode cL_wish 15 = .ok (.bipush (-3), 2) := by decide +kernel
theorem dL_wish_17 : decode cL_wish 17 = .ok (.ireturn, 1) := by decide +kernel
theorem dL_unwish_0 : decode cL_unwish 0 = .ok (.aload_n 0, 1) := by decide +kernel
theorem dL_unwish_1 : decode cL_unwish 1 = .ok (.iload_n 1, 1) := by decide +kernel
theorem dL_unwish_2 : decode cL_unwish 2 = .ok (.iload_n 2, 1) := by decide +kernel
theorem dL_unwish_3 : decode cL_unwish 3 = .ok (.invokevirtual 26, 3) := by decide +kernel
theorem dL_unwish_6 : decode cL_unwish 6 = .ok (.ireturn, 1) := by decide +kernel
theorem dL_unwish_7 : decode cL_unwish 7 = .ok (.astore_n 3, 1) := by decide +kernel
theorem dL_unwish_8 : decode cL_unwish 8 = .ok (.bipush (-3), 2) := by decide +kernel
theorem dL_unwish_10 : decode cL_unwish 10 = .ok (.ireturn, 1) := by decide +kernel
theorem dL_renew_0 : decode cL_renew 0 = .ok (.aload_n 0, 1) := by decide +kernel
theorem dL_renew_1 : decode cL_renew 1 = .ok (.iload_n 1, 1) := by decide +kernel
theorem dL_renew_2 : decode cL_renew 2 = .ok (.iload_n 2, 1) := by decide +kernel
theorem dL_renew_3 : decode cL_renew 3 = .ok (.iload_n 3, 1) := by decide +kernel
theorem dL_renew_4 : decode cL_renew 4 = .ok (.invokevirtual 29, 3) := by decide +kernel
theorem dL_renew_7 : decode cL_renew 7 = .ok (.ireturn, 1) := by decide +kernel
theorem dL_renew_8 : decode cL_renew 8 = .ok (.astore 4, 2) := by decide +kernel
theorem dL_renew_10 : decode cL_renew 10 = .ok (.bipush (-3), 2) := by decide +kernel
theorem dL_renew_12 : decode cL_renew 12 = .ok (.ireturn, 1) := by decide +kernel
theorem dL_set_0 : decode cL_set 0 = .ok (.aload_n 0, 1) := by decide +kernel
theorem dL_set_1 : decode cL_set 1 = .ok (.iload_n 1, 1) := by decide +kernel
theorem dL_set_2 : decode cL_set 2 = .ok (.iload_n 2, 1) := by decide +kernel
theorem dL_set_3 : decode cL_set 3 = .ok (.invokevirtual 32, 3) := by decide +kernel
theorem dL_set_6 : decode cL_set 6 = .ok (.ireturn, 1) := by decide +kernel
theorem dL_set_7 : decode cL_set 7 = .ok (.astore_n 3, 1) := by decide +kernel
theorem dL_set_8 : decode cL_set 8 = .ok (.bipush (-2), 2) := by decide +kernel
theorem dL_set_10 : decode cL_set 10 = .ok (.ireturn, 1) := by decide +kernel
theorem dL_set_11 : decode cL_set 11 = .ok (.astore_n 3, 1) := by decide +kernel
theorem dL_set_12 : decode cL_set 12 = .ok (.bipush (-3), 2) := by decide +kernel
theorem dL_set_14 : decode cL_set 14 = .ok (.ireturn, 1) := by decide +kernel
theorem dL_act_0 : decode cL_act 0 = .ok (.aload_n 0, 1) := by decide +kernel
theorem dL_act_1 : decode cL_act 1 = .ok (.iconst 3, 1) := by decide +kernel
theorem dL_act_2 : decode cL_act 2 = .ok (.invokevirtual 37, 3) := by decide +kernel
theorem dL_act_5 : decode cL_act 5 = .ok (.istore_n 3, 1) := by decide +kernel
theorem dL_act_6 : decode cL_act 6 = .ok (.aload_n 1, 1) := by decide +kernel
theorem dL_act_7 : decode cL_act 7 = .ok (.iload_n 2, 1) := by decide +kernel
theorem dL_act_8 : decode cL_act 8 = .ok (.iconst 1, 1) := by decide +kernel
theorem dL_act_9 : decode cL_act 9 = .ok (.iadd, 1) := by decide +kernel
theorem dL_act_10 : decode cL_act 10 = .ok (.invokestatic 41, 3) := by decide +kernel
theorem dL_act_13 : decode cL_act 13 = .ok (.iconst 4, 1) := by decide +kernel
theorem dL_act_14 : decode cL_act 14 = .ok (.invokestatic 47, 3) := by decide +kernel
theorem dL_act_17 : decode cL_act 17 = .ok (.istore 4, 2) := by decide +kernel
theorem dL_act_19 : decode cL_act 19 = .ok (.aload_n 1, 1) := by decide +kernel
theorem dL_act_20 : decode cL_act 20 = .ok (.iload_n 2, 1) := by decide +kernel
theorem dL_act_21 : decode cL_act 21 = .ok (.iconst 2, 1) := by decide +kernel
theorem dL_act_22 : decode cL_act 22 = .ok (.iadd, 1) := by decide +kernel
theorem dL_act_23 : decode cL_act 23 = .ok (.invokestatic 41, 3) := by decide +kernel
theorem dL_act_26 : decode cL_act 26 = .ok (.iload_n 3, 1) := by decide +kernel
theorem dL_act_27 : decode cL_act 27 = .ok (.bipush 9, 2) := by decide +kernel
theorem dL_act_29 : decode cL_act 29 = .ok (.if_icmp .ge 7, 3) := by decide +kernel
theorem dL_act_32 : decode cL_act 32 = .ok (.iload_n 3, 1) := by decide +kernel
theorem dL_act_33 : decode cL_act 33 = .ok (.goto 5, 3) := by decide +kernel
theorem dL_act_36 : decode cL_act 36 = .ok (.bipush 9, 2) := by decide +kernel
theorem dL_act_38 : decode cL_act 38 = .ok (.invokestatic 47, 3) := by decide +kernel
theorem dL_act_41 : decode cL_act 41 = .ok (.istore 5, 2) := by decide +kernel
theorem dL_act_43 : decode cL_act 43 = .ok (.iconst 1, 1) := by decide +kernel
theorem dL_act_44 : decode cL_act 44 = .ok (.aload_n 1, 1) := by decide +kernel
theorem dL_act_45 : decode cL_act 45 = .ok (.iload_n 2, 1) := by decide +kernel
theorem dL_act_46 : decode cL_act 46 = .ok (.iconst 3, 1) := by decide +kernel
theorem dL_act_47 : decode cL_act 47 = .ok (.iadd, 1) := by decide +kernel
theorem dL_act_48 : decode cL_act 48 = .ok (.invokestatic 41, 3) := by decide +kernel
theorem dL_act_51 : decode cL_act 51 = .ok (.bipush 12, 2) := by decide +kernel
theorem dL_act_53 : decode cL_act 53 = .ok (.invokestatic 47, 3) := by decide +kernel
theorem dL_act_56 : decode cL_act 56 = .ok (.iadd, 1) := by decide +kernel
theorem dL_act_57 : decode cL_act 57 = .ok (.istore 6, 2) := by decide +kernel
theorem dL_act_59 : decode cL_act 59 = .ok (.aload_n 1, 1) := by decide +kernel
theorem dL_act_60 : decode cL_act 60 = .ok (.iload_n 2, 1) := by decide +kernel
theorem dL_act_61 : decode cL_act 61 = .ok (.invokestatic 41, 3) := by decide +kernel
theorem dL_act_64 : decode cL_act 64 = .ok (.bipush 9, 2) := by decide +kernel
theorem dL_act_66 : decode cL_act 66 = .ok (.invokestatic 47, 3) := by decide +kernel
theorem dL_act_69 : decode cL_act 69 = .ok (.tableswitch 126 0 7 #[47, 47, 56, 69, 69, 80, 91, 117], 47) := by decide +kernel
theorem dL_act_116 : decode cL_act 116 = .ok (.aload_n 0, 1) := by decide +kernel
theorem dL_act_117 : decode cL_act 117 = .ok (.iload 4, 2) := by decide +kernel
theorem dL_act_119 : decode cL_act 119 = .ok (.iload 6, 2) := by decide +kernel
theorem dL_act_121 : decode cL_act 121 = .ok (.invokestatic 50, 3) := by decide +kernel
theorem dL_act_124 : decode cL_act 124 = .ok (.ireturn, 1) := by decide +kernel
theorem dL_act_125 : decode cL_act 125 = .ok (.aload_n 0, 1) := by decide +kernel
theorem dL_act_126 : decode cL_act 126 = .ok (.iload 4, 2) := by decide +kernel
theorem dL_act_128 : decode cL_act 128 = .ok (.iconst 1, 1) := by decide +kernel
theorem dL_act_129 : decode cL_act 129 = .ok (.iload 5, 2) := by decide +kernel
theorem dL_act_131 : decode cL_act 131 = .ok (.iadd, 1) := by decide +kernel
theorem dL_act_132 : decode cL_act 132 = .ok (.iload 6, 2) := by decide +kernel
theorem dL_act_134 : decode cL_act 134 = .ok (.invokestatic 53, 3) := by decide +kernel
theorem dL_act_137 : decode cL_act 137 = .ok (.ireturn, 1) := by decide +kernel
theorem dL_act_138 : decode cL_act 138 = .ok (.aload_n 0, 1) := by decide +kernel
theorem dL_act_139 : decode cL_act 139 = .ok (.iload 4, 2) := by decide +kernel
theorem dL_act_141 : decode cL_act 141 = .ok (.iload 5, 2) := by decide +kernel
theorem dL_act_143 : decode cL_act 143 = .ok (.iload 6, 2) := by decide +kernel
theorem dL_act_145 : decode cL_act 145 = .ok (.invokestatic 57, 3) := by decide +kernel
theorem dL_act_148 : decode cL_act 148 = .ok (.ireturn, 1) := by decide +kernel
theorem dL_act_149 : decode cL_act 149 = .ok (.aload_n 0, 1) := by decide +kernel
theorem dL_act_150 : decode cL_act 150 = .ok (.iload 4, 2) := by decide +kernel
theorem dL_act_152 : decode cL_act 152 = .ok (.iload 5, 2) := by decide +kernel
theorem dL_act_154 : decode cL_act 154 = .ok (.iload 6, 2) := by decide +kernel
theorem dL_act_156 : decode cL_act 156 = .ok (.invokestatic 59, 3) := by decide +kernel
theorem dL_act_159 : decode cL_act 159 = .ok (.ireturn, 1) := by decide +kernel
theorem dL_act_160 : decode cL_act 160 = .ok (.aload_n 0, 1) := by decide +kernel
theorem dL_act_161 : decode cL_act 161 = .ok (.iload 4, 2) := by decide +kernel
theorem dL_act_163 : decode cL_act 163 = .ok (.iload 5, 2) := by decide +kernel
theorem dL_act_165 : decode cL_act 165 = .ok (.iload 5, 2) := by decide +kernel
theorem dL_act_167 : decode cL_act 167 = .ok (.aload_n 1, 1) := by decide +kernel
theorem dL_act_168 : decode cL_act 168 = .ok (.iload_n 2, 1) := by decide +kernel
theorem dL_act_169 : decode cL_act 169 = .ok (.iconst 3, 1) := by decide +kernel
theorem dL_act_170 : decode cL_act 170 = .ok (.iadd, 1) := by decide +kernel
theorem dL_act_171 : decode cL_act 171 = .ok (.invokestatic 41, 3) := by decide +kernel
theorem dL_act_174 : decode cL_act 174 = .ok (.iload_n 3, 1) := by decide +kernel
theorem dL_act_175 : decode cL_act 175 = .ok (.iload 5, 2) := by decide +kernel
theorem dL_act_177 : decode cL_act 177 = .ok (.isub, 1) := by decide +kernel
theorem dL_act_178 : decode cL_act 178 = .ok (.invokestatic 47, 3) := by decide +kernel
theorem dL_act_181 : decode cL_act 181 = .ok (.iadd, 1) := by decide +kernel
theorem dL_act_182 : decode cL_act 182 = .ok (.invokevirtual 61, 3) := by decide +kernel
theorem dL_act_185 : decode cL_act 185 = .ok (.ireturn, 1) := by decide +kernel
theorem dL_act_186 : decode cL_act 186 = .ok (.aload_n 0, 1) := by decide +kernel
theorem dL_act_187 : decode cL_act 187 = .ok (.iload 4, 2) := by decide +kernel
theorem dL_act_189 : decode cL_act 189 = .ok (.iload 5, 2) := by decide +kernel
theorem dL_act_191 : decode cL_act 191 = .ok (.invokestatic 64, 3) := by decide +kernel
theorem dL_act_194 : decode cL_act 194 = .ok (.ireturn, 1) := by decide +kernel
theorem dL_act_195 : decode cL_act 195 = .ok (.aload_n 0, 1) := by decide +kernel
theorem dL_act_196 : decode cL_act 196 = .ok (.iload 6, 2) := by decide +kernel
theorem dL_act_198 : decode cL_act 198 = .ok (.invokevirtual 66, 3) := by decide +kernel
theorem dL_act_201 : decode cL_act 201 = .ok (.ireturn, 1) := by decide +kernel
theorem dL_undo_0 : decode cL_undo 0 = .ok (.aload_n 0, 1) := by decide +kernel
theorem dL_undo_1 : decode cL_undo 1 = .ok (.invokevirtual 69, 3) := by decide +kernel
theorem dL_undo_4 : decode cL_undo 4 = .ok (.ireturn, 1) := by decide +kernel
theorem dL_undo_5 : decode cL_undo 5 = .ok (.astore_n 1, 1) := by decide +kernel
theorem dL_undo_6 : decode cL_undo 6 = .ok (.bipush (-3), 2) := by decide +kernel
theorem dL_undo_8 : decode cL_undo 8 = .ok (.ireturn, 1) := by decide +kernel
theorem dL_numbers_0 : decode cL_numbers 0 = .ok (.iconst 1, 1) := by decide +kernel
theorem dL_numbers_1 : decode cL_numbers 1 = .ok (.istore_n 1, 1) := by decide +kernel
theorem dL_numbers_2 : decode cL_numbers 2 = .ok (.aload_n 0, 1) := by decide +kernel
theorem dL_numbers_3 : decode cL_numbers 3 = .ok (.iconst 0, 1) := by decide +kernel
theorem dL_numbers_4 : decode cL_numbers 4 = .ok (.invokevirtual 73, 3) := by decide +kernel
theorem dL_numbers_7 : decode cL_numbers 7 = .ok (.istore_n 2, 1) := by decide +kernel
theorem dL_numbers_8 : decode cL_numbers 8 = .ok (.iconst 0, 1) := by decide +kernel
theorem dL_numbers_9 : decode cL_numbers 9 = .ok (.istore_n 3, 1) := by decide +kernel
theorem dL_numbers_10 : decode cL_numbers 10 = .ok (.iconst 0, 1) := by decide +kernel
theorem dL_numbers_11 : decode cL_numbers 11 = .ok (.istore 4, 2) := by decide +kernel
theorem dL_numbers_13 : decode cL_numbers 13 = .ok (.iconst 0, 1) := by decide +kernel
theorem dL_numbers_14 : decode cL_numbers 14 = .ok (.istore 5, 2) := by decide +kernel
theorem dL_numbers_16 : decode cL_numbers 16 = .ok (.iconst 0, 1) := by decide +kernel
theorem dL_numbers_17 : decode cL_numbers 17 = .ok (.istore 6, 2) := by decide +kernel
theorem dL_numbers_19 : decode cL_numbers 19 = .ok (.iload 6, 2) := by decide +kernel
theorem dL_numbers_21 : decode cL_numbers 21 = .ok (.aload_n 0, 1) := by decide +kernel
theorem dL_numbers_22 : decode cL_numbers 22 = .ok (.iconst 3, 1) := by decide +kernel
theorem dL_numbers_23 : decode cL_numbers 23 = .ok (.invokevirtual 37, 3) := by decide +kernel
theorem dL_numbers_26 : decode cL_numbers 26 = .ok (.if_icmp .ge 361, 3) := by decide +kernel
theorem dL_numbers_29 : decode cL_numbers 29 = .ok (.iload_n 1, 1) := by decide +kernel
theorem dL_numbers_30 : decode cL_numbers 30 = .ok (.ifCond .eq 357, 3) := by decide +kernel
theorem dL_numbers_33 : decode cL_numbers 33 = .ok (.aload_n 0, 1) := by decide +kernel
theorem dL_numbers_34 : decode cL_numbers 34 = .ok (.iload 6, 2) := by decide +kernel
theorem dL_numbers_36 : decode cL_numbers 36 = .ok (.iconst 0, 1) := by decide +kernel
theorem dL_numbers_37 : decode cL_numbers 37 = .ok (.invokevirtual 76, 3) := by decide +kernel
theorem dL_numbers_40 : decode cL_numbers 40 = .ok (.istore 7, 2) := by decide +kernel
theorem dL_numbers_42 : decode cL_numbers 42 = .ok (.aload_n 0, 1) := by decide +kernel
theorem dL_numbers_43 : decode cL_numbers 43 = .ok (.iload 6, 2) := by decide +kernel
theorem dL_numbers_45 : decode cL_numbers 45 = .ok (.iconst 1, 1) := by decide +kernel
theorem dL_numbers_46 : decode cL_numbers 46 = .ok (.invokevirtual 76, 3) := by decide +kernel
theorem dL_numbers_49 : decode cL_numbers 49 = .ok (.istore 8, 2) := by decide +kernel
theorem dL_numbers_51 : decode cL_numbers 51 = .ok (.iload 8, 2) := by decide +kernel
theorem dL_numbers_53 : decode cL_numbers 53 = .ok (.iconst (-1), 1) := by decide +kernel
theorem dL_numbers_54 : decode cL_numbers 54 = .ok (.if_icmp .ne 7, 3) := by decide +kernel
theorem dL_numbers_57 : decode cL_numbers 57 = .ok (.iconst 1, 1) := by decide +kernel
theorem dL_numbers_58 : decode cL_numbers 58 = .ok (.goto 4, 3) := by decide +kernel
theorem dL_numbers_61 : decode cL_numbers 61 = .ok (.iconst 0, 1) := by decide +kernel
theorem dL_numbers_62 : decode cL_numbers 62 = .ok (.iload 7, 2) := by decide +kernel
theorem dL_numbers_64 : decode cL_numbers 64 = .ok (.ifCond .ne 7, 3) := by decide +kernel
theorem dL_numbers_67 : decode cL_numbers 67 = .ok (.iconst 1, 1) := by decide +kernel
theorem dL_numbers_68 : decode cL_numbers 68 = .ok (.goto 4, 3) := by decide +kernel
theorem dL_numbers_71 : decode cL_numbers 71 = .ok (.iconst 0, 1) := by decide +kernel
theorem dL_numbers_72 : decode cL_numbers 72 = .ok (.if_icmp .ne 30, 3) := by decide +kernel
theorem dL_numbers_75 : decode cL_numbers 75 = .ok (.aload_n 0, 1) := by decide +kernel
theorem dL_numbers_76 : decode cL_numbers 76 = .ok (.iload 6, 2) := by decide +kernel
theorem dL_numbers_78 : decode cL_numbers 78 = .ok (.iconst 5, 1) := by decide +kernel
theorem dL_numbers_79 : decode cL_numbers 79 = .ok (.invokevirtual 76, 3) := by decide +kernel
theorem dL_numbers_82 : decode cL_numbers 82 = .ok (.iconst 3, 1) := by decide +kernel
theorem dL_numbers_83 : decode cL_numbers 83 = .ok (.if_icmp .gt 19, 3) := by decide +kernel
theorem dL_numbers_86 : decode cL_numbers 86 = .ok (.aload_n 0, 1) := by decide +kernel
theorem dL_numbers_87 : decode cL_numbers 87 = .ok (.iload 6, 2) := by decide +kernel
theorem dL_numbers_89 : decode cL_numbers 89 = .ok (.iconst 0, 1) := by decide +kernel
theorem dL_numbers_90 : decode cL_numbers 90 = .ok (.invokevirtual 79, 3) := by decide +kernel
theorem dL_numbers_93 : decode cL_numbers 93 = .ok (.iload 8, 2) := by decide +kernel
theorem dL_numbers_95 : decode cL_numbers 95 = .ok (.if_icmp .ne 7, 3) := by decide +kernel
theorem dL_numbers_98 : decode cL_numbers 98 = .ok (.iconst 1, 1) := by decide +kernel
theorem dL_numbers_99 : decode cL_numbers 99 = .ok (.goto 4, 3) := by decide +kernel
theorem dL_numbers_102 : decode cL_numbers 102 = .ok (.iconst 0, 1) := by decide +kernel
theorem dL_numbers_103 : decode cL_numbers 103 = .ok (.istore_n 1, 1) := by decide +kernel
theorem dL_numbers_104 : decode cL_numbers 104 = .ok (.iload 7, 2) := by decide +kernel
theorem dL_numbers_106 : decode cL_numbers 106 = .ok (.ifCond .ne 49, 3) := by decide +kernel
theorem dL_numbers_109 : decode cL_numbers 109 = .ok (.iload_n 1, 1) := by decide +kernel
theorem dL_numbers_110 : decode cL_numbers 110 = .ok (.ifCond .eq 40, 3) := by decide +kernel
theorem dL_numbers_113 : decode cL_numbers 113 = .ok (.aload_n 0, 1) := by decide +kernel
theorem dL_numbers_114 : decode cL_numbers 114 = .ok (.iload 6, 2) := by decide +kernel
theorem dL_numbers_116 : decode cL_numbers 116 = .ok (.iconst 5, 1) := by decide +kernel
theorem dL_numbers_117 : decode cL_numbers 117 = .ok (.invokevirtual 76, 3) := by decide +kernel
theorem dL_numbers_120 : decode cL_numbers 120 = .ok (.ifCond .ne 30, 3) := by decide +kernel
theorem dL_numbers_123 : decode cL_numbers 123 = .ok (.aload_n 0, 1) := by decide +kernel
theorem dL_numbers_124 : decode cL_numbers 124 = .ok (.iload 6, 2) := by decide +kernel
theorem dL_numbers_126 : decode cL_numbers 126 = .ok (.iconst 2, 1) := by decide +kernel
theorem dL_numbers_127 : decode cL_numbers 127 = .ok (.invokevirtual 76, 3) := by decide +kernel
theorem dL_numbers_130 : decode cL_numbers 130 = .ok (.iconst (-1), 1) := by decide +kernel
theorem dL_numbers_131 : decode cL_numbers 131 = .ok (.if_icmp .ne 19, 3) := by decide +kernel
theorem dL_numbers_134 : decode cL_numbers 134 = .ok (.aload_n 0, 1) := by decide +kernel
theorem dL_numbers_135 : decode cL_numbers 135 = .ok (.iload 6, 2) := by decide +kernel
theorem dL_numbers_137 : decode cL_numbers 137 = .ok (.bipush 6, 2) := by decide +kernel
theorem dL_numbers_139 : decode cL_numbers 139 = .ok (.invokevirtual 76, 3) := by decide +kernel
theorem dL_numbers_142 : decode cL_numbers 142 = .ok (.iconst (-1), 1) := by decide +kernel
theorem dL_numbers_143 : decode cL_numbers 143 = .ok (.if_icmp .ne 7, 3) := by decide +kernel
theorem dL_numbers_146 : decode cL_numbers 146 = .ok (.iconst 1, 1) := by decide +kernel
theorem dL_numbers_147 : decode cL_numbers 147 = .ok (.goto 4, 3) := by decide +kernel
theorem dL_numbers_150 : decode cL_numbers 150 = .ok (.iconst 0, 1) := by decide +kernel
theorem dL_numbers_151 : decode cL_numbers 151 = .ok (.istore_n 1, 1) := by decide +kernel
theorem dL_numbers_152 : decode cL_numbers 152 = .ok (.goto 188, 3) := by decide +kernel
theorem dL_numbers_155 : decode cL_numbers 155 = .ok (.iload_n 1, 1) := by decide +kernel
theorem dL_numbers_156 : decode cL_numbers 156 = .ok (.ifCond .eq 63, 3) := by decide +kernel
theorem dL_numbers_159 : decode cL_numbers 159 = .ok (.aload_n 0, 1) := by decide +kernel
theorem dL_numbers_160 : decode cL_numbers 160 = .ok (.iload 6, 2) := by decide +kernel
theorem dL_numbers_162 : decode cL_numbers 162 = .ok (.iconst 2, 1) := by decide +kernel
theorem dL_numbers_163 : decode cL_numbers 163 = .ok (.invokevirtual 76, 3) := by decide +kernel
theorem dL_numbers_166 : decode cL_numbers 166 = .ok (.aload_n 0, 1) := by decide +kernel
theorem dL_numbers_167 : decode cL_numbers 167 = .ok (.iload 6, 2) := by decide +kernel
theorem dL_numbers_169 : decode cL_numbers 169 = .ok (.iconst 3, 1) := by decide +kernel
theorem dL_numbers_170 : decode cL_numbers 170 = .ok (.invokevirtual 76, 3) := by decide +kernel
theorem dL_numbers_173 : decode cL_numbers 173 = .ok (.if_icmp .ge 46, 3) := by decide +kernel
theorem dL_numbers_176 : decode cL_numbers 176 = .ok (.aload_n 0, 1) := by decide +kernel
theorem dL_numbers_177 : decode cL_numbers 177 = .ok (.iload 6, 2) := by decide +kernel
theorem dL_numbers_179 : decode cL_numbers 179 = .ok (.iconst 3, 1) := by decide +kernel
theorem dL_numbers_180 : decode cL_numbers 180 = .ok (.invokevirtual 76, 3) := by decide +kernel
theorem dL_numbers_183 : decode cL_numbers 183 = .ok (.aload_n 0, 1) := by decide +kernel
theorem dL_numbers_184 : decode cL_numbers 184 = .ok (.iload 6, 2) := by decide +kernel
theorem dL_numbers_186 : decode cL_numbers 186 = .ok (.iconst 4, 1) := by decide +kernel
theorem dL_numbers_187 : decode cL_numbers 187 = .ok (.invokevirtual 76, 3) := by decide +kernel
theorem dL_numbers_190 : decode cL_numbers 190 = .ok (.if_icmp .gt 29, 3) := by decide +kernel
theorem dL_numbers_193 : decode cL_numbers 193 = .ok (.aload_n 0, 1) := by decide +kernel
theorem dL_numbers_194 : decode cL_numbers 194 = .ok (.iload 6, 2) := by decide +kernel
theorem dL_numbers_196 : decode cL_numbers 196 = .ok (.iconst 2, 1) := by decide +kernel
theorem dL_numbers_197 : decode cL_numbers 197 = .ok (.invokevirtual 76, 3) := by decide +kernel
theorem dL_numbers_200 : decode cL_numbers 200 = .ok (.iload_n 2, 1) := by decide +kernel
theorem dL_numbers_201 : decode cL_numbers 201 = .ok (.if_icmp .gt 18, 3) := by decide +kernel
theorem dL_numbers_204 : decode cL_numbers 204 = .ok (.iload_n 2, 1) := by decide +kernel
theorem dL_numbers_205 : decode cL_numbers 205 = .ok (.aload_n 0, 1) := by decide +kernel
theorem dL_numbers_206 : decode cL_numbers 206 = .ok (.iload 6, 2) := by decide +kernel
theorem dL_numbers_208 : decode cL_numbers 208 = .ok (.iconst 4, 1) := by decide +kernel
theorem dL_numbers_209 : decode cL_numbers 209 = .ok (.invokevirtual 76, 3) := by decide +kernel
theorem dL_numbers_212 : decode cL_numbers 212 = .ok (.if_icmp .ge 7, 3) := by decide +kernel
theorem dL_numbers_215 : decode cL_numbers 215 = .ok (.iconst 1, 1) := by decide +kernel
theorem dL_numbers_216 : decode cL_numbers 216 = .ok (.goto 4, 3) := by decide +kernel
theorem dL_numbers_219 : decode cL_numbers 219 = .ok (.iconst 0, 1) := by decide +kernel
theorem dL_numbers_220 : decode cL_numbers 220 = .ok (.istore_n 1, 1) := by decide +kernel
theorem dL_numbers_221 : decode cL_numbers 221 = .ok (.iload_n 1, 1) := by decide +kernel
theorem dL_numbers_222 : decode cL_numbers 222 = .ok (.ifCond .eq 84, 3) := by decide +kernel
theorem dL_numbers_225 : decode cL_numbers 225 = .ok (.iload 7, 2) := by decide +kernel
theorem dL_numbers_227 : decode cL_numbers 227 = .ok (.iconst 1, 1) := by decide +kernel
theorem dL_numbers_228 : decode cL_numbers 228 = .ok (.if_icmp .ne 7, 3) := by decide +kernel
theorem dL_numbers_231 : decode cL_numbers 231 = .ok (.iconst 1, 1) := by decide +kernel
theorem dL_numbers_232 : decode cL_numbers 232 = .ok (.goto 4, 3) := by decide +kernel
theorem dL_numbers_235 : decode cL_numbers 235 = .ok (.iconst 0, 1) := by decide +kernel
theorem dL_numbers_236 : decode cL_numbers 236 = .ok (.iload_n 2, 1) := by decide +kernel
theorem dL_numbers_237 : decode cL_numbers 237 = .ok (.aload_n 0, 1) := by decide +kernel
theorem dL_numbers_238 : decode cL_numbers 238 = .ok (.iload 6, 2) := by decide +kernel
theorem dL_numbers_240 : decode cL_numbers 240 = .ok (.iconst 3, 1) := by decide +kernel
theorem dL_numbers_241 : decode cL_numbers 241 = .ok (.invokevirtual 76, 3) := by decide +kernel
theorem dL_numbers_244 : decode cL_numbers 244 = .ok (.if_icmp .ge 7, 3) := by decide +kernel
theorem dL_numbers_247 : decode cL_numbers 247 = .ok (.iconst 1, 1) := by decide +kernel
theorem dL_numbers_248 : decode cL_numbers 248 = .ok (.goto 4, 3) := by decide +kernel
theorem dL_numbers_251 : decode cL_numbers 251 = .ok (.iconst 0, 1) := by decide +kernel
theorem dL_numbers_252 : decode cL_numbers 252 = .ok (.if_icmp .ne 54, 3) := by decide +kernel
theorem dL_numbers_255 : decode cL_numbers 255 = .ok (.aload_n 0, 1) := by decide +kernel
theorem dL_numbers_256 : decode cL_numbers 256 = .ok (.iload 6, 2) := by decide +kernel
theorem dL_numbers_258 : decode cL_numbers 258 = .ok (.bipush 6, 2) := by decide +kernel
theorem dL_numbers_260 : decode cL_numbers 260 = .ok (.invokevirtual 76, 3) := by decide +kernel
theorem dL_numbers_263 : decode cL_numbers 263 = .ok (.iload 8, 2) := by decide +kernel
theorem dL_numbers_265 : decode cL_numbers 265 = .ok (.if_icmp .eq 41, 3) := by decide +kernel
theorem dL_numbers_268 : decode cL_numbers 268 = .ok (.aload_n 0, 1) := by decide +kernel
theorem dL_numbers_269 : decode cL_numbers 269 = .ok (.iload 6, 2) := by decide +kernel
theorem dL_numbers_271 : decode cL_numbers 271 = .ok (.iconst 5, 1) := by decide +kernel
theorem dL_numbers_272 : decode cL_numbers 272 = .ok (.invokevirtual 76, 3) := by decide +kernel
theorem dL_numbers_275 : decode cL_numbers 275 = .ok (.ifCond .le 7, 3) := by decide +kernel
theorem dL_numbers_278 : decode cL_numbers 278 = .ok (.iconst 1, 1) := by decide +kernel
theorem dL_numbers_279 : decode cL_numbers 279 = .ok (.goto 4, 3) := by decide +kernel
theorem dL_numbers_282 : decode cL_numbers 282 = .ok (.iconst 0, 1) := by decide +kernel
theorem dL_numbers_283 : decode cL_numbers 283 = .ok (.aload_n 0, 1) := by decide +kernel
theorem dL_numbers_284 : decode cL_numbers 284 = .ok (.iload 6, 2) := by decide +kernel
theorem dL_numbers_286 : decode cL_numbers 286 = .ok (.bipush 6, 2) := by decide +kernel
theorem dL_numbers_288 : decode cL_numbers 288 = .ok (.invokevirtual 76, 3) := by decide +kernel
theorem dL_numbers_291 : decode cL_numbers 291 = .ok (.ifCond .lt 7, 3) := by decide +kernel
theorem dL_numbers_294 : decode cL_numbers 294 = .ok (.iconst 1, 1) := by decide +kernel
theorem dL_numbers_295 : decode cL_numbers 295 = .ok (.goto 4, 3) := by decide +kernel
theorem dL_numbers_298 : decode cL_numbers 298 = .ok (.iconst 0, 1) := by decide +kernel
theorem dL_numbers_299 : decode cL_numbers 299 = .ok (.if_icmp .ne 7, 3) := by decide +kernel
theorem dL_numbers_302 : decode cL_numbers 302 = .ok (.iconst 1, 1) := by decide +kernel
theorem dL_numbers_303 : decode cL_numbers 303 = .ok (.goto 4, 3) := by decide +kernel
theorem dL_numbers_306 : decode cL_numbers 306 = .ok (.iconst 0, 1) := by decide +kernel
theorem dL_numbers_307 : decode cL_numbers 307 = .ok (.istore_n 1, 1) := by decide +kernel
theorem dL_numbers_308 : decode cL_numbers 308 = .ok (.iload_n 1, 1) := by decide +kernel
theorem dL_numbers_309 : decode cL_numbers 309 = .ok (.ifCond .eq 29, 3) := by decide +kernel
theorem dL_numbers_312 : decode cL_numbers 312 = .ok (.aload_n 0, 1) := by decide +kernel
theorem dL_numbers_313 : decode cL_numbers 313 = .ok (.iload 8, 2) := by decide +kernel
theorem dL_numbers_315 : decode cL_numbers 315 = .ok (.iload 6, 2) := by decide +kernel
theorem dL_numbers_317 : decode cL_numbers 317 = .ok (.invokevirtual 82, 3) := by decide +kernel
theorem dL_numbers_320 : decode cL_numbers 320 = .ok (.ifCond .ne 18, 3) := by decide +kernel
theorem dL_numbers_323 : decode cL_numbers 323 = .ok (.aload_n 0, 1) := by decide +kernel
theorem dL_numbers_324 : decode cL_numbers 324 = .ok (.iload 6, 2) := by decide +kernel
theorem dL_numbers_326 : decode cL_numbers 326 = .ok (.bipush 8, 2) := by decide +kernel
theorem dL_numbers_328 : decode cL_numbers 328 = .ok (.invokevirtual 76, 3) := by decide +kernel
theorem dL_numbers_331 : decode cL_numbers 331 = .ok (.ifCond .le 7, 3) := by decide +kernel
theorem dL_numbers_334 : decode cL_numbers 334 = .ok (.iconst 1, 1) := by decide +kernel
theorem dL_numbers_335 : decode cL_numbers 335 = .ok (.goto 4, 3) := by decide +kernel
theorem dL_numbers_338 : decode cL_numbers 338 = .ok (.iconst 0, 1) := by decide +kernel
theorem dL_numbers_339 : decode cL_numbers 339 = .ok (.istore_n 1, 1) := by decide +kernel
theorem dL_numbers_340 : decode cL_numbers 340 = .ok (.iload_n 3, 1) := by decide +kernel
theorem dL_numbers_341 : decode cL_numbers 341 = .ok (.iload 7, 2) := by decide +kernel
theorem dL_numbers_343 : decode cL_numbers 343 = .ok (.ifCond .ne 7, 3) := by decide +kernel
theorem dL_numbers_346 : decode cL_numbers 346 = .ok (.iconst 1, 1) := by decide +kernel
theorem dL_numbers_347 : decode cL_numbers 347 = .ok (.goto 4, 3) := by decide +kernel
theorem dL_numbers_350 : decode cL_numbers 350 = .ok (.iconst 0, 1) := by decide +kernel
theorem dL_numbers_351 : decode cL_numbers 351 = .ok (.iadd, 1) := by decide +kernel
theorem dL_numbers_352 : decode cL_numbers 352 = .ok (.istore_n 3, 1) := by decide +kernel
theorem dL_numbers_353 : decode cL_numbers 353 = .ok (.iload 4, 2) := by decide +kernel
theorem dL_numbers_355 : decode cL_numbers 355 = .ok (.iload 7, 2) := by decide +kernel
theorem dL_numbers_357 : decode cL_numbers 357 = .ok (.iconst 1, 1) := by decide +kernel
theorem dL_numbers_358 : decode cL_numbers 358 = .ok (.if_icmp .ne 7, 3) := by decide +kernel
theorem dL_numbers_361 : decode cL_numbers 361 = .ok (.iconst 1, 1) := by decide +kernel
theorem dL_numbers_362 : decode cL_numbers 362 = .ok (.goto 4, 3) := by decide +kernel
theorem dL_numbers_365 : decode cL_numbers 365 = .ok (.iconst 0, 1) := by decide +kernel
theorem dL_numbers_366 : decode cL_numbers 366 = .ok (.iadd, 1) := by decide +kernel
theorem dL_numbers_367 : decode cL_numbers 367 = .ok (.istore 4, 2) := by decide +kernel
theorem dL_numbers_369 : decode cL_numbers 369 = .ok (.iload 5, 2) := by decide +kernel
theorem dL_numbers_371 : decode cL_numbers 371 = .ok (.aload_n 0, 1) := by decide +kernel
theorem dL_numbers_372 : decode cL_numbers 372 = .ok (.iload 6, 2) := by decide +kernel
theorem dL_numbers_374 : decode cL_numbers 374 = .ok (.iconst 5, 1) := by decide +kernel
theorem dL_numbers_375 : decode cL_numbers 375 = .ok (.invokevirtual 76, 3) := by decide +kernel
theorem dL_numbers_378 : decode cL_numbers 378 = .ok (.iadd, 1) := by decide +kernel
theorem dL_numbers_379 : decode cL_numbers 379 = .ok (.istore 5, 2) := by decide +kernel
theorem dL_numbers_381 : decode cL_numbers 381 = .ok (.iinc 6 1, 3) := by decide +kernel
theorem dL_numbers_384 : decode cL_numbers 384 = .ok (.goto (-365), 3) := by decide +kernel
theorem dL_numbers_387 : decode cL_numbers 387 = .ok (.iload_n 1, 1) := by decide +kernel
theorem dL_numbers_388 : decode cL_numbers 388 = .ok (.ifCond .eq 54, 3) := by decide +kernel
theorem dL_numbers_391 : decode cL_numbers 391 = .ok (.iload_n 3, 1) := by decide +kernel
theorem dL_numbers_392 : decode cL_numbers 392 = .ok (.aload_n 0, 1) := by decide +kernel
theorem dL_numbers_393 : decode cL_numbers 393 = .ok (.iconst 1, 1) := by decide +kernel
theorem dL_numbers_394 : decode cL_numbers 394 = .ok (.invokevirtual 73, 3) := by decide +kernel
theorem dL_numbers_397 : decode cL_numbers 397 = .ok (.if_icmp .ne 45, 3) := by decide +kernel
theorem dL_numbers_400 : decode cL_numbers 400 = .ok (.iload 4, 2) := by decide +kernel
theorem dL_numbers_402 : decode cL_numbers 402 = .ok (.aload_n 0, 1) := by decide +kernel
theorem dL_numbers_403 : decode cL_numbers 403 = .ok (.iconst 2, 1) := by decide +kernel
theorem dL_numbers_404 : decode cL_numbers 404 = .ok (.invokevirtual 73, 3) := by decide +kernel
theorem dL_numbers_407 : decode cL_numbers 407 = .ok (.if_icmp .ne 35, 3) := by decide +kernel
theorem dL_numbers_410 : decode cL_numbers 410 = .ok (.iload_n 3, 1) := by decide +kernel
theorem dL_numbers_411 : decode cL_numbers 411 = .ok (.iload 4, 2) := by decide +kernel
theorem dL_numbers_413 : decode cL_numbers 413 = .ok (.iadd, 1) := by decide +kernel
theorem dL_numbers_414 : decode cL_numbers 414 = .ok (.aload_n 0, 1) := by decide +kernel
theorem dL_numbers_415 : decode cL_numbers 415 = .ok (.iconst 3, 1) := by decide +kernel
theorem dL_numbers_416 : decode cL_numbers 416 = .ok (.invokevirtual 73, 3) := by decide +kernel
theorem dL_numbers_419 : decode cL_numbers 419 = .ok (.iadd, 1) := by decide +kernel
theorem dL_numbers_420 : decode cL_numbers 420 = .ok (.aload_n 0, 1) := by decide +kernel
theorem dL_numbers_421 : decode cL_numbers 421 = .ok (.iconst 3, 1) := by decide +kernel
theorem dL_numbers_422 : decode cL_numbers 422 = .ok (.invokevirtual 37, 3) := by decide +kernel
theorem dL_numbers_425 : decode cL_numbers 425 = .ok (.if_icmp .ne 17, 3) := by decide +kernel
theorem dL_numbers_428 : decode cL_numbers 428 = .ok (.iload 5, 2) := by decide +kernel
theorem dL_numbers_430 : decode cL_numbers 430 = .ok (.aload_n 0, 1) := by decide +kernel
theorem dL_numbers_431 : decode cL_numbers 431 = .ok (.iconst 4, 1) := by decide +kernel
theorem dL_numbers_432 : decode cL_numbers 432 = .ok (.invokevirtual 73, 3) := by decide +kernel
theorem dL_numbers_435 : decode cL_numbers 435 = .ok (.if_icmp .ne 7, 3) := by decide +kernel
theorem dL_numbers_438 : decode cL_numbers 438 = .ok (.iconst 1, 1) := by decide +kernel
theorem dL_numbers_439 : decode cL_numbers 439 = .ok (.goto 4, 3) := by decide +kernel
theorem dL_numbers_442 : decode cL_numbers 442 = .ok (.iconst 0, 1) := by decide +kernel
theorem dL_numbers_443 : decode cL_numbers 443 = .ok (.istore_n 1, 1) := by decide +kernel
theorem dL_numbers_444 : decode cL_numbers 444 = .ok (.iload_n 1, 1) := by decide +kernel
theorem dL_numbers_445 : decode cL_numbers 445 = .ok (.ifCond .eq 48, 3) := by decide +kernel
theorem dL_numbers_448 : decode cL_numbers 448 = .ok (.aload_n 0, 1) := by decide +kernel
theorem dL_numbers_449 : decode cL_numbers 449 = .ok (.iconst 5, 1) := by decide +kernel
theorem dL_numbers_450 : decode cL_numbers 450 = .ok (.invokevirtual 73, 3) := by decide +kernel
theorem dL_numbers_453 : decode cL_numbers 453 = .ok (.aload_n 0, 1) := by decide +kernel
theorem dL_numbers_454 : decode cL_numbers 454 = .ok (.bipush 8, 2) := by decide +kernel
theorem dL_numbers_456 : decode cL_numbers 456 = .ok (.invokevirtual 73, 3) := by decide +kernel
theorem dL_numbers_459 : decode cL_numbers 459 = .ok (.aload_n 0, 1) := by decide +kernel
theorem dL_numbers_460 : decode cL_numbers 460 = .ok (.iconst 2, 1) := by decide +kernel
theorem dL_numbers_461 : decode cL_numbers 461 = .ok (.invokevirtual 73, 3) := by decide +kernel
theorem dL_numbers_464 : decode cL_numbers 464 = .ok (.iadd, 1) := by decide +kernel
theorem dL_numbers_465 : decode cL_numbers 465 = .ok (.aload_n 0, 1) := by decide +kernel
theorem dL_numbers_466 : decode cL_numbers 466 = .ok (.iconst 3, 1) := by decide +kernel
theorem dL_numbers_467 : decode cL_numbers 467 = .ok (.invokevirtual 73, 3) := by decide +kernel
theorem dL_numbers_470 : decode cL_numbers 470 = .ok (.iadd, 1) := by decide +kernel
theorem dL_numbers_471 : decode cL_numbers 471 = .ok (.if_icmp .ne 22, 3) := by decide +kernel
theorem dL_numbers_474 : decode cL_numbers 474 = .ok (.aload_n 0, 1) := by decide +kernel
theorem dL_numbers_475 : decode cL_numbers 475 = .ok (.bipush 7, 2) := by decide +kernel
theorem dL_numbers_477 : decode cL_numbers 477 = .ok (.invokevirtual 73, 3) := by decide +kernel
theorem dL_numbers_480 : decode cL_numbers 480 = .ok (.aload_n 0, 1) := by decide +kernel
theorem dL_numbers_481 : decode cL_numbers 481 = .ok (.bipush 6, 2) := by decide +kernel
theorem dL_numbers_483 : decode cL_numbers 483 = .ok (.invokevirtual 73, 3) := by decide +kernel
theorem dL_numbers_486 : decode cL_numbers 486 = .ok (.if_icmp .gt 7, 3) := by decide +kernel
theorem dL_numbers_489 : decode cL_numbers 489 = .ok (.iconst 1, 1) := by decide +kernel
theorem dL_numbers_490 : decode cL_numbers 490 = .ok (.goto 4, 3) := by decide +kernel
theorem dL_numbers_493 : decode cL_numbers 493 = .ok (.iconst 0, 1) := by decide +kernel
theorem dL_numbers_494 : decode cL_numbers 494 = .ok (.ireturn, 1) := by decide +kernel
theorem dL_holders_0 : decode cL_holders 0 = .ok (.iconst 0, 1) := by decide +kernel
theorem dL_holders_1 : decode cL_holders 1 = .ok (.istore_n 1, 1) := by decide +kernel
theorem dL_holders_2 : decode cL_holders 2 = .ok (.iconst 0, 1) := by decide +kernel
theorem dL_holders_3 : decode cL_holders 3 = .ok (.istore_n 2, 1) := by decide +kernel
theorem dL_holders_4 : decode cL_holders 4 = .ok (.iconst 0, 1) := by decide +kernel
theorem dL_holders_5 : decode cL_holders 5 = .ok (.istore_n 3, 1) := by decide +kernel
theorem dL_holders_6 : decode cL_holders 6 = .ok (.iconst 0, 1) := by decide +kernel
theorem dL_holders_7 : decode cL_holders 7 = .ok (.istore 4, 2) := by decide +kernel
theorem dL_holders_9 : decode cL_holders 9 = .ok (.iconst 0, 1) := by decide +kernel
theorem dL_holders_10 : decode cL_holders 10 = .ok (.istore 5, 2) := by decide +kernel
theorem dL_holders_12 : decode cL_holders 12 = .ok (.iconst 1, 1) := by decide +kernel
theorem dL_holders_13 : decode cL_holders 13 = .ok (.istore 6, 2) := by decide +kernel
theorem dL_holders_15 : decode cL_holders 15 = .ok (.iconst 0, 1) := by decide +kernel
theorem dL_holders_16 : decode cL_holders 16 = .ok (.istore 7, 2) := by decide +kernel
theorem dL_holders_18 : decode cL_holders 18 = .ok (.iload 7, 2) := by decide +kernel
theorem dL_holders_20 : decode cL_holders 20 = .ok (.bipush 8, 2) := by decide +kernel
theorem dL_holders_22 : decode cL_holders 22 = .ok (.if_icmp .ge 211, 3) := by decide +kernel
theorem dL_holders_25 : decode cL_holders 25 = .ok (.iload 6, 2) := by decide +kernel
theorem dL_holders_27 : decode cL_holders 27 = .ok (.ifCond .eq 206, 3) := by decide +kernel
theorem dL_holders_30 : decode cL_holders 30 = .ok (.aload_n 0, 1) := by decide +kernel
theorem dL_holders_31 : decode cL_holders 31 = .ok (.iload 7, 2) := by decide +kernel
theorem dL_holders_33 : decode cL_holders 33 = .ok (.iconst 3, 1) := by decide +kernel
theorem dL_holders_34 : decode cL_holders 34 = .ok (.invokevirtual 85, 3) := by decide +kernel
theorem dL_holders_37 : decode cL_holders 37 = .ok (.istore 8, 2) := by decide +kernel
theorem dL_holders_39 : decode cL_holders 39 = .ok (.iload 8, 2) := by decide +kernel
theorem dL_holders_41 : decode cL_holders 41 = .ok (.iconst (-1), 1) := by decide +kernel
theorem dL_holders_42 : decode cL_holders 42 = .ok (.if_icmp .ne 7, 3) := by decide +kernel
theorem dL_holders_45 : decode cL_holders 45 = .ok (.iconst 1, 1) := by decide +kernel
theorem dL_holders_46 : decode cL_holders 46 = .ok (.goto 4, 3) := by decide +kernel
theorem dL_holders_49 : decode cL_holders 49 = .ok (.iconst 0, 1) := by decide +kernel
theorem dL_holders_50 : decode cL_holders 50 = .ok (.aload_n 0, 1) := by decide +kernel
theorem dL_holders_51 : decode cL_holders 51 = .ok (.iload 7, 2) := by decide +kernel
theorem dL_holders_53 : decode cL_holders 53 = .ok (.iconst 0, 1) := by decide +kernel
theorem dL_holders_54 : decode cL_holders 54 = .ok (.invokevirtual 85, 3) := by decide +kernel
theorem dL_holders_57 : decode cL_holders 57 = .ok (.aload_n 0, 1) := by decide +kernel
theorem dL_holders_58 : decode cL_holders 58 = .ok (.iload 7, 2) := by decide +kernel
theorem dL_holders_60 : decode cL_holders 60 = .ok (.iconst 1, 1) := by decide +kernel
theorem dL_holders_61 : decode cL_holders 61 = .ok (.invokevirtual 85, 3) := by decide +kernel
theorem dL_holders_64 : decode cL_holders 64 = .ok (.iadd, 1) := by decide +kernel
theorem dL_holders_65 : decode cL_holders 65 = .ok (.ifCond .ne 7, 3) := by decide +kernel
theorem dL_holders_68 : decode cL_holders 68 = .ok (.iconst 1, 1) := by decide +kernel
theorem dL_holders_69 : decode cL_holders 69 = .ok (.goto 4, 3) := by decide +kernel
theorem dL_holders_72 : decode cL_holders 72 = .ok (.iconst 0, 1) := by decide +kernel
theorem dL_holders_73 : decode cL_holders 73 = .ok (.if_icmp .ne 25, 3) := by decide +kernel
theorem dL_holders_76 : decode cL_holders 76 = .ok (.iload 8, 2) := by decide +kernel
theorem dL_holders_78 : decode cL_holders 78 = .ok (.iconst (-1), 1) := by decide +kernel
theorem dL_holders_79 : decode cL_holders 79 = .ok (.if_icmp .eq 15, 3) := by decide +kernel
theorem dL_holders_82 : decode cL_holders 82 = .ok (.aload_n 0, 1) := by decide +kernel
theorem dL_holders_83 : decode cL_holders 83 = .ok (.iload 8, 2) := by decide +kernel
theorem dL_holders_85 : decode cL_holders 85 = .ok (.iconst 1, 1) := by decide +kernel
theorem dL_holders_86 : decode cL_holders 86 = .ok (.invokevirtual 76, 3) := by decide +kernel
theorem dL_holders_89 : decode cL_holders 89 = .ok (.iload 7, 2) := by decide +kernel
theorem dL_holders_91 : decode cL_holders 91 = .ok (.if_icmp .ne 7, 3) := by decide +kernel
theorem dL_holders_94 : decode cL_holders 94 = .ok (.iconst 1, 1) := by decide +kernel
theorem dL_holders_95 : decode cL_holders 95 = .ok (.goto 4, 3) := by decide +kernel
theorem dL_holders_98 : decode cL_holders 98 = .ok (.iconst 0, 1) := by decide +kernel
theorem dL_holders_99 : decode cL_holders 99 = .ok (.istore 6, 2) := by decide +kernel
theorem dL_holders_101 : decode cL_holders 101 = .ok (.iload 6, 2) := by decide +kernel
theorem dL_holders_103 : decode cL_holders 103 = .ok (.ifCond .eq 66, 3) := by decide +kernel
theorem dL_holders_106 : decode cL_holders 106 = .ok (.aload_n 0, 1) := by decide +kernel
theorem dL_holders_107 : decode cL_holders 107 = .ok (.iload 7, 2) := by decide +kernel
theorem dL_holders_109 : decode cL_holders 109 = .ok (.iconst 4, 1) := by decide +kernel
theorem dL_holders_110 : decode cL_holders 110 = .ok (.invokevirtual 85, 3) := by decide +kernel
theorem dL_holders_113 : decode cL_holders 113 = .ok (.iconst (-1), 1) := by decide +kernel
theorem dL_holders_114 : decode cL_holders 114 = .ok (.if_icmp .ne 7, 3) := by decide +kernel
theorem dL_holders_117 : decode cL_holders 117 = .ok (.iconst 1, 1) := by decide +kernel
theorem dL_holders_118 : decode cL_holders 118 = .ok (.goto 4, 3) := by decide +kernel
theorem dL_holders_121 : decode cL_holders 121 = .ok (.iconst 0, 1) := by decide +kernel
theorem dL_holders_122 : decode cL_holders 122 = .ok (.aload_n 0, 1) := by decide +kernel
theorem dL_holders_123 : decode cL_holders 123 = .ok (.iload 7, 2) := by decide +kernel
theorem dL_holders_125 : decode cL_holders 125 = .ok (.iconst 0, 1) := by decide +kernel
theorem dL_holders_126 : decode cL_holders 126 = .ok (.invokevirtual 85, 3) := by decide +kernel
theorem dL_holders_129 : decode cL_holders 129 = .ok (.ifCond .ne 7, 3) := by decide +kernel
theorem dL_holders_132 : decode cL_holders 132 = .ok (.iconst 1, 1) := by decide +kernel
theorem dL_holders_133 : decode cL_holders 133 = .ok (.goto 4, 3) := by decide +kernel
theorem dL_holders_136 : decode cL_holders 136 = .ok (.iconst 0, 1) := by decide +kernel
theorem dL_holders_137 : decode cL_holders 137 = .ok (.if_icmp .ne 32, 3) := by decide +kernel
theorem dL_holders_140 : decode cL_holders 140 = .ok (.aload_n 0, 1) := by decide +kernel
theorem dL_holders_141 : decode cL_holders 141 = .ok (.iload 7, 2) := by decide +kernel
theorem dL_holders_143 : decode cL_holders 143 = .ok (.iconst 0, 1) := by decide +kernel
theorem dL_holders_144 : decode cL_holders 144 = .ok (.invokevirtual 85, 3) := by decide +kernel
theorem dL_holders_147 : decode cL_holders 147 = .ok (.ifCond .eq 18, 3) := by decide +kernel
theorem dL_holders_150 : decode cL_holders 150 = .ok (.aload_n 0, 1) := by decide +kernel
theorem dL_holders_151 : decode cL_holders 151 = .ok (.iload 7, 2) := by decide +kernel
theorem dL_holders_153 : decode cL_holders 153 = .ok (.iconst 4, 1) := by decide +kernel
theorem dL_holders_154 : decode cL_holders 154 = .ok (.invokevirtual 85, 3) := by decide +kernel
theorem dL_holders_157 : decode cL_holders 157 = .ok (.aload_n 0, 1) := by decide +kernel
theorem dL_holders_158 : decode cL_holders 158 = .ok (.iconst 0, 1) := by decide +kernel
theorem dL_holders_159 : decode cL_holders 159 = .ok (.invokevirtual 73, 3) := by decide +kernel
theorem dL_holders_162 : decode cL_holders 162 = .ok (.if_icmp .le 7, 3) := by decide +kernel
theorem dL_holders_165 : decode cL_holders 165 = .ok (.iconst 1, 1) := by decide +kernel
theorem dL_holders_166 : decode cL_holders 166 = .ok (.goto 4, 3) := by decide +kernel
theorem dL_holders_169 : decode cL_holders 169 = .ok (.iconst 0, 1) := by decide +kernel
theorem dL_holders_170 : decode cL_holders 170 = .ok (.istore 6, 2) := by decide +kernel
theorem dL_holders_172 : decode cL_holders 172 = .ok (.iload_n 1, 1) := by decide +kernel
theorem dL_holders_173 : decode cL_holders 173 = .ok (.aload_n 0, 1) := by decide +kernel
theorem dL_holders_174 : decode cL_holders 174 = .ok (.iload 7, 2) := by decide +kernel
theorem dL_holders_176 : decode cL_holders 176 = .ok (.iconst 0, 1) := by decide +kernel
theorem dL_holders_177 : decode cL_holders 177 = .ok (.invokevirtual 85, 3) := by decide +kernel
theorem dL_holders_180 : decode cL_holders 180 = .ok (.iadd, 1) := by decide +kernel
theorem dL_holders_181 : decode cL_holders 181 = .ok (.istore_n 1, 1) := by decide +kernel
theorem dL_holders_182 : decode cL_holders 182 = .ok (.iload_n 2, 1) := by decide +kernel
theorem dL_holders_183 : decode cL_holders 183 = .ok (.aload_n 0, 1) := by decide +kernel
theorem dL_holders_184 : decode cL_holders 184 = .ok (.iload 7, 2) := by decide +kernel
theorem dL_holders_186 : decode cL_holders 186 = .ok (.iconst 1, 1) := by decide +kernel
theorem dL_holders_187 : decode cL_holders 187 = .ok (.invokevirtual 85, 3) := by decide +kernel
theorem dL_holders_190 : decode cL_holders 190 = .ok (.iadd, 1) := by decide +kernel
theorem dL_holders_191 : decode cL_holders 191 = .ok (.istore_n 2, 1) := by decide +kernel
theorem dL_holders_192 : decode cL_holders 192 = .ok (.iload_n 3, 1) := by decide +kernel
theorem dL_holders_193 : decode cL_holders 193 = .ok (.aload_n 0, 1) := by decide +kernel
theorem dL_holders_194 : decode cL_holders 194 = .ok (.iload 7, 2) := by decide +kernel
theorem dL_holders_196 : decode cL_holders 196 = .ok (.iconst 2, 1) := by decide +kernel
theorem dL_holders_197 : decode cL_holders 197 = .ok (.invokevirtual 85, 3) := by decide +kernel
theorem dL_holders_200 : decode cL_holders 200 = .ok (.iadd, 1) := by decide +kernel
theorem dL_holders_201 : decode cL_holders 201 = .ok (.istore_n 3, 1) := by decide +kernel
theorem dL_holders_202 : decode cL_holders 202 = .ok (.iload 4, 2) := by decide +kernel
theorem dL_holders_204 : decode cL_holders 204 = .ok (.aload_n 0, 1) := by decide +kernel
theorem dL_holders_205 : decode cL_holders 205 = .ok (.iload 7, 2) := by decide +kernel
theorem dL_holders_207 : decode cL_holders 207 = .ok (.iconst 5, 1) := by decide +kernel
theorem dL_holders_208 : decode cL_holders 208 = .ok (.invokevirtual 85, 3) := by decide +kernel
theorem dL_holders_211 : decode cL_holders 211 = .ok (.iadd, 1) := by decide +kernel
theorem dL_holders_212 : decode cL_holders 212 = .ok (.istore 4, 2) := by decide +kernel
theorem dL_holders_214 : decode cL_holders 214 = .ok (.iload 5, 2) := by decide +kernel
theorem dL_holders_216 : decode cL_holders 216 = .ok (.aload_n 0, 1) := by decide +kernel
theorem dL_holders_217 : decode cL_holders 217 = .ok (.iload 7, 2) := by decide +kernel
theorem dL_holders_219 : decode cL_holders 219 = .ok (.bipush 6, 2) := by decide +kernel
theorem dL_holders_221 : decode cL_holders 221 = .ok (.invokevirtual 85, 3) := by decide +kernel
theorem dL_holders_224 : decode cL_holders 224 = .ok (.iadd, 1) := by decide +kernel
theorem dL_holders_225 : decode cL_holders 225 = .ok (.istore 5, 2) := by decide +kernel
theorem dL_holders_227 : decode cL_holders 227 = .ok (.iinc 7 1, 3) := by decide +kernel
theorem dL_holders_230 : decode cL_holders 230 = .ok (.goto (-212), 3) := by decide +kernel
theorem dL_holders_233 : decode cL_holders 233 = .ok (.iload 6, 2) := by decide +kernel
theorem dL_holders_235 : decode cL_holders 235 = .ok (.ifCond .eq 55, 3) := by decide +kernel
theorem dL_holders_238 : decode cL_holders 238 = .ok (.iload_n 1, 1) := by decide +kernel
theorem dL_holders_239 : decode cL_holders 239 = .ok (.aload_n 0, 1) := by decide +kernel
theorem dL_holders_240 : decode cL_holders 240 = .ok (.iconst 2, 1) := by decide +kernel
theorem dL_holders_241 : decode cL_holders 241 = .ok (.invokevirtual 73, 3) := by decide +kernel
theorem dL_holders_244 : decode cL_holders 244 = .ok (.if_icmp .ne 46, 3) := by decide +kernel
theorem dL_holders_247 : decode cL_holders 247 = .ok (.iload_n 2, 1) := by decide +kernel
theorem dL_holders_248 : decode cL_holders 248 = .ok (.aload_n 0, 1) := by decide +kernel
theorem dL_holders_249 : decode cL_holders 249 = .ok (.iconst 3, 1) := by decide +kernel
theorem dL_holders_250 : decode cL_holders 250 = .ok (.invokevirtual 73, 3) := by decide +kernel
theorem dL_holders_253 : decode cL_holders 253 = .ok (.if_icmp .ne 37, 3) := by decide +kernel
theorem dL_holders_256 : decode cL_holders 256 = .ok (.iload_n 3, 1) := by decide +kernel
theorem dL_holders_257 : decode cL_holders 257 = .ok (.aload_n 0, 1) := by decide +kernel
theorem dL_holders_258 : decode cL_holders 258 = .ok (.iconst 4, 1) := by decide +kernel
theorem dL_holders_259 : decode cL_holders 259 = .ok (.invokevirtual 73, 3) := by decide +kernel
theorem dL_holders_262 : decode cL_holders 262 = .ok (.if_icmp .ne 28, 3) := by decide +kernel
theorem dL_holders_265 : decode cL_holders 265 = .ok (.iload 4, 2) := by decide +kernel
theorem dL_holders_267 : decode cL_holders 267 = .ok (.aload_n 0, 1) := by decide +kernel
theorem dL_holders_268 : decode cL_holders 268 = .ok (.iconst 5, 1) := by decide +kernel
theorem dL_holders_269 : decode cL_holders 269 = .ok (.invokevirtual 73, 3) := by decide +kernel
theorem dL_holders_272 : decode cL_holders 272 = .ok (.if_icmp .ne 18, 3) := by decide +kernel
theorem dL_holders_275 : decode cL_holders 275 = .ok (.iload 5, 2) := by decide +kernel
theorem dL_holders_277 : decode cL_holders 277 = .ok (.aload_n 0, 1) := by decide +kernel
theorem dL_holders_278 : decode cL_holders 278 = .ok (.bipush 9, 2) := by decide +kernel
theorem dL_holders_280 : decode cL_holders 280 = .ok (.invokevirtual 73, 3) := by decide +kernel
theorem dL_holders_283 : decode cL_holders 283 = .ok (.if_icmp .ne 7, 3) := by decide +kernel
theorem dL_holders_286 : decode cL_holders 286 = .ok (.iconst 1, 1) := by decide +kernel
theorem dL_holders_287 : decode cL_holders 287 = .ok (.goto 4, 3) := by decide +kernel
theorem dL_holders_290 : decode cL_holders 290 = .ok (.iconst 0, 1) := by decide +kernel
theorem dL_holders_291 : decode cL_holders 291 = .ok (.ireturn, 1) := by decide +kernel
theorem dL_spans_0 : decode cL_spans 0 = .ok (.aload_n 0, 1) := by decide +kernel
theorem dL_spans_1 : decode cL_spans 1 = .ok (.bipush 10, 2) := by decide +kernel
theorem dL_spans_3 : decode cL_spans 3 = .ok (.invokevirtual 73, 3) := by decide +kernel
theorem dL_spans_6 : decode cL_spans 6 = .ok (.istore_n 1, 1) := by decide +kernel
theorem dL_spans_7 : decode cL_spans 7 = .ok (.iconst 0, 1) := by decide +kernel
theorem dL_spans_8 : decode cL_spans 8 = .ok (.istore_n 2, 1) := by decide +kernel
theorem dL_spans_9 : decode cL_spans 9 = .ok (.iconst 0, 1) := by decide +kernel
theorem dL_spans_10 : decode cL_spans 10 = .ok (.istore_n 3, 1) := by decide +kernel
theorem dL_spans_11 : decode cL_spans 11 = .ok (.iconst (-1), 1) := by decide +kernel
theorem dL_spans_12 : decode cL_spans 12 = .ok (.istore 4, 2) := by decide +kernel
theorem dL_spans_14 : decode cL_spans 14 = .ok (.iconst 1, 1) := by decide +kernel
theorem dL_spans_15 : decode cL_spans 15 = .ok (.istore 5, 2) := by decide +kernel
theorem dL_spans_17 : decode cL_spans 17 = .ok (.iconst 0, 1) := by decide +kernel
theorem dL_spans_18 : decode cL_spans 18 = .ok (.istore 6, 2) := by decide +kernel
theorem dL_spans_20 : decode cL_spans 20 = .ok (.iload 6, 2) := by decide +kernel
theorem dL_spans_22 : decode cL_spans 22 = .ok (.iload_n 1, 1) := by decide +kernel
theorem dL_spans_23 : decode cL_spans 23 = .ok (.if_icmp .ge 133, 3) := by decide +kernel
theorem dL_spans_26 : decode cL_spans 26 = .ok (.iload 5, 2) := by decide +kernel
theorem dL_spans_28 : decode cL_spans 28 = .ok (.ifCond .eq 128, 3) := by decide +kernel
theorem dL_spans_31 : decode cL_spans 31 = .ok (.aload_n 0, 1) := by decide +kernel
theorem dL_spans_32 : decode cL_spans 32 = .ok (.iload 6, 2) := by decide +kernel
theorem dL_spans_34 : decode cL_spans 34 = .ok (.iconst 0, 1) := by decide +kernel
theorem dL_spans_35 : decode cL_spans 35 = .ok (.invokevirtual 88, 3) := by decide +kernel
theorem dL_spans_38 : decode cL_spans 38 = .ok (.istore 7, 2) := by decide +kernel
theorem dL_spans_40 : decode cL_spans 40 = .ok (.aload_n 0, 1) := by decide +kernel
theorem dL_spans_41 : decode cL_spans 41 = .ok (.iload 6, 2) := by decide +kernel
theorem dL_spans_43 : decode cL_spans 43 = .ok (.iconst 1, 1) := by decide +kernel
theorem dL_spans_44 : decode cL_spans 44 = .ok (.invokevirtual 88, 3) := by decide +kernel
theorem dL_spans_47 : decode cL_spans 47 = .ok (.istore 8, 2) := by decide +kernel
theorem dL_spans_49 : decode cL_spans 49 = .ok (.iload 7, 2) := by decide +kernel
theorem dL_spans_51 : decode cL_spans 51 = .ok (.iload 4, 2) := by decide +kernel
theorem dL_spans_53 : decode cL_spans 53 = .ok (.if_icmp .le 37, 3) := by decide +kernel
theorem dL_spans_56 : decode cL_spans 56 = .ok (.iload 8, 2) := by decide +kernel
theorem dL_spans_58 : decode cL_spans 58 = .ok (.ifCond .le 32, 3) := by decide +kernel
theorem dL_spans_61 : decode cL_spans 61 = .ok (.aload_n 0, 1) := by decide +kernel
theorem dL_spans_62 : decode cL_spans 62 = .ok (.iload 7, 2) := by decide +kernel
theorem dL_spans_64 : decode cL_spans 64 = .ok (.iconst 0, 1) := by decide +kernel
theorem dL_spans_65 : decode cL_spans 65 = .ok (.invokevirtual 76, 3) := by decide +kernel
theorem dL_spans_68 : decode cL_spans 68 = .ok (.ifCond .ne 22, 3) := by decide +kernel
theorem dL_spans_71 : decode cL_spans 71 = .ok (.aload_n 0, 1) := by decide +kernel
theorem dL_spans_72 : decode cL_spans 72 = .ok (.iload 7, 2) := by decide +kernel
theorem dL_spans_74 : decode cL_spans 74 = .ok (.iload 8, 2) := by decide +kernel
theorem dL_spans_76 : decode cL_spans 76 = .ok (.iadd, 1) := by decide +kernel
theorem dL_spans_77 : decode cL_spans 77 = .ok (.iconst 1, 1) := by decide +kernel
theorem dL_spans_78 : decode cL_spans 78 = .ok (.isub, 1) := by decide +kernel
theorem dL_spans_79 : decode cL_spans 79 = .ok (.iconst 0, 1) := by decide +kernel
theorem dL_spans_80 : decode cL_spans 80 = .ok (.invokevirtual 76, 3) := by decide +kernel
theorem dL_spans_83 : decode cL_spans 83 = .ok (.ifCond .ne 7, 3) := by decide +kernel
theorem dL_spans_86 : decode cL_spans 86 = .ok (.iconst 1, 1) := by decide +kernel
theorem dL_spans_87 : decode cL_spans 87 = .ok (.goto 4, 3) := by decide +kernel
theorem dL_spans_90 : decode cL_spans 90 = .ok (.iconst 0, 1) := by decide +kernel
theorem dL_spans_91 : decode cL_spans 91 = .ok (.istore 5, 2) := by decide +kernel
theorem dL_spans_93 : decode cL_spans 93 = .ok (.iload 7, 2) := by decide +kernel
theorem dL_spans_95 : decode cL_spans 95 = .ok (.iload 8, 2) := by decide +kernel
theorem dL_spans_97 : decode cL_spans 97 = .ok (.iadd, 1) := by decide +kernel
theorem dL_spans_98 : decode cL_spans 98 = .ok (.istore 4, 2) := by decide +kernel
theorem dL_spans_100 : decode cL_spans 100 = .ok (.iload 5, 2) := by decide +kernel
theorem dL_spans_102 : decode cL_spans 102 = .ok (.ifCond .eq 27, 3) := by decide +kernel
theorem dL_spans_105 : decode cL_spans 105 = .ok (.iload 4, 2) := by decide +kernel
theorem dL_spans_107 : decode cL_spans 107 = .ok (.aload_n 0, 1) := by decide +kernel
theorem dL_spans_108 : decode cL_spans 108 = .ok (.iconst 3, 1) := by decide +kernel
theorem dL_spans_109 : decode cL_spans 109 = .ok (.invokevirtual 37, 3) := by decide +kernel
theorem dL_spans_112 : decode cL_spans 112 = .ok (.if_icmp .eq 13, 3) := by decide +kernel
theorem dL_spans_115 : decode cL_spans 115 = .ok (.aload_n 0, 1) := by decide +kernel
theorem dL_spans_116 : decode cL_spans 116 = .ok (.iload 4, 2) := by decide +kernel
theorem dL_spans_118 : decode cL_spans 118 = .ok (.iconst 0, 1) := by decide +kernel
theorem dL_spans_119 : decode cL_spans 119 = .ok (.invokevirtual 76, 3) := by decide +kernel
theorem dL_spans_122 : decode cL_spans 122 = .ok (.ifCond .eq 7, 3) := by decide +kernel
theorem dL_spans_125 : decode cL_spans 125 = .ok (.iconst 1, 1) := by decide +kernel
theorem dL_spans_126 : decode cL_spans 126 = .ok (.goto 4, 3) := by decide +kernel
theorem dL_spans_129 : decode cL_spans 129 = .ok (.iconst 0, 1) := by decide +kernel
theorem dL_spans_130 : decode cL_spans 130 = .ok (.istore 5, 2) := by decide +kernel
theorem dL_spans_132 : decode cL_spans 132 = .ok (.iload_n 2, 1) := by decide +kernel
theorem dL_spans_133 : decode cL_spans 133 = .ok (.iload 8, 2) := by decide +kernel
theorem dL_spans_135 : decode cL_spans 135 = .ok (.iadd, 1) := by decide +kernel
theorem dL_spans_136 : decode cL_spans 136 = .ok (.istore_n 2, 1) := by decide +kernel
theorem dL_spans_137 : decode cL_spans 137 = .ok (.iload 8, 2) := by decide +kernel
theorem dL_spans_139 : decode cL_spans 139 = .ok (.iload_n 3, 1) := by decide +kernel
theorem dL_spans_140 : decode cL_spans 140 = .ok (.if_icmp .le 8, 3) := by decide +kernel
theorem dL_spans_143 : decode cL_spans 143 = .ok (.iload 8, 2) := by decide +kernel
theorem dL_spans_145 : decode cL_spans 145 = .ok (.goto 4, 3) := by decide +kernel
theorem dL_spans_148 : decode cL_spans 148 = .ok (.iload_n 3, 1) := by decide +kernel
theorem dL_spans_149 : decode cL_spans 149 = .ok (.istore_n 3, 1) := by decide +kernel
theorem dL_spans_150 : decode cL_spans 150 = .ok (.iinc 6 1, 3) := by decide +kernel
theorem dL_spans_153 : decode cL_spans 153 = .ok (.goto (-133), 3) := by decide +kernel
theorem dL_spans_156 : decode cL_spans 156 = .ok (.iload 5, 2) := by decide +kernel
theorem dL_spans_158 : decode cL_spans 158 = .ok (.ifCond .eq 36, 3) := by decide +kernel
theorem dL_spans_161 : decode cL_spans 161 = .ok (.iload_n 2, 1) := by decide +kernel
theorem dL_spans_162 : decode cL_spans 162 = .ok (.aload_n 0, 1) := by decide +kernel
theorem dL_spans_163 : decode cL_spans 163 = .ok (.iconst 1, 1) := by decide +kernel
theorem dL_spans_164 : decode cL_spans 164 = .ok (.invokevirtual 73, 3) := by decide +kernel
theorem dL_spans_167 : decode cL_spans 167 = .ok (.if_icmp .ne 27, 3) := by decide +kernel
theorem dL_spans_170 : decode cL_spans 170 = .ok (.iload_n 3, 1) := by decide +kernel
theorem dL_spans_171 : decode cL_spans 171 = .ok (.aload_n 0, 1) := by decide +kernel
theorem dL_spans_172 : decode cL_spans 172 = .ok (.bipush 11, 2) := by decide +kernel
theorem dL_spans_174 : decode cL_spans 174 = .ok (.invokevirtual 73, 3) := by decide +kernel
theorem dL_spans_177 : decode cL_spans 177 = .ok (.if_icmp .ne 17, 3) := by decide +kernel
theorem dL_spans_180 : decode cL_spans 180 = .ok (.aload_n 0, 1) := by decide +kernel
theorem dL_spans_181 : decode cL_spans 181 = .ok (.iload_n 1, 1) := by decide +kernel
theorem dL_spans_182 : decode cL_spans 182 = .ok (.iconst 0, 1) := by decide +kernel
theorem dL_spans_183 : decode cL_spans 183 = .ok (.invokevirtual 88, 3) := by decide +kernel
theorem dL_spans_186 : decode cL_spans 186 = .ok (.iconst (-1), 1) := by decide +kernel
theorem dL_spans_187 : decode cL_spans 187 = .ok (.if_icmp .ne 7, 3) := by decide +kernel
theorem dL_spans_190 : decode cL_spans 190 = .ok (.iconst 1, 1) := by decide +kernel
theorem dL_spans_191 : decode cL_spans 191 = .ok (.goto 4, 3) := by decide +kernel
theorem dL_spans_194 : decode cL_spans 194 = .ok (.iconst 0, 1) := by decide +kernel
theorem dL_spans_195 : decode cL_spans 195 = .ok (.istore 5, 2) := by decide +kernel
theorem dL_spans_197 : decode cL_spans 197 = .ok (.aload_n 0, 1) := by decide +kernel
theorem dL_spans_198 : decode cL_spans 198 = .ok (.iconst 1, 1) := by decide +kernel
theorem dL_spans_199 : decode cL_spans 199 = .ok (.invokevirtual 90, 3) := by decide +kernel
theorem dL_spans_202 : decode cL_spans 202 = .ok (.istore 6, 2) := by decide +kernel
theorem dL_spans_204 : decode cL_spans 204 = .ok (.iload 5, 2) := by decide +kernel
theorem dL_spans_206 : decode cL_spans 206 = .ok (.ifCond .eq 41, 3) := by decide +kernel
theorem dL_spans_209 : decode cL_spans 209 = .ok (.iload 6, 2) := by decide +kernel
theorem dL_spans_211 : decode cL_spans 211 = .ok (.ifCond .ne 7, 3) := by decide +kernel
theorem dL_spans_214 : decode cL_spans 214 = .ok (.iconst 1, 1) := by decide +kernel
theorem dL_spans_215 : decode cL_spans 215 = .ok (.goto 4, 3) := by decide +kernel
theorem dL_spans_218 : decode cL_spans 218 = .ok (.iconst 0, 1) := by decide +kernel
theorem dL_spans_219 : decode cL_spans 219 = .ok (.iload_n 2, 1) := by decide +kernel
theorem dL_spans_220 : decode cL_spans 220 = .ok (.ifCond .le 7, 3) := by decide +kernel
theorem dL_spans_223 : decode cL_spans 223 = .ok (.iconst 1, 1) := by decide +kernel
theorem dL_spans_224 : decode cL_spans 224 = .ok (.goto 4, 3) := by decide +kernel
theorem dL_spans_227 : decode cL_spans 227 = .ok (.iconst 0, 1) := by decide +kernel
theorem dL_spans_228 : decode cL_spans 228 = .ok (.if_icmp .ne 19, 3) := by decide +kernel
theorem dL_spans_231 : decode cL_spans 231 = .ok (.iload_n 2, 1) := by decide +kernel
theorem dL_spans_232 : decode cL_spans 232 = .ok (.ifCond .eq 11, 3) := by decide +kernel
theorem dL_spans_235 : decode cL_spans 235 = .ok (.aload_n 0, 1) := by decide +kernel
theorem dL_spans_236 : decode cL_spans 236 = .ok (.iload_n 2, 1) := by decide +kernel
theorem dL_spans_237 : decode cL_spans 237 = .ok (.invokevirtual 90, 3) := by decide +kernel
theorem dL_spans_240 : decode cL_spans 240 = .ok (.ifCond .ne 7, 3) := by decide +kernel
theorem dL_spans_243 : decode cL_spans 243 = .ok (.iconst 1, 1) := by decide +kernel
theorem dL_spans_244 : decode cL_spans 244 = .ok (.goto 4, 3) := by decide +kernel
theorem dL_spans_247 : decode cL_spans 247 = .ok (.iconst 0, 1) := by decide +kernel
theorem dL_spans_248 : decode cL_spans 248 = .ok (.ireturn, 1) := by decide +kernel
theorem dL_law_0 : decode cL_law 0 = .ok (.new 10, 3) := by decide +kernel
theorem dL_law_3 : decode cL_law 3 = .ok (.dup, 1) := by decide +kernel
theorem dL_law_4 : decode cL_law 4 = .ok (.invokespecial 93, 3) := by decide +kernel
theorem dL_law_7 : decode cL_law 7 = .ok (.astore_n 1, 1) := by decide +kernel
theorem dL_law_8 : decode cL_law 8 = .ok (.aload_n 1, 1) := by decide +kernel
theorem dL_law_9 : decode cL_law 9 = .ok (.iconst 3, 1) := by decide +kernel
theorem dL_law_10 : decode cL_law 10 = .ok (.iconst 4, 1) := by decide +kernel
theorem dL_law_11 : decode cL_law 11 = .ok (.aload_n 0, 1) := by decide +kernel
theorem dL_law_12 : decode cL_law 12 = .ok (.iconst 0, 1) := by decide +kernel
theorem dL_law_13 : decode cL_law 13 = .ok (.invokestatic 41, 3) := by decide +kernel
theorem dL_law_16 : decode cL_law 16 = .ok (.bipush 9, 2) := by decide +kernel
theorem dL_law_18 : decode cL_law 18 = .ok (.invokestatic 47, 3) := by decide +kernel
theorem dL_law_21 : decode cL_law 21 = .ok (.iadd, 1) := by decide +kernel
theorem dL_law_22 : decode cL_law 22 = .ok (.invokestatic 94, 3) := by decide +kernel
theorem dL_law_25 : decode cL_law 25 = .ok (.pop, 1) := by decide +kernel
theorem dL_law_26 : decode cL_law 26 = .ok (.aload_n 1, 1) := by decide +kernel
theorem dL_law_27 : decode cL_law 27 = .ok (.iconst 1, 1) := by decide +kernel
theorem dL_law_28 : decode cL_law 28 = .ok (.iconst 1, 1) := by decide +kernel
theorem dL_law_29 : decode cL_law 29 = .ok (.aload_n 0, 1) := by decide +kernel
theorem dL_law_30 : decode cL_law 30 = .ok (.iconst 1, 1) := by decide +kernel
theorem dL_law_31 : decode cL_law 31 = .ok (.invokestatic 41, 3) := by decide +kernel
theorem dL_law_34 : decode cL_law 34 = .ok (.iconst 5, 1) := by decide +kernel
theorem dL_law_35 : decode cL_law 35 = .ok (.invokestatic 47, 3) := by decide +kernel
theorem dL_law_38 : decode cL_law 38 = .ok (.iadd, 1) := by decide +kernel
theorem dL_law_39 : decode cL_law 39 = .ok (.invokestatic 94, 3) := by decide +kernel
theorem dL_law_42 : decode cL_law 42 = .ok (.pop, 1) := by decide +kernel
theorem dL_law_43 : decode cL_law 43 = .ok (.iconst 1, 1) := by decide +kernel
theorem dL_law_44 : decode cL_law 44 = .ok (.istore_n 2, 1) := by decide +kernel
theorem dL_law_45 : decode cL_law 45 = .ok (.aload_n 0, 1) := by decide +kernel
theorem dL_law_46 : decode cL_law 46 = .ok (.arraylength, 1) := by decide +kernel
theorem dL_law_47 : decode cL_law 47 = .ok (.iconst 4, 1) := by decide +kernel
theorem dL_law_48 : decode cL_law 48 = .ok (.idiv, 1) := by decide +kernel
theorem dL_law_49 : decode cL_law 49 = .ok (.bipush 26, 2) := by decide +kernel
theorem dL_law_51 : decode cL_law 51 = .ok (.if_icmp .le 8, 3) := by decide +kernel
theorem dL_law_54 : decode cL_law 54 = .ok (.bipush 26, 2) := by decide +kernel
theorem dL_law_56 : decode cL_law 56 = .ok (.goto 7, 3) := by decide +kernel
theorem dL_law_59 : decode cL_law 59 = .ok (.aload_n 0, 1) := by decide +kernel
theorem dL_law_60 : decode cL_law 60 = .ok (.arraylength, 1) := by decide +kernel
theorem dL_law_61 : decode cL_law 61 = .ok (.iconst 4, 1) := by decide +kernel
theorem dL_law_62 : decode cL_law 62 = .ok (.idiv, 1) := by decide +kernel
theorem dL_law_63 : decode cL_law 63 = .ok (.istore_n 3, 1) := by decide +kernel
theorem dL_law_64 : decode cL_law 64 = .ok (.iconst 1, 1) := by decide +kernel
theorem dL_law_65 : decode cL_law 65 = .ok (.istore 4, 2) := by decide +kernel
theorem dL_law_67 : decode cL_law 67 = .ok (.iload 4, 2) := by decide +kernel
theorem dL_law_69 : decode cL_law 69 = .ok (.iload_n 3, 1) := by decide +kernel
theorem dL_law_70 : decode cL_law 70 = .ok (.if_icmp .ge 253, 3) := by decide +kernel
theorem dL_law_73 : decode cL_law 73 = .ok (.iload_n 2, 1) := by decide +kernel
theorem dL_law_74 : decode cL_law 74 = .ok (.ifCond .eq 249, 3) := by decide +kernel
theorem dL_law_77 : decode cL_law 77 = .ok (.aload_n 0, 1) := by decide +kernel
theorem dL_law_78 : decode cL_law 78 = .ok (.iconst 4, 1) := by decide +kernel
theorem dL_law_79 : decode cL_law 79 = .ok (.iload 4, 2) := by decide +kernel
theorem dL_law_81 : decode cL_law 81 = .ok (.imul, 1) := by decide +kernel
theorem dL_law_82 : decode cL_law 82 = .ok (.invokestatic 41, 3) := by decide +kernel
theorem dL_law_85 : decode cL_law 85 = .ok (.bipush 12, 2) := by decide +kernel
theorem dL_law_87 : decode cL_law 87 = .ok (.invokestatic 47, 3) := by decide +kernel
theorem dL_law_90 : decode cL_law 90 = .ok (.istore 5, 2) := by decide +kernel
theorem dL_law_92 : decode cL_law 92 = .ok (.aload_n 1, 1) := by decide +kernel
theorem dL_law_93 : decode cL_law 93 = .ok (.iconst 0, 1) := by decide +kernel
theorem dL_law_94 : decode cL_law 94 = .ok (.iconst 0, 1) := by decide +kernel
theorem dL_law_95 : decode cL_law 95 = .ok (.invokevirtual 88, 3) := by decide +kernel
theorem dL_law_98 : decode cL_law 98 = .ok (.istore 6, 2) := by decide +kernel
theorem dL_law_100 : decode cL_law 100 = .ok (.aload_n 1, 1) := by decide +kernel
theorem dL_law_101 : decode cL_law 101 = .ok (.bipush 12, 2) := by decide +kernel
theorem dL_law_103 : decode cL_law 103 = .ok (.invokevirtual 73, 3) := by decide +kernel
theorem dL_law_106 : decode cL_law 106 = .ok (.istore 7, 2) := by decide +kernel
theorem dL_law_108 : decode cL_law 108 = .ok (.iconst 0, 1) := by decide +kernel
theorem dL_law_109 : decode cL_law 109 = .ok (.istore 8, 2) := by decide +kernel
theorem dL_law_111 : decode cL_law 111 = .ok (.iload 5, 2) := by decide +kernel
theorem dL_law_113 : decode cL_law 113 = .ok (.bipush 9, 2) := by decide +kernel
theorem dL_law_115 : decode cL_law 115 = .ok (.if_icmp .ne 12, 3) := by decide +kernel
theorem dL_law_118 : decode cL_law 118 = .ok (.aload_n 1, 1) := by decide +kernel
theorem dL_law_119 : decode cL_law 119 = .ok (.invokestatic 96, 3) := by decide +kernel
theorem dL_law_122 : decode cL_law 122 = .ok (.istore 8, 2) := by decide +kernel
theorem dL_law_124 : decode cL_law 124 = .ok (.goto 146, 3) := by decide +kernel
theorem dL_law_127 : decode cL_law 127 = .ok (.iload 5, 2) := by decide +kernel
theorem dL_law_129 : decode cL_law 129 = .ok (.bipush 10, 2) := by decide +kernel
theorem dL_law_131 : decode cL_law 131 = .ok (.if_icmp .ne 41, 3) := by decide +kernel
theorem dL_law_134 : decode cL_law 134 = .ok (.aload_n 1, 1) := by decide +kernel
theorem dL_law_135 : decode cL_law 135 = .ok (.aload_n 0, 1) := by decide +kernel
theorem dL_law_136 : decode cL_law 136 = .ok (.iconst 4, 1) := by decide +kernel
theorem dL_law_137 : decode cL_law 137 = .ok (.iload 4, 2) := by decide +kernel
theorem dL_law_139 : decode cL_law 139 = .ok (.imul, 1) := by decide +kernel
theorem dL_law_140 : decode cL_law 140 = .ok (.iconst 1, 1) := by decide +kernel
theorem dL_law_141 : decode cL_law 141 = .ok (.iadd, 1) := by decide +kernel
theorem dL_law_142 : decode cL_law 142 = .ok (.invokestatic 41, 3) := by decide +kernel
theorem dL_law_145 : decode cL_law 145 = .ok (.iconst 3, 1) := by decide +kernel
theorem dL_law_146 : decode cL_law 146 = .ok (.invokestatic 47, 3) := by decide +kernel
theorem dL_law_149 : decode cL_law 149 = .ok (.aload_n 0, 1) := by decide +kernel
theorem dL_law_150 : decode cL_law 150 = .ok (.iconst 4, 1) := by decide +kernel
theorem dL_law_151 : decode cL_law 151 = .ok (.iload 4, 2) := by decide +kernel
theorem dL_law_153 : decode cL_law 153 = .ok (.imul, 1) := by decide +kernel
theorem dL_law_154 : decode cL_law 154 = .ok (.iconst 2, 1) := by decide +kernel
theorem dL_law_155 : decode cL_law 155 = .ok (.iadd, 1) := by decide +kernel
theorem dL_law_156 : decode cL_law 156 = .ok (.invokestatic 41, 3) := by decide +kernel
theorem dL_law_159 : decode cL_law 159 = .ok (.bipush 8, 2) := by decide +kernel
theorem dL_law_161 : decode cL_law 161 = .ok (.invokestatic 47, 3) := by decide +kernel
theorem dL_law_164 : decode cL_law 164 = .ok (.invokestatic 94, 3) := by decide +kernel
theorem dL_law_167 : decode cL_law 167 = .ok (.istore 8, 2) := by decide +kernel
theorem dL_law_169 : decode cL_law 169 = .ok (.goto 101, 3) := by decide +kernel
theorem dL_law_172 : decode cL_law 172 = .ok (.iload 5, 2) := by decide +kernel
theorem dL_law_174 : decode cL_law 174 = .ok (.bipush 11, 2) := by decide +kernel
theorem dL_law_176 : decode cL_law 176 = .ok (.if_icmp .ne 83, 3) := by decide +kernel
theorem dL_law_179 : decode cL_law 179 = .ok (.aload_n 1, 1) := by decide +kernel
theorem dL_law_180 : decode cL_law 180 = .ok (.iconst 1, 1) := by decide +kernel
theorem dL_law_181 : decode cL_law 181 = .ok (.invokevirtual 73, 3) := by decide +kernel
theorem dL_law_184 : decode cL_law 184 = .ok (.istore 9, 2) := by decide +kernel
theorem dL_law_186 : decode cL_law 186 = .ok (.aload_n 1, 1) := by decide +kernel
theorem dL_law_187 : decode cL_law 187 = .ok (.aload_n 0, 1) := by decide +kernel
theorem dL_law_188 : decode cL_law 188 = .ok (.iconst 4, 1) := by decide +kernel
theorem dL_law_189 : decode cL_law 189 = .ok (.iload 4, 2) := by decide +kernel
theorem dL_law_191 : decode cL_law 191 = .ok (.imul, 1) := by decide +kernel
theorem dL_law_192 : decode cL_law 192 = .ok (.iconst 1, 1) := by decide +kernel
theorem dL_law_193 : decode cL_law 193 = .ok (.iadd, 1) := by decide +kernel
theorem dL_law_194 : decode cL_law 194 = .ok (.invokestatic 41, 3) := by decide +kernel
theorem dL_law_197 : decode cL_law 197 = .ok (.bipush 8, 2) := by decide +kernel
theorem dL_law_199 : decode cL_law 199 = .ok (.invokestatic 47, 3) := by decide +kernel
theorem dL_law_202 : decode cL_law 202 = .ok (.iconst 1, 1) := by decide +kernel
theorem dL_law_203 : decode cL_law 203 = .ok (.aload_n 0, 1) := by decide +kernel
theorem dL_law_204 : decode cL_law 204 = .ok (.iconst 4, 1) := by decide +kernel
theorem dL_law_205 : decode cL_law 205 = .ok (.iload 4, 2) := by decide +kernel
theorem dL_law_207 : decode cL_law 207 = .ok (.imul, 1) := by decide +kernel
theorem dL_law_208 : decode cL_law 208 = .ok (.iconst 2, 1) := by decide +kernel
theorem dL_law_209 : decode cL_law 209 = .ok (.iadd, 1) := by decide +kernel
theorem dL_law_210 : decode cL_law 210 = .ok (.invokestatic 41, 3) := by decide +kernel
theorem dL_law_213 : decode cL_law 213 = .ok (.bipush 40, 2) := by decide +kernel
theorem dL_law_215 : decode cL_law 215 = .ok (.invokestatic 47, 3) := by decide +kernel
theorem dL_law_218 : decode cL_law 218 = .ok (.iadd, 1) := by decide +kernel
theorem dL_law_219 : decode cL_law 219 = .ok (.invokestatic 50, 3) := by decide +kernel
theorem dL_law_222 : decode cL_law 222 = .ok (.istore 8, 2) := by decide +kernel
theorem dL_law_224 : decode cL_law 224 = .ok (.iload 8, 2) := by decide +kernel
theorem dL_law_226 : decode cL_law 226 = .ok (.bipush (-3), 2) := by decide +kernel
theorem dL_law_228 : decode cL_law 228 = .ok (.if_icmp .eq 22, 3) := by decide +kernel
theorem dL_law_231 : decode cL_law 231 = .ok (.iload 8, 2) := by decide +kernel
theorem dL_law_233 : decode cL_law 233 = .ok (.iload 6, 2) := by decide +kernel
theorem dL_law_235 : decode cL_law 235 = .ok (.if_icmp .ne 19, 3) := by decide +kernel
theorem dL_law_238 : decode cL_law 238 = .ok (.aload_n 1, 1) := by decide +kernel
theorem dL_law_239 : decode cL_law 239 = .ok (.iconst 1, 1) := by decide +kernel
theorem dL_law_240 : decode cL_law 240 = .ok (.invokevirtual 73, 3) := by decide +kernel
theorem dL_law_243 : decode cL_law 243 = .ok (.iload 9, 2) := by decide +kernel
theorem dL_law_245 : decode cL_law 245 = .ok (.iconst 1, 1) := by decide +kernel
theorem dL_law_246 : decode cL_law 246 = .ok (.isub, 1) := by decide +kernel
theorem dL_law_247 : decode cL_law 247 = .ok (.if_icmp .ne 7, 3) := by decide +kernel
theorem dL_law_250 : decode cL_law 250 = .ok (.iconst 1, 1) := by decide +kernel
theorem dL_law_251 : decode cL_law 251 = .ok (.goto 4, 3) := by decide +kernel
theorem dL_law_254 : decode cL_law 254 = .ok (.iconst 0, 1) := by decide +kernel
theorem dL_law_255 : decode cL_law 255 = .ok (.istore_n 2, 1) := by decide +kernel
theorem dL_law_256 : decode cL_law 256 = .ok (.goto 14, 3) := by decide +kernel
theorem dL_law_259 : decode cL_law 259 = .ok (.aload_n 1, 1) := by decide +kernel
theorem dL_law_260 : decode cL_law 260 = .ok (.aload_n 0, 1) := by decide +kernel
theorem dL_law_261 : decode cL_law 261 = .ok (.iconst 4, 1) := by decide +kernel
theorem dL_law_262 : decode cL_law 262 = .ok (.iload 4, 2) := by decide +kernel
theorem dL_law_264 : decode cL_law 264 = .ok (.imul, 1) := by decide +kernel
theorem dL_law_265 : decode cL_law 265 = .ok (.invokestatic 99, 3) := by decide +kernel
theorem dL_law_268 : decode cL_law 268 = .ok (.istore 8, 2) := by decide +kernel
theorem dL_law_270 : decode cL_law 270 = .ok (.iload_n 2, 1) := by decide +kernel
theorem dL_law_271 : decode cL_law 271 = .ok (.ifCond .eq 44, 3) := by decide +kernel
theorem dL_law_274 : decode cL_law 274 = .ok (.iload 8, 2) := by decide +kernel
theorem dL_law_276 : decode cL_law 276 = .ok (.ifCond .ge 14, 3) := by decide +kernel
theorem dL_law_279 : decode cL_law 279 = .ok (.aload_n 1, 1) := by decide +kernel
theorem dL_law_280 : decode cL_law 280 = .ok (.bipush 12, 2) := by decide +kernel
theorem dL_law_282 : decode cL_law 282 = .ok (.invokevirtual 73, 3) := by decide +kernel
theorem dL_law_285 : decode cL_law 285 = .ok (.iload 7, 2) := by decide +kernel
theorem dL_law_287 : decode cL_law 287 = .ok (.if_icmp .ne 28, 3) := by decide +kernel
theorem dL_law_290 : decode cL_law 290 = .ok (.aload_n 1, 1) := by decide +kernel
theorem dL_law_291 : decode cL_law 291 = .ok (.invokestatic 103, 3) := by decide +kernel
theorem dL_law_294 : decode cL_law 294 = .ok (.ifCond .eq 21, 3) := by decide +kernel
theorem dL_law_297 : decode cL_law 297 = .ok (.aload_n 1, 1) := by decide +kernel
theorem dL_law_298 : decode cL_law 298 = .ok (.invokestatic 107, 3) := by decide +kernel
theorem dL_law_301 : decode cL_law 301 = .ok (.ifCond .eq 14, 3) := by decide +kernel
theorem dL_law_304 : decode cL_law 304 = .ok (.aload_n 1, 1) := by decide +kernel
theorem dL_law_305 : decode cL_law 305 = .ok (.invokestatic 110, 3) := by decide +kernel
theorem dL_law_308 : decode cL_law 308 = .ok (.ifCond .eq 7, 3) := by decide +kernel
theorem dL_law_311 : decode cL_law 311 = .ok (.iconst 1, 1) := by decide +kernel
theorem dL_law_312 : decode cL_law 312 = .ok (.goto 4, 3) := by decide +kernel
theorem dL_law_315 : decode cL_law 315 = .ok (.iconst 0, 1) := by decide +kernel
theorem dL_law_316 : decode cL_law 316 = .ok (.istore_n 2, 1) := by decide +kernel
theorem dL_law_317 : decode cL_law 317 = .ok (.iinc 4 1, 3) := by decide +kernel
theorem dL_law_320 : decode cL_law 320 = .ok (.goto (-253), 3) := by decide +kernel
theorem dL_law_323 : decode cL_law 323 = .ok (.iload_n 2, 1) := by decide +kernel
theorem dL_law_324 : decode cL_law 324 = .ok (.ireturn, 1) := by decide +kernel
