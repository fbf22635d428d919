theorem dX5_waits_17 : decode cX5_waits 17 = .ok (.iadd, 1) := by decide +kernel
theorem dX5_waits_18 : decode cX5_waits 18 = .ok (.iaload, 1) := by decide +kernel
theorem dX5_waits_19 : decode cX5_waits 19 = .ok (.imul, 1) := by decide +kernel
theorem dX5_waits_20 : decode cX5_waits 20 = .ok (.iadd, 1) := by decide +kernel
theorem dX5_waits_21 : decode cX5_waits 21 = .ok (.iload_n 2, 1) := by decide +kernel
theorem dX5_waits_22 : decode cX5_waits 22 = .ok (.iastore, 1) := by decide +kernel
theorem dX5_waits_23 : decode cX5_waits 23 = .ok (.aload_n 0, 1) := by decide +kernel
theorem dX5_waits_24 : decode cX5_waits 24 = .ok (.iload 4, 2) := by decide +kernel
theorem dX5_waits_26 : decode cX5_waits 26 = .ok (.bipush 6, 2) := by decide +kernel
theorem dX5_waits_28 : decode cX5_waits 28 = .ok (.iadd, 1) := by decide +kernel
theorem dX5_waits_29 : decode cX5_waits 29 = .ok (.iconst 2, 1) := by decide +kernel
theorem dX5_waits_30 : decode cX5_waits 30 = .ok (.aload_n 0, 1) := by decide +kernel
theorem dX5_waits_31 : decode cX5_waits 31 = .ok (.iload 4, 2) := by decide +kernel
theorem dX5_waits_33 : decode cX5_waits 33 = .ok (.iconst 5, 1) := by decide +kernel
theorem dX5_waits_34 : decode cX5_waits 34 = .ok (.iadd, 1) := by decide +kernel
theorem dX5_waits_35 : decode cX5_waits 35 = .ok (.iaload, 1) := by decide +kernel
theorem dX5_waits_36 : decode cX5_waits 36 = .ok (.imul, 1) := by decide +kernel
theorem dX5_waits_37 : decode cX5_waits 37 = .ok (.iadd, 1) := by decide +kernel
theorem dX5_waits_38 : decode cX5_waits 38 = .ok (.iconst 1, 1) := by decide +kernel
theorem dX5_waits_39 : decode cX5_waits 39 = .ok (.iadd, 1) := by decide +kernel
theorem dX5_waits_40 : decode cX5_waits 40 = .ok (.iload_n 3, 1) := by decide +kernel
theorem dX5_waits_41 : decode cX5_waits 41 = .ok (.iastore, 1) := by decide +kernel
theorem dX5_waits_42 : decode cX5_waits 42 = .ok (.aload_n 0, 1) := by decide +kernel
theorem dX5_waits_43 : decode cX5_waits 43 = .ok (.iload 4, 2) := by decide +kernel
theorem dX5_waits_45 : decode cX5_waits 45 = .ok (.iconst 5, 1) := by decide +kernel
theorem dX5_waits_46 : decode cX5_waits 46 = .ok (.iadd, 1) := by decide +kernel
theorem dX5_waits_47 : decode cX5_waits 47 = .ok (.dup2, 1) := by decide +kernel
theorem dX5_waits_48 : decode cX5_waits 48 = .ok (.iaload, 1) := by decide +kernel
theorem dX5_waits_49 : decode cX5_waits 49 = .ok (.iconst 1, 1) := by decide +kernel
theorem dX5_waits_50 : decode cX5_waits 50 = .ok (.iadd, 1) := by decide +kernel
theorem dX5_waits_51 : decode cX5_waits 51 = .ok (.iastore, 1) := by decide +kernel
theorem dX5_waits_52 : decode cX5_waits 52 = .ok (.return_, 1) := by decide +kernel
theorem dX5_mayTake_0 : decode cX5_mayTake 0 = .ok (.aload_n 0, 1) := by decide +kernel
theorem dX5_mayTake_1 : decode cX5_mayTake 1 = .ok (.getfield 7, 3) := by decide +kernel
theorem dX5_mayTake_4 : decode cX5_mayTake 4 = .ok (.iconst 1, 1) := by decide +kernel
theorem dX5_mayTake_5 : decode cX5_mayTake 5 = .ok (.invokestatic 70, 3) := by decide +kernel
theorem dX5_mayTake_8 : decode cX5_mayTake 8 = .ok (.iconst (-1), 1) := by decide +kernel
theorem dX5_mayTake_9 : decode cX5_mayTake 9 = .ok (.if_icmp .eq 19, 3) := by decide +kernel
theorem dX5_mayTake_12 : decode cX5_mayTake 12 = .ok (.aload_n 0, 1) := by decide +kernel
theorem dX5_mayTake_13 : decode cX5_mayTake 13 = .ok (.getfield 7, 3) := by decide +kernel
theorem dX5_mayTake_16 : decode cX5_mayTake 16 = .ok (.iload_n 1, 1) := by decide +kernel
theorem dX5_mayTake_17 : decode cX5_mayTake 17 = .ok (.iconst 1, 1) := by decide +kernel
theorem dX5_mayTake_18 : decode cX5_mayTake 18 = .ok (.invokestatic 58, 3) := by decide +kernel
theorem dX5_mayTake_21 : decode cX5_mayTake 21 = .ok (.ifCond .eq 7, 3) := by decide +kernel
theorem dX5_mayTake_24 : decode cX5_mayTake 24 = .ok (.iconst 1, 1) := by decide +kernel
theorem dX5_mayTake_25 : decode cX5_mayTake 25 = .ok (.goto 4, 3) := by decide +kernel
theorem dX5_mayTake_28 : decode cX5_mayTake 28 = .ok (.iconst 0, 1) := by decide +kernel
theorem dX5_mayTake_29 : decode cX5_mayTake 29 = .ok (.ireturn, 1) := by decide +kernel
theorem dX5_takes_0 : decode cX5_takes 0 = .ok (.aload_n 0, 1) := by decide +kernel
theorem dX5_takes_1 : decode cX5_takes 1 = .ok (.getfield 7, 3) := by decide +kernel
theorem dX5_takes_4 : decode cX5_takes 4 = .ok (.iconst 1, 1) := by decide +kernel
theorem dX5_takes_5 : decode cX5_takes 5 = .ok (.invokestatic 70, 3) := by decide +kernel
theorem dX5_takes_8 : decode cX5_takes 8 = .ok (.istore_n 3, 1) := by decide +kernel
theorem dX5_takes_9 : decode cX5_takes 9 = .ok (.aload_n 0, 1) := by decide +kernel
theorem dX5_takes_10 : decode cX5_takes 10 = .ok (.getfield 7, 3) := by decide +kernel
theorem dX5_takes_13 : decode cX5_takes 13 = .ok (.iload_n 3, 1) := by decide +kernel
theorem dX5_takes_14 : decode cX5_takes 14 = .ok (.iload_n 1, 1) := by decide +kernel
theorem dX5_takes_15 : decode cX5_takes 15 = .ok (.iload_n 2, 1) := by decide +kernel
theorem dX5_takes_16 : decode cX5_takes 16 = .ok (.invokestatic 62, 3) := by decide +kernel
theorem dX5_takes_19 : decode cX5_takes 19 = .ok (.iload_n 3, 1) := by decide +kernel
theorem dX5_takes_20 : decode cX5_takes 20 = .ok (.ireturn, 1) := by decide +kernel
theorem dX5_take_0 : decode cX5_take 0 = .ok (.aload_n 0, 1) := by decide +kernel
theorem dX5_take_1 : decode cX5_take 1 = .ok (.iconst 0, 1) := by decide +kernel
theorem dX5_take_2 : decode cX5_take 2 = .ok (.putfield 25, 3) := by decide +kernel
theorem dX5_take_5 : decode cX5_take 5 = .ok (.iload_n 1, 1) := by decide +kernel
theorem dX5_take_6 : decode cX5_take 6 = .ok (.invokestatic 73, 3) := by decide +kernel
theorem dX5_take_9 : decode cX5_take 9 = .ok (.ifCond .ne 9, 3) := by decide +kernel
theorem dX5_take_12 : decode cX5_take 12 = .ok (.aload_n 0, 1) := by decide +kernel
theorem dX5_take_13 : decode cX5_take 13 = .ok (.iconst 1, 1) := by decide +kernel
theorem dX5_take_14 : decode cX5_take 14 = .ok (.invokevirtual 36, 3) := by decide +kernel
theorem dX5_take_17 : decode cX5_take 17 = .ok (.ireturn, 1) := by decide +kernel
theorem dX5_take_18 : decode cX5_take 18 = .ok (.iload_n 2, 1) := by decide +kernel
theorem dX5_take_19 : decode cX5_take 19 = .ok (.invokestatic 77, 3) := by decide +kernel
theorem dX5_take_22 : decode cX5_take 22 = .ok (.ifCond .ne 9, 3) := by decide +kernel
theorem dX5_take_25 : decode cX5_take 25 = .ok (.aload_n 0, 1) := by decide +kernel
theorem dX5_take_26 : decode cX5_take 26 = .ok (.iconst 2, 1) := by decide +kernel
theorem dX5_take_27 : decode cX5_take 27 = .ok (.invokevirtual 36, 3) := by decide +kernel
theorem dX5_take_30 : decode cX5_take 30 = .ok (.ireturn, 1) := by decide +kernel
theorem dX5_take_31 : decode cX5_take 31 = .ok (.aload_n 0, 1) := by decide +kernel
theorem dX5_take_32 : decode cX5_take 32 = .ok (.iload_n 1, 1) := by decide +kernel
theorem dX5_take_33 : decode cX5_take 33 = .ok (.invokevirtual 80, 3) := by decide +kernel
theorem dX5_take_36 : decode cX5_take 36 = .ok (.ifCond .ne 9, 3) := by decide +kernel
theorem dX5_take_39 : decode cX5_take 39 = .ok (.aload_n 0, 1) := by decide +kernel
theorem dX5_take_40 : decode cX5_take 40 = .ok (.iconst 3, 1) := by decide +kernel
theorem dX5_take_41 : decode cX5_take 41 = .ok (.invokevirtual 36, 3) := by decide +kernel
theorem dX5_take_44 : decode cX5_take 44 = .ok (.ireturn, 1) := by decide +kernel
theorem dX5_take_45 : decode cX5_take 45 = .ok (.aload_n 0, 1) := by decide +kernel
theorem dX5_take_46 : decode cX5_take 46 = .ok (.invokevirtual 83, 3) := by decide +kernel
theorem dX5_take_49 : decode cX5_take 49 = .ok (.aload_n 0, 1) := by decide +kernel
theorem dX5_take_50 : decode cX5_take 50 = .ok (.iload_n 1, 1) := by decide +kernel
theorem dX5_take_51 : decode cX5_take 51 = .ok (.iload_n 2, 1) := by decide +kernel
theorem dX5_take_52 : decode cX5_take 52 = .ok (.invokevirtual 86, 3) := by decide +kernel
theorem dX5_take_55 : decode cX5_take 55 = .ok (.ireturn, 1) := by decide +kernel
theorem dX5_takeSpan_0 : decode cX5_takeSpan 0 = .ok (.aload_n 0, 1) := by decide +kernel
theorem dX5_takeSpan_1 : decode cX5_takeSpan 1 = .ok (.iconst 0, 1) := by decide +kernel
theorem dX5_takeSpan_2 : decode cX5_takeSpan 2 = .ok (.putfield 25, 3) := by decide +kernel
theorem dX5_takeSpan_5 : decode cX5_takeSpan 5 = .ok (.iload_n 1, 1) := by decide +kernel
theorem dX5_takeSpan_6 : decode cX5_takeSpan 6 = .ok (.invokestatic 73, 3) := by decide +kernel
theorem dX5_takeSpan_9 : decode cX5_takeSpan 9 = .ok (.ifCond .ne 9, 3) := by decide +kernel
theorem dX5_takeSpan_12 : decode cX5_takeSpan 12 = .ok (.aload_n 0, 1) := by decide +kernel
theorem dX5_takeSpan_13 : decode cX5_takeSpan 13 = .ok (.iconst 1, 1) := by decide +kernel
theorem dX5_takeSpan_14 : decode cX5_takeSpan 14 = .ok (.invokevirtual 36, 3) := by decide +kernel
theorem dX5_takeSpan_17 : decode cX5_takeSpan 17 = .ok (.ireturn, 1) := by decide +kernel
theorem dX5_takeSpan_18 : decode cX5_takeSpan 18 = .ok (.iload_n 2, 1) := by decide +kernel
theorem dX5_takeSpan_19 : decode cX5_takeSpan 19 = .ok (.iconst 1, 1) := by decide +kernel
theorem dX5_takeSpan_20 : decode cX5_takeSpan 20 = .ok (.bipush 64, 2) := by decide +kernel
theorem dX5_takeSpan_22 : decode cX5_takeSpan 22 = .ok (.invokestatic 29, 3) := by decide +kernel
theorem dX5_takeSpan_25 : decode cX5_takeSpan 25 = .ok (.ifCond .eq 10, 3) := by decide +kernel
theorem dX5_takeSpan_28 : decode cX5_takeSpan 28 = .ok (.iload_n 3, 1) := by decide +kernel
theorem dX5_takeSpan_29 : decode cX5_takeSpan 29 = .ok (.invokestatic 77, 3) := by decide +kernel
theorem dX5_takeSpan_32 : decode cX5_takeSpan 32 = .ok (.ifCond .ne 9, 3) := by decide +kernel
theorem dX5_takeSpan_35 : decode cX5_takeSpan 35 = .ok (.aload_n 0, 1) := by decide +kernel
theorem dX5_takeSpan_36 : decode cX5_takeSpan 36 = .ok (.iconst 2, 1) := by decide +kernel
theorem dX5_takeSpan_37 : decode cX5_takeSpan 37 = .ok (.invokevirtual 36, 3) := by decide +kernel
theorem dX5_takeSpan_40 : decode cX5_takeSpan 40 = .ok (.ireturn, 1) := by decide +kernel
theorem dX5_takeSpan_41 : decode cX5_takeSpan 41 = .ok (.aload_n 0, 1) := by decide +kernel
theorem dX5_takeSpan_42 : decode cX5_takeSpan 42 = .ok (.getfield 7, 3) := by decide +kernel
theorem dX5_takeSpan_45 : decode cX5_takeSpan 45 = .ok (.iload_n 2, 1) := by decide +kernel
theorem dX5_takeSpan_46 : decode cX5_takeSpan 46 = .ok (.invokestatic 70, 3) := by decide +kernel
theorem dX5_takeSpan_49 : decode cX5_takeSpan 49 = .ok (.istore 4, 2) := by decide +kernel
theorem dX5_takeSpan_51 : decode cX5_takeSpan 51 = .ok (.iload 4, 2) := by decide +kernel
theorem dX5_takeSpan_53 : decode cX5_takeSpan 53 = .ok (.iconst (-1), 1) := by decide +kernel
theorem dX5_takeSpan_54 : decode cX5_takeSpan 54 = .ok (.if_icmp .eq 15, 3) := by decide +kernel
theorem dX5_takeSpan_57 : decode cX5_takeSpan 57 = .ok (.aload_n 0, 1) := by decide +kernel
theorem dX5_takeSpan_58 : decode cX5_takeSpan 58 = .ok (.getfield 7, 3) := by decide +kernel
theorem dX5_takeSpan_61 : decode cX5_takeSpan 61 = .ok (.iload_n 1, 1) := by decide +kernel
theorem dX5_takeSpan_62 : decode cX5_takeSpan 62 = .ok (.iload_n 2, 1) := by decide +kernel
theorem dX5_takeSpan_63 : decode cX5_takeSpan 63 = .ok (.invokestatic 58, 3) := by decide +kernel
theorem dX5_takeSpan_66 : decode cX5_takeSpan 66 = .ok (.ifCond .ne 9, 3) := by decide +kernel
theorem dX5_takeSpan_69 : decode cX5_takeSpan 69 = .ok (.aload_n 0, 1) := by decide +kernel
theorem dX5_takeSpan_70 : decode cX5_takeSpan 70 = .ok (.iconst 3, 1) := by decide +kernel
theorem dX5_takeSpan_71 : decode cX5_takeSpan 71 = .ok (.invokevirtual 36, 3) := by decide +kernel
theorem dX5_takeSpan_74 : decode cX5_takeSpan 74 = .ok (.ireturn, 1) := by decide +kernel
theorem dX5_takeSpan_75 : decode cX5_takeSpan 75 = .ok (.aload_n 0, 1) := by decide +kernel
theorem dX5_takeSpan_76 : decode cX5_takeSpan 76 = .ok (.invokevirtual 83, 3) := by decide +kernel
theorem dX5_takeSpan_79 : decode cX5_takeSpan 79 = .ok (.iconst 0, 1) := by decide +kernel
theorem dX5_takeSpan_80 : decode cX5_takeSpan 80 = .ok (.istore 5, 2) := by decide +kernel
theorem dX5_takeSpan_82 : decode cX5_takeSpan 82 = .ok (.iload 5, 2) := by decide +kernel
theorem dX5_takeSpan_84 : decode cX5_takeSpan 84 = .ok (.iload_n 2, 1) := by decide +kernel
theorem dX5_takeSpan_85 : decode cX5_takeSpan 85 = .ok (.if_icmp .ge 23, 3) := by decide +kernel
theorem dX5_takeSpan_88 : decode cX5_takeSpan 88 = .ok (.aload_n 0, 1) := by decide +kernel
theorem dX5_takeSpan_89 : decode cX5_takeSpan 89 = .ok (.getfield 7, 3) := by decide +kernel
theorem dX5_takeSpan_92 : decode cX5_takeSpan 92 = .ok (.iload 4, 2) := by decide +kernel
theorem dX5_takeSpan_94 : decode cX5_takeSpan 94 = .ok (.iload 5, 2) := by decide +kernel
theorem dX5_takeSpan_96 : decode cX5_takeSpan 96 = .ok (.iadd, 1) := by decide +kernel
theorem dX5_takeSpan_97 : decode cX5_takeSpan 97 = .ok (.iload_n 1, 1) := by decide +kernel
theorem dX5_takeSpan_98 : decode cX5_takeSpan 98 = .ok (.iload_n 3, 1) := by decide +kernel
theorem dX5_takeSpan_99 : decode cX5_takeSpan 99 = .ok (.invokestatic 62, 3) := by decide +kernel
theorem dX5_takeSpan_102 : decode cX5_takeSpan 102 = .ok (.iinc 5 1, 3) := by decide +kernel
theorem dX5_takeSpan_105 : decode cX5_takeSpan 105 = .ok (.goto (-23), 3) := by decide +kernel
theorem dX5_takeSpan_108 : decode cX5_takeSpan 108 = .ok (.iload 4, 2) := by decide +kernel
theorem dX5_takeSpan_110 : decode cX5_takeSpan 110 = .ok (.ireturn, 1) := by decide +kernel
theorem dX5_mayWish_0 : decode cX5_mayWish 0 = .ok (.aload_n 0, 1) := by decide +kernel
theorem dX5_mayWish_1 : decode cX5_mayWish 1 = .ok (.getfield 7, 3) := by decide +kernel
theorem dX5_mayWish_4 : decode cX5_mayWish 4 = .ok (.iload_n 2, 1) := by decide +kernel
theorem dX5_mayWish_5 : decode cX5_mayWish 5 = .ok (.invokestatic 43, 3) := by decide +kernel
theorem dX5_mayWish_8 : decode cX5_mayWish 8 = .ok (.ifCond .eq 13, 3) := by decide +kernel
theorem dX5_mayWish_11 : decode cX5_mayWish 11 = .ok (.aload_n 0, 1) := by decide +kernel
theorem dX5_mayWish_12 : decode cX5_mayWish 12 = .ok (.getfield 7, 3) := by decide +kernel
theorem dX5_mayWish_15 : decode cX5_mayWish 15 = .ok (.iload_n 1, 1) := by decide +kernel
theorem dX5_mayWish_16 : decode cX5_mayWish 16 = .ok (.iconst 1, 1) := by decide +kernel
theorem dX5_mayWish_17 : decode cX5_mayWish 17 = .ok (.invokestatic 58, 3) := by decide +kernel
theorem dX5_mayWish_20 : decode cX5_mayWish 20 = .ok (.ireturn, 1) := by decide +kernel
theorem dX5_mayWish_21 : decode cX5_mayWish 21 = .ok (.aload_n 0, 1) := by decide +kernel
theorem dX5_mayWish_22 : decode cX5_mayWish 22 = .ok (.getfield 7, 3) := by decide +kernel
theorem dX5_mayWish_25 : decode cX5_mayWish 25 = .ok (.iload_n 2, 1) := by decide +kernel
theorem dX5_mayWish_26 : decode cX5_mayWish 26 = .ok (.invokestatic 40, 3) := by decide +kernel
theorem dX5_mayWish_29 : decode cX5_mayWish 29 = .ok (.iconst 5, 1) := by decide +kernel
theorem dX5_mayWish_30 : decode cX5_mayWish 30 = .ok (.iadd, 1) := by decide +kernel
theorem dX5_mayWish_31 : decode cX5_mayWish 31 = .ok (.iaload, 1) := by decide +kernel
theorem dX5_mayWish_32 : decode cX5_mayWish 32 = .ok (.iconst 3, 1) := by decide +kernel
theorem dX5_mayWish_33 : decode cX5_mayWish 33 = .ok (.if_icmp .ge 33, 3) := by decide +kernel
theorem dX5_mayWish_36 : decode cX5_mayWish 36 = .ok (.aload_n 0, 1) := by decide +kernel
theorem dX5_mayWish_37 : decode cX5_mayWish 37 = .ok (.getfield 7, 3) := by decide +kernel
theorem dX5_mayWish_40 : decode cX5_mayWish 40 = .ok (.iload_n 2, 1) := by decide +kernel
theorem dX5_mayWish_41 : decode cX5_mayWish 41 = .ok (.invokestatic 40, 3) := by decide +kernel
theorem dX5_mayWish_44 : decode cX5_mayWish 44 = .ok (.iaload, 1) := by decide +kernel
theorem dX5_mayWish_45 : decode cX5_mayWish 45 = .ok (.iload_n 1, 1) := by decide +kernel
theorem dX5_mayWish_46 : decode cX5_mayWish 46 = .ok (.if_icmp .eq 20, 3) := by decide +kernel
theorem dX5_mayWish_49 : decode cX5_mayWish 49 = .ok (.aload_n 0, 1) := by decide +kernel
theorem dX5_mayWish_50 : decode cX5_mayWish 50 = .ok (.getfield 7, 3) := by decide +kernel
theorem dX5_mayWish_53 : decode cX5_mayWish 53 = .ok (.iload_n 2, 1) := by decide +kernel
theorem dX5_mayWish_54 : decode cX5_mayWish 54 = .ok (.iload_n 1, 1) := by decide +kernel
theorem dX5_mayWish_55 : decode cX5_mayWish 55 = .ok (.invokestatic 90, 3) := by decide +kernel
theorem dX5_mayWish_58 : decode cX5_mayWish 58 = .ok (.iconst (-1), 1) := by decide +kernel
theorem dX5_mayWish_59 : decode cX5_mayWish 59 = .ok (.if_icmp .ne 7, 3) := by decide +kernel
theorem dX5_mayWish_62 : decode cX5_mayWish 62 = .ok (.iconst 1, 1) := by decide +kernel
theorem dX5_mayWish_63 : decode cX5_mayWish 63 = .ok (.goto 4, 3) := by decide +kernel
theorem dX5_mayWish_66 : decode cX5_mayWish 66 = .ok (.iconst 0, 1) := by decide +kernel
theorem dX5_mayWish_67 : decode cX5_mayWish 67 = .ok (.ireturn, 1) := by decide +kernel
theorem dX5_wishes_0 : decode cX5_wishes 0 = .ok (.aload_n 0, 1) := by decide +kernel
theorem dX5_wishes_1 : decode cX5_wishes 1 = .ok (.getfield 7, 3) := by decide +kernel
theorem dX5_wishes_4 : decode cX5_wishes 4 = .ok (.iload_n 2, 1) := by decide +kernel
theorem dX5_wishes_5 : decode cX5_wishes 5 = .ok (.invokestatic 43, 3) := by decide +kernel
theorem dX5_wishes_8 : decode cX5_wishes 8 = .ok (.ifCond .eq 15, 3) := by decide +kernel
theorem dX5_wishes_11 : decode cX5_wishes 11 = .ok (.aload_n 0, 1) := by decide +kernel
theorem dX5_wishes_12 : decode cX5_wishes 12 = .ok (.getfield 7, 3) := by decide +kernel
theorem dX5_wishes_15 : decode cX5_wishes 15 = .ok (.iload_n 2, 1) := by decide +kernel
theorem dX5_wishes_16 : decode cX5_wishes 16 = .ok (.iload_n 1, 1) := by decide +kernel
theorem dX5_wishes_17 : decode cX5_wishes 17 = .ok (.iload_n 3, 1) := by decide +kernel
theorem dX5_wishes_18 : decode cX5_wishes 18 = .ok (.invokestatic 62, 3) := by decide +kernel
theorem dX5_wishes_21 : decode cX5_wishes 21 = .ok (.iconst 0, 1) := by decide +kernel
theorem dX5_wishes_22 : decode cX5_wishes 22 = .ok (.ireturn, 1) := by decide +kernel
theorem dX5_wishes_23 : decode cX5_wishes 23 = .ok (.aload_n 0, 1) := by decide +kernel
theorem dX5_wishes_24 : decode cX5_wishes 24 = .ok (.getfield 7, 3) := by decide +kernel
theorem dX5_wishes_27 : decode cX5_wishes 27 = .ok (.iload_n 2, 1) := by decide +kernel
theorem dX5_wishes_28 : decode cX5_wishes 28 = .ok (.iload_n 1, 1) := by decide +kernel
theorem dX5_wishes_29 : decode cX5_wishes 29 = .ok (.iload_n 3, 1) := by decide +kernel
theorem dX5_wishes_30 : decode cX5_wishes 30 = .ok (.invokestatic 94, 3) := by decide +kernel
theorem dX5_wishes_33 : decode cX5_wishes 33 = .ok (.aload_n 0, 1) := by decide +kernel
theorem dX5_wishes_34 : decode cX5_wishes 34 = .ok (.getfield 7, 3) := by decide +kernel
theorem dX5_wishes_37 : decode cX5_wishes 37 = .ok (.iload_n 2, 1) := by decide +kernel
theorem dX5_wishes_38 : decode cX5_wishes 38 = .ok (.invokestatic 40, 3) := by decide +kernel
theorem dX5_wishes_41 : decode cX5_wishes 41 = .ok (.iconst 5, 1) := by decide +kernel
theorem dX5_wishes_42 : decode cX5_wishes 42 = .ok (.iadd, 1) := by decide +kernel
theorem dX5_wishes_43 : decode cX5_wishes 43 = .ok (.iaload, 1) := by decide +kernel
theorem dX5_wishes_44 : decode cX5_wishes 44 = .ok (.ireturn, 1) := by decide +kernel
theorem dX5_wish_0 : decode cX5_wish 0 = .ok (.aload_n 0, 1) := by decide +kernel
theorem dX5_wish_1 : decode cX5_wish 1 = .ok (.iconst 0, 1) := by decide +kernel
theorem dX5_wish_2 : decode cX5_wish 2 = .ok (.putfield 25, 3) := by decide +kernel
theorem dX5_wish_5 : decode cX5_wish 5 = .ok (.iload_n 1, 1) := by decide +kernel
theorem dX5_wish_6 : decode cX5_wish 6 = .ok (.invokestatic 73, 3) := by decide +kernel
theorem dX5_wish_9 : decode cX5_wish 9 = .ok (.ifCond .eq 11, 3) := by decide +kernel
theorem dX5_wish_12 : decode cX5_wish 12 = .ok (.aload_n 0, 1) := by decide +kernel
theorem dX5_wish_13 : decode cX5_wish 13 = .ok (.iload_n 2, 1) := by decide +kernel
theorem dX5_wish_14 : decode cX5_wish 14 = .ok (.invokevirtual 97, 3) := by decide +kernel
theorem dX5_wish_17 : decode cX5_wish 17 = .ok (.ifCond .ne 9, 3) := by decide +kernel
theorem dX5_wish_20 : decode cX5_wish 20 = .ok (.aload_n 0, 1) := by decide +kernel
theorem dX5_wish_21 : decode cX5_wish 21 = .ok (.iconst 1, 1) := by decide +kernel
theorem dX5_wish_22 : decode cX5_wish 22 = .ok (.invokevirtual 36, 3) := by decide +kernel
theorem dX5_wish_25 : decode cX5_wish 25 = .ok (.ireturn, 1) := by decide +kernel
theorem dX5_wish_26 : decode cX5_wish 26 = .ok (.iload_n 3, 1) := by decide +kernel
theorem dX5_wish_27 : decode cX5_wish 27 = .ok (.invokestatic 77, 3) := by decide +kernel
theorem dX5_wish_30 : decode cX5_wish 30 = .ok (.ifCond .ne 9, 3) := by decide +kernel
theorem dX5_wish_33 : decode cX5_wish 33 = .ok (.aload_n 0, 1) := by decide +kernel
theorem dX5_wish_34 : decode cX5_wish 34 = .ok (.iconst 2, 1) := by decide +kernel
theorem dX5_wish_35 : decode cX5_wish 35 = .ok (.invokevirtual 36, 3) := by decide +kernel
theorem dX5_wish_38 : decode cX5_wish 38 = .ok (.ireturn, 1) := by decide +kernel
theorem dX5_wish_39 : decode cX5_wish 39 = .ok (.aload_n 0, 1) := by decide +kernel
theorem dX5_wish_40 : decode cX5_wish 40 = .ok (.iload_n 1, 1) := by decide +kernel
theorem dX5_wish_41 : decode cX5_wish 41 = .ok (.iload_n 2, 1) := by decide +kernel
theorem dX5_wish_42 : decode cX5_wish 42 = .ok (.invokevirtual 100, 3) := by decide +kernel
theorem dX5_wish_45 : decode cX5_wish 45 = .ok (.ifCond .ne 9, 3) := by decide +kernel
theorem dX5_wish_48 : decode cX5_wish 48 = .ok (.aload_n 0, 1) := by decide +kernel
theorem dX5_wish_49 : decode cX5_wish 49 = .ok (.iconst 3, 1) := by decide +kernel
theorem dX5_wish_50 : decode cX5_wish 50 = .ok (.invokevirtual 36, 3) := by decide +kernel
theorem dX5_wish_53 : decode cX5_wish 53 = .ok (.ireturn, 1) := by decide +kernel
theorem dX5_wish_54 : decode cX5_wish 54 = .ok (.aload_n 0, 1) := by decide +kernel
theorem dX5_wish_55 : decode cX5_wish 55 = .ok (.invokevirtual 83, 3) := by decide +kernel
theorem dX5_wish_58 : decode cX5_wish 58 = .ok (.aload_n 0, 1) := by decide +kernel
theorem dX5_wish_59 : decode cX5_wish 59 = .ok (.iload_n 1, 1) := by decide +kernel
theorem dX5_wish_60 : decode cX5_wish 60 = .ok (.iload_n 2, 1) := by decide +kernel
theorem dX5_wish_61 : decode cX5_wish 61 = .ok (.iload_n 3, 1) := by decide +kernel
theorem dX5_wish_62 : decode cX5_wish 62 = .ok (.invokevirtual 104, 3) := by decide +kernel
theorem dX5_wish_65 : decode cX5_wish 65 = .ok (.ireturn, 1) := by decide +kernel
theorem dX5_unwish_0 : decode cX5_unwish 0 = .ok (.aload_n 0, 1) := by decide +kernel
theorem dX5_unwish_1 : decode cX5_unwish 1 = .ok (.iconst 0, 1) := by decide +kernel
theorem dX5_unwish_2 : decode cX5_unwish 2 = .ok (.putfield 25, 3) := by decide +kernel
theorem dX5_unwish_5 : decode cX5_unwish 5 = .ok (.iload_n 1, 1) := by decide +kernel
theorem dX5_unwish_6 : decode cX5_unwish 6 = .ok (.invokestatic 73, 3) := by decide +kernel
theorem dX5_unwish_9 : decode cX5_unwish 9 = .ok (.ifCond .eq 11, 3) := by decide +kernel
theorem dX5_unwish_12 : decode cX5_unwish 12 = .ok (.aload_n 0, 1) := by decide +kernel
theorem dX5_unwish_13 : decode cX5_unwish 13 = .ok (.iload_n 2, 1) := by decide +kernel
theorem dX5_unwish_14 : decode cX5_unwish 14 = .ok (.invokevirtual 97, 3) := by decide +kernel
theorem dX5_unwish_17 : decode cX5_unwish 17 = .ok (.ifCond .ne 9, 3) := by decide +kernel
theorem dX5_unwish_20 : decode cX5_unwish 20 = .ok (.aload_n 0, 1) := by decide +kernel
theorem dX5_unwish_21 : decode cX5_unwish 21 = .ok (.iconst 1, 1) := by decide +kernel
theorem dX5_unwish_22 : decode cX5_unwish 22 = .ok (.invokevirtual 36, 3) := by decide +kernel
theorem dX5_unwish_25 : decode cX5_unwish 25 = .ok (.ireturn, 1) := by decide +kernel
theorem dX5_unwish_26 : decode cX5_unwish 26 = .ok (.aload_n 0, 1) := by decide +kernel
theorem dX5_unwish_27 : decode cX5_unwish 27 = .ok (.getfield 7, 3) := by decide +kernel
theorem dX5_unwish_30 : decode cX5_unwish 30 = .ok (.iload_n 2, 1) := by decide +kernel
theorem dX5_unwish_31 : decode cX5_unwish 31 = .ok (.iload_n 1, 1) := by decide +kernel
theorem dX5_unwish_32 : decode cX5_unwish 32 = .ok (.invokestatic 90, 3) := by decide +kernel
theorem dX5_unwish_35 : decode cX5_unwish 35 = .ok (.istore_n 3, 1) := by decide +kernel
theorem dX5_unwish_36 : decode cX5_unwish 36 = .ok (.iload_n 3, 1) := by decide +kernel
theorem dX5_unwish_37 : decode cX5_unwish 37 = .ok (.iconst (-1), 1) := by decide +kernel
theorem dX5_unwish_38 : decode cX5_unwish 38 = .ok (.if_icmp .ne 9, 3) := by decide +kernel
theorem dX5_unwish_41 : decode cX5_unwish 41 = .ok (.aload_n 0, 1) := by decide +kernel
theorem dX5_unwish_42 : decode cX5_unwish 42 = .ok (.iconst 2, 1) := by decide +kernel
theorem dX5_unwish_43 : decode cX5_unwish 43 = .ok (.invokevirtual 36, 3) := by decide +kernel
theorem dX5_unwish_46 : decode cX5_unwish 46 = .ok (.ireturn, 1) := by decide +kernel
theorem dX5_unwish_47 : decode cX5_unwish 47 = .ok (.aload_n 0, 1) := by decide +kernel
theorem dX5_unwish_48 : decode cX5_unwish 48 = .ok (.invokevirtual 83, 3) := by decide +kernel
theorem dX5_unwish_51 : decode cX5_unwish 51 = .ok (.aload_n 0, 1) := by decide +kernel
theorem dX5_unwish_52 : decode cX5_unwish 52 = .ok (.getfield 7, 3) := by decide +kernel
theorem dX5_unwish_55 : decode cX5_unwish 55 = .ok (.iload_n 2, 1) := by decide +kernel
theorem dX5_unwish_56 : decode cX5_unwish 56 = .ok (.iload_n 3, 1) := by decide +kernel
theorem dX5_unwish_57 : decode cX5_unwish 57 = .ok (.invokestatic 54, 3) := by decide +kernel
theorem dX5_unwish_60 : decode cX5_unwish 60 = .ok (.aload_n 0, 1) := by decide +kernel
theorem dX5_unwish_61 : decode cX5_unwish 61 = .ok (.getfield 7, 3) := by decide +kernel
theorem dX5_unwish_64 : decode cX5_unwish 64 = .ok (.iload_n 2, 1) := by decide +kernel
theorem dX5_unwish_65 : decode cX5_unwish 65 = .ok (.invokestatic 40, 3) := by decide +kernel
theorem dX5_unwish_68 : decode cX5_unwish 68 = .ok (.iconst 5, 1) := by decide +kernel
theorem dX5_unwish_69 : decode cX5_unwish 69 = .ok (.iadd, 1) := by decide +kernel
theorem dX5_unwish_70 : decode cX5_unwish 70 = .ok (.iaload, 1) := by decide +kernel
theorem dX5_unwish_71 : decode cX5_unwish 71 = .ok (.ireturn, 1) := by decide +kernel
theorem dX5_renew_0 : decode cX5_renew 0 = .ok (.aload_n 0, 1) := by decide +kernel
theorem dX5_renew_1 : decode cX5_renew 1 = .ok (.iconst 0, 1) := by decide +kernel
theorem dX5_renew_2 : decode cX5_renew 2 = .ok (.putfield 25, 3) := by decide +kernel
theorem dX5_renew_5 : decode cX5_renew 5 = .ok (.iload_n 1, 1) := by decide +kernel
theorem dX5_renew_6 : decode cX5_renew 6 = .ok (.invokestatic 73, 3) := by decide +kernel
theorem dX5_renew_9 : decode cX5_renew 9 = .ok (.ifCond .eq 11, 3) := by decide +kernel
theorem dX5_renew_12 : decode cX5_renew 12 = .ok (.aload_n 0, 1) := by decide +kernel
theorem dX5_renew_13 : decode cX5_renew 13 = .ok (.iload_n 2, 1) := by decide +kernel
theorem dX5_renew_14 : decode cX5_renew 14 = .ok (.invokevirtual 97, 3) := by decide +kernel
theorem dX5_renew_17 : decode cX5_renew 17 = .ok (.ifCond .ne 9, 3) := by decide +kernel
theorem dX5_renew_20 : decode cX5_renew 20 = .ok (.aload_n 0, 1) := by decide +kernel
theorem dX5_renew_21 : decode cX5_renew 21 = .ok (.iconst 1, 1) := by decide +kernel
theorem dX5_renew_22 : decode cX5_renew 22 = .ok (.invokevirtual 36, 3) := by decide +kernel
theorem dX5_renew_25 : decode cX5_renew 25 = .ok (.ireturn, 1) := by decide +kernel
theorem dX5_renew_26 : decode cX5_renew 26 = .ok (.iload_n 3, 1) := by decide +kernel
theorem dX5_renew_27 : decode cX5_renew 27 = .ok (.invokestatic 77, 3) := by decide +kernel
theorem dX5_renew_30 : decode cX5_renew 30 = .ok (.ifCond .ne 9, 3) := by decide +kernel
theorem dX5_renew_33 : decode cX5_renew 33 = .ok (.aload_n 0, 1) := by decide +kernel
theorem dX5_renew_34 : decode cX5_renew 34 = .ok (.iconst 2, 1) := by decide +kernel
theorem dX5_renew_35 : decode cX5_renew 35 = .ok (.invokevirtual 36, 3) := by decide +kernel
theorem dX5_renew_38 : decode cX5_renew 38 = .ok (.ireturn, 1) := by decide +kernel
theorem dX5_renew_39 : decode cX5_renew 39 = .ok (.iload_n 2, 1) := by decide +kernel
theorem dX5_renew_40 : decode cX5_renew 40 = .ok (.invokestatic 40, 3) := by decide +kernel
theorem dX5_renew_43 : decode cX5_renew 43 = .ok (.istore 4, 2) := by decide +kernel
theorem dX5_renew_45 : decode cX5_renew 45 = .ok (.aload_n 0, 1) := by decide +kernel
theorem dX5_renew_46 : decode cX5_renew 46 = .ok (.getfield 7, 3) := by decide +kernel
theorem dX5_renew_49 : decode cX5_renew 49 = .ok (.iload 4, 2) := by decide +kernel
theorem dX5_renew_51 : decode cX5_renew 51 = .ok (.iaload, 1) := by decide +kernel
theorem dX5_renew_52 : decode cX5_renew 52 = .ok (.iload_n 1, 1) := by decide +kernel
theorem dX5_renew_53 : decode cX5_renew 53 = .ok (.if_icmp .ne 25, 3) := by decide +kernel
theorem dX5_renew_56 : decode cX5_renew 56 = .ok (.aload_n 0, 1) := by decide +kernel
theorem dX5_renew_57 : decode cX5_renew 57 = .ok (.getfield 7, 3) := by decide +kernel
theorem dX5_renew_60 : decode cX5_renew 60 = .ok (.iload 4, 2) := by decide +kernel
theorem dX5_renew_62 : decode cX5_renew 62 = .ok (.iconst 5, 1) := by decide +kernel
theorem dX5_renew_63 : decode cX5_renew 63 = .ok (.iadd, 1) := by decide +kernel
theorem dX5_renew_64 : decode cX5_renew 64 = .ok (.iaload, 1) := by decide +kernel
theorem dX5_renew_65 : decode cX5_renew 65 = .ok (.ifCond .le 19, 3) := by decide +kernel
theorem dX5_renew_68 : decode cX5_renew 68 = .ok (.aload_n 0, 1) := by decide +kernel
theorem dX5_renew_69 : decode cX5_renew 69 = .ok (.getfield 7, 3) := by decide +kernel
theorem dX5_renew_72 : decode cX5_renew 72 = .ok (.iconst 3, 1) := by decide +kernel
theorem dX5_renew_73 : decode cX5_renew 73 = .ok (.iaload, 1) := by decide +kernel
theorem dX5_renew_74 : decode cX5_renew 74 = .ok (.iconst 1, 1) := by decide +kernel
theorem dX5_renew_75 : decode cX5_renew 75 = .ok (.if_icmp .ne 9, 3) := by decide +kernel
theorem dX5_renew_78 : decode cX5_renew 78 = .ok (.aload_n 0, 1) := by decide +kernel
theorem dX5_renew_79 : decode cX5_renew 79 = .ok (.iconst 3, 1) := by decide +kernel
theorem dX5_renew_80 : decode cX5_renew 80 = .ok (.invokevirtual 36, 3) := by decide +kernel
theorem dX5_renew_83 : decode cX5_renew 83 = .ok (.ireturn, 1) := by decide +kernel
theorem dX5_renew_84 : decode cX5_renew 84 = .ok (.aload_n 0, 1) := by decide +kernel
theorem dX5_renew_85 : decode cX5_renew 85 = .ok (.invokevirtual 83, 3) := by decide +kernel
theorem dX5_renew_88 : decode cX5_renew 88 = .ok (.aload_n 0, 1) := by decide +kernel
theorem dX5_renew_89 : decode cX5_renew 89 = .ok (.getfield 7, 3) := by decide +kernel
theorem dX5_renew_92 : decode cX5_renew 92 = .ok (.iload 4, 2) := by decide +kernel
theorem dX5_renew_94 : decode cX5_renew 94 = .ok (.iconst 2, 1) := by decide +kernel
theorem dX5_renew_95 : decode cX5_renew 95 = .ok (.iadd, 1) := by decide +kernel
theorem dX5_renew_96 : decode cX5_renew 96 = .ok (.iaload, 1) := by decide +kernel
theorem dX5_renew_97 : decode cX5_renew 97 = .ok (.istore 5, 2) := by decide +kernel
theorem dX5_renew_99 : decode cX5_renew 99 = .ok (.aload_n 0, 1) := by decide +kernel
theorem dX5_renew_100 : decode cX5_renew 100 = .ok (.getfield 7, 3) := by decide +kernel
theorem dX5_renew_103 : decode cX5_renew 103 = .ok (.iconst 5, 1) := by decide +kernel
theorem dX5_renew_104 : decode cX5_renew 104 = .ok (.dup2, 1) := by decide +kernel
theorem dX5_renew_105 : decode cX5_renew 105 = .ok (.iaload, 1) := by decide +kernel
theorem dX5_renew_106 : decode cX5_renew 106 = .ok (.iconst 1, 1) := by decide +kernel
theorem dX5_renew_107 : decode cX5_renew 107 = .ok (.iadd, 1) := by decide +kernel
theorem dX5_renew_108 : decode cX5_renew 108 = .ok (.iastore, 1) := by decide +kernel
theorem dX5_renew_109 : decode cX5_renew 109 = .ok (.aload_n 0, 1) := by decide +kernel
theorem dX5_renew_110 : decode cX5_renew 110 = .ok (.getfield 7, 3) := by decide +kernel
theorem dX5_renew_113 : decode cX5_renew 113 = .ok (.bipush 6, 2) := by decide +kernel
theorem dX5_renew_115 : decode cX5_renew 115 = .ok (.dup2, 1) := by decide +kernel
theorem dX5_renew_116 : decode cX5_renew 116 = .ok (.iaload, 1) := by decide +kernel
theorem dX5_renew_117 : decode cX5_renew 117 = .ok (.aload_n 0, 1) := by decide +kernel
theorem dX5_renew_118 : decode cX5_renew 118 = .ok (.getfield 7, 3) := by decide +kernel
theorem dX5_renew_121 : decode cX5_renew 121 = .ok (.iload_n 2, 1) := by decide +kernel
theorem dX5_renew_122 : decode cX5_renew 122 = .ok (.invokestatic 51, 3) := by decide +kernel
theorem dX5_renew_125 : decode cX5_renew 125 = .ok (.iconst 2, 1) := by decide +kernel
theorem dX5_renew_126 : decode cX5_renew 126 = .ok (.if_icmp .ne 7, 3) := by decide +kernel
theorem dX5_renew_129 : decode cX5_renew 129 = .ok (.iconst 1, 1) := by decide +kernel
theorem dX5_renew_130 : decode cX5_renew 130 = .ok (.goto 4, 3) := by decide +kernel
theorem dX5_renew_133 : decode cX5_renew 133 = .ok (.iconst 0, 1) := by decide +kernel
theorem dX5_renew_134 : decode cX5_renew 134 = .ok (.iadd, 1) := by decide +kernel
theorem dX5_renew_135 : decode cX5_renew 135 = .ok (.iastore, 1) := by decide +kernel
theorem dX5_renew_136 : decode cX5_renew 136 = .ok (.aload_n 0, 1) := by decide +kernel
theorem dX5_renew_137 : decode cX5_renew 137 = .ok (.getfield 7, 3) := by decide +kernel
theorem dX5_renew_140 : decode cX5_renew 140 = .ok (.iload 4, 2) := by decide +kernel
theorem dX5_renew_142 : decode cX5_renew 142 = .ok (.iconst 2, 1) := by decide +kernel
theorem dX5_renew_143 : decode cX5_renew 143 = .ok (.iadd, 1) := by decide +kernel
theorem dX5_renew_144 : decode cX5_renew 144 = .ok (.aload_n 0, 1) := by decide +kernel
theorem dX5_renew_145 : decode cX5_renew 145 = .ok (.getfield 7, 3) := by decide +kernel
theorem dX5_renew_148 : decode cX5_renew 148 = .ok (.iconst 0, 1) := by decide +kernel
theorem dX5_renew_149 : decode cX5_renew 149 = .ok (.iaload, 1) := by decide +kernel
theorem dX5_renew_150 : decode cX5_renew 150 = .ok (.iload_n 3, 1) := by decide +kernel
theorem dX5_renew_151 : decode cX5_renew 151 = .ok (.iadd, 1) := by decide +kernel
theorem dX5_renew_152 : decode cX5_renew 152 = .ok (.iastore, 1) := by decide +kernel
theorem dX5_renew_153 : decode cX5_renew 153 = .ok (.aload_n 0, 1) := by decide +kernel
theorem dX5_renew_154 : decode cX5_renew 154 = .ok (.getfield 7, 3) := by decide +kernel
theorem dX5_renew_157 : decode cX5_renew 157 = .ok (.iload 4, 2) := by decide +kernel
theorem dX5_renew_159 : decode cX5_renew 159 = .ok (.iconst 3, 1) := by decide +kernel
theorem dX5_renew_160 : decode cX5_renew 160 = .ok (.iadd, 1) := by decide +kernel
theorem dX5_renew_161 : decode cX5_renew 161 = .ok (.aload_n 0, 1) := by decide +kernel
theorem dX5_renew_162 : decode cX5_renew 162 = .ok (.getfield 7, 3) := by decide +kernel
theorem dX5_renew_165 : decode cX5_renew 165 = .ok (.iconst 0, 1) := by decide +kernel
theorem dX5_renew_166 : decode cX5_renew 166 = .ok (.iaload, 1) := by decide +kernel
theorem dX5_renew_167 : decode cX5_renew 167 = .ok (.iload_n 3, 1) := by decide +kernel
theorem dX5_renew_168 : decode cX5_renew 168 = .ok (.iadd, 1) := by decide +kernel
theorem dX5_renew_169 : decode cX5_renew 169 = .ok (.aload_n 0, 1) := by decide +kernel
theorem dX5_renew_170 : decode cX5_renew 170 = .ok (.getfield 7, 3) := by decide +kernel
theorem dX5_renew_173 : decode cX5_renew 173 = .ok (.iconst 1, 1) := by decide +kernel
theorem dX5_renew_174 : decode cX5_renew 174 = .ok (.iaload, 1) := by decide +kernel
theorem dX5_renew_175 : decode cX5_renew 175 = .ok (.iadd, 1) := by decide +kernel
theorem dX5_renew_176 : decode cX5_renew 176 = .ok (.iastore, 1) := by decide +kernel
theorem dX5_renew_177 : decode cX5_renew 177 = .ok (.iload 5, 2) := by decide +kernel
theorem dX5_renew_179 : decode cX5_renew 179 = .ok (.ireturn, 1) := by decide +kernel
theorem dX5_givesBack_0 : decode cX5_givesBack 0 = .ok (.iconst 0, 1) := by decide +kernel
theorem dX5_givesBack_1 : decode cX5_givesBack 1 = .ok (.istore 4, 2) := by decide +kernel
theorem dX5_givesBack_3 : decode cX5_givesBack 3 = .ok (.iload_n 2, 1) := by decide +kernel
theorem dX5_givesBack_4 : decode cX5_givesBack 4 = .ok (.istore 5, 2) := by decide +kernel
theorem dX5_givesBack_6 : decode cX5_givesBack 6 = .ok (.iload 5, 2) := by decide +kernel
theorem dX5_givesBack_8 : decode cX5_givesBack 8 = .ok (.iload_n 3, 1) := by decide +kernel
theorem dX5_givesBack_9 : decode cX5_givesBack 9 = .ok (.if_icmp .gt 35, 3) := by decide +kernel
theorem dX5_givesBack_12 : decode cX5_givesBack 12 = .ok (.aload_n 0, 1) := by decide +kernel
theorem dX5_givesBack_13 : decode cX5_givesBack 13 = .ok (.getfield 7, 3) := by decide +kernel
theorem dX5_givesBack_16 : decode cX5_givesBack 16 = .ok (.iload 5, 2) := by decide +kernel
theorem dX5_givesBack_18 : decode cX5_givesBack 18 = .ok (.invokestatic 40, 3) := by decide +kernel
theorem dX5_givesBack_21 : decode cX5_givesBack 21 = .ok (.iaload, 1) := by decide +kernel
theorem dX5_givesBack_22 : decode cX5_givesBack 22 = .ok (.iload_n 1, 1) := by decide +kernel
theorem dX5_givesBack_23 : decode cX5_givesBack 23 = .ok (.if_icmp .ne 15, 3) := by decide +kernel
theorem dX5_givesBack_26 : decode cX5_givesBack 26 = .ok (.aload_n 0, 1) := by decide +kernel
theorem dX5_givesBack_27 : decode cX5_givesBack 27 = .ok (.getfield 7, 3) := by decide +kernel
theorem dX5_givesBack_30 : decode cX5_givesBack 30 = .ok (.iload 5, 2) := by decide +kernel
theorem dX5_givesBack_32 : decode cX5_givesBack 32 = .ok (.invokestatic 66, 3) := by decide +kernel
theorem dX5_givesBack_35 : decode cX5_givesBack 35 = .ok (.iinc 4 1, 3) := by decide +kernel
theorem dX5_givesBack_38 : decode cX5_givesBack 38 = .ok (.iinc 5 1, 3) := by decide +kernel
theorem dX5_givesBack_41 : decode cX5_givesBack 41 = .ok (.goto (-35), 3) := by decide +kernel
theorem dX5_givesBack_44 : decode cX5_givesBack 44 = .ok (.iload 4, 2) := by decide +kernel
theorem dX5_givesBack_46 : decode cX5_givesBack 46 = .ok (.ireturn, 1) := by decide +kernel
theorem dX5_giveBack_0 : decode cX5_giveBack 0 = .ok (.aload_n 0, 1) := by decide +kernel
theorem dX5_giveBack_1 : decode cX5_giveBack 1 = .ok (.iconst 0, 1) := by decide +kernel
theorem dX5_giveBack_2 : decode cX5_giveBack 2 = .ok (.putfield 25, 3) := by decide +kernel
theorem dX5_giveBack_5 : decode cX5_giveBack 5 = .ok (.iload_n 1, 1) := by decide +kernel
theorem dX5_giveBack_6 : decode cX5_giveBack 6 = .ok (.invokestatic 73, 3) := by decide +kernel
theorem dX5_giveBack_9 : decode cX5_giveBack 9 = .ok (.ifCond .eq 19, 3) := by decide +kernel
theorem dX5_giveBack_12 : decode cX5_giveBack 12 = .ok (.aload_n 0, 1) := by decide +kernel
theorem dX5_giveBack_13 : decode cX5_giveBack 13 = .ok (.iload_n 2, 1) := by decide +kernel
theorem dX5_giveBack_14 : decode cX5_giveBack 14 = .ok (.invokevirtual 97, 3) := by decide +kernel
theorem dX5_giveBack_17 : decode cX5_giveBack 17 = .ok (.ifCond .eq 11, 3) := by decide +kernel
theorem dX5_giveBack_20 : decode cX5_giveBack 20 = .ok (.aload_n 0, 1) := by decide +kernel
theorem dX5_giveBack_21 : decode cX5_giveBack 21 = .ok (.iload_n 3, 1) := by decide +kernel
theorem dX5_giveBack_22 : decode cX5_giveBack 22 = .ok (.invokevirtual 97, 3) := by decide +kernel
theorem dX5_giveBack_25 : decode cX5_giveBack 25 = .ok (.ifCond .ne 9, 3) := by decide +kernel
theorem dX5_giveBack_28 : decode cX5_giveBack 28 = .ok (.aload_n 0, 1) := by decide +kernel
theorem dX5_giveBack_29 : decode cX5_giveBack 29 = .ok (.iconst 1, 1) := by decide +kernel
theorem dX5_giveBack_30 : decode cX5_giveBack 30 = .ok (.invokevirtual 36, 3) := by decide +kernel
theorem dX5_giveBack_33 : decode cX5_giveBack 33 = .ok (.ireturn, 1) := by decide +kernel
theorem dX5_giveBack_34 : decode cX5_giveBack 34 = .ok (.iload_n 3, 1) := by decide +kernel
theorem dX5_giveBack_35 : decode cX5_giveBack 35 = .ok (.iload_n 2, 1) := by decide +kernel
theorem dX5_giveBack_36 : decode cX5_giveBack 36 = .ok (.if_icmp .ge 9, 3) := by decide +kernel
theorem dX5_giveBack_39 : decode cX5_giveBack 39 = .ok (.aload_n 0, 1) := by decide +kernel
theorem dX5_giveBack_40 : decode cX5_giveBack 40 = .ok (.iconst 2, 1) := by decide +kernel
theorem dX5_giveBack_41 : decode cX5_giveBack 41 = .ok (.invokevirtual 36, 3) := by decide +kernel
theorem dX5_giveBack_44 : decode cX5_giveBack 44 = .ok (.ireturn, 1) := by decide +kernel
theorem dX5_giveBack_45 : decode cX5_giveBack 45 = .ok (.aload_n 0, 1) := by decide +kernel
theorem dX5_giveBack_46 : decode cX5_giveBack 46 = .ok (.invokevirtual 83, 3) := by decide +kernel
theorem dX5_giveBack_49 : decode cX5_giveBack 49 = .ok (.aload_n 0, 1) := by decide +kernel
theorem dX5_giveBack_50 : decode cX5_giveBack 50 = .ok (.iload_n 1, 1) := by decide +kernel
theorem dX5_giveBack_51 : decode cX5_giveBack 51 = .ok (.iload_n 2, 1) := by decide +kernel
theorem dX5_giveBack_52 : decode cX5_giveBack 52 = .ok (.iload_n 3, 1) := by decide +kernel
theorem dX5_giveBack_53 : decode cX5_giveBack 53 = .ok (.invokevirtual 108, 3) := by decide +kernel
theorem dX5_giveBack_56 : decode cX5_giveBack 56 = .ok (.ireturn, 1) := by decide +kernel
theorem dX5_passesBy_0 : decode cX5_passesBy 0 = .ok (.iconst 0, 1) := by decide +kernel
theorem dX5_passesBy_1 : decode cX5_passesBy 1 = .ok (.istore_n 2, 1) := by decide +kernel
theorem dX5_passesBy_2 : decode cX5_passesBy 2 = .ok (.iconst 0, 1) := by decide +kernel
theorem dX5_passesBy_3 : decode cX5_passesBy 3 = .ok (.istore_n 3, 1) := by decide +kernel
theorem dX5_passesBy_4 : decode cX5_passesBy 4 = .ok (.iload_n 3, 1) := by decide +kernel
theorem dX5_passesBy_5 : decode cX5_passesBy 5 = .ok (.iload_n 1, 1) := by decide +kernel
theorem dX5_passesBy_6 : decode cX5_passesBy 6 = .ok (.if_icmp .ge 19, 3) := by decide +kernel
theorem dX5_passesBy_9 : decode cX5_passesBy 9 = .ok (.iload_n 2, 1) := by decide +kernel
theorem dX5_passesBy_10 : decode cX5_passesBy 10 = .ok (.aload_n 0, 1) := by decide +kernel
theorem dX5_passesBy_11 : decode cX5_passesBy 11 = .ok (.getfield 7, 3) := by decide +kernel
theorem dX5_passesBy_14 : decode cX5_passesBy 14 = .ok (.invokestatic 111, 3) := by decide +kernel
theorem dX5_passesBy_17 : decode cX5_passesBy 17 = .ok (.iadd, 1) := by decide +kernel
theorem dX5_passesBy_18 : decode cX5_passesBy 18 = .ok (.istore_n 2, 1) := by decide +kernel
theorem dX5_passesBy_19 : decode cX5_passesBy 19 = .ok (.iinc 3 1, 3) := by decide +kernel
theorem dX5_passesBy_22 : decode cX5_passesBy 22 = .ok (.goto (-18), 3) := by decide +kernel
theorem dX5_passesBy_25 : decode cX5_passesBy 25 = .ok (.iload_n 2, 1) := by decide +kernel
theorem dX5_passesBy_26 : decode cX5_passesBy 26 = .ok (.ireturn, 1) := by decide +kernel
theorem dX5_pass_0 : decode cX5_pass 0 = .ok (.aload_n 0, 1) := by decide +kernel
theorem dX5_pass_1 : decode cX5_pass 1 = .ok (.iconst 0, 1) := by decide +kernel
theorem dX5_pass_2 : decode cX5_pass 2 = .ok (.putfield 25, 3) := by decide +kernel
theorem dX5_pass_5 : decode cX5_pass 5 = .ok (.iload_n 1, 1) := by decide +kernel
theorem dX5_pass_6 : decode cX5_pass 6 = .ok (.iconst 1, 1) := by decide +kernel
theorem dX5_pass_7 : decode cX5_pass 7 = .ok (.bipush 99, 2) := by decide +kernel
theorem dX5_pass_9 : decode cX5_pass 9 = .ok (.invokestatic 29, 3) := by decide +kernel
theorem dX5_pass_12 : decode cX5_pass 12 = .ok (.ifCond .ne 9, 3) := by decide +kernel
theorem dX5_pass_15 : decode cX5_pass 15 = .ok (.aload_n 0, 1) := by decide +kernel
theorem dX5_pass_16 : decode cX5_pass 16 = .ok (.iconst 1, 1) := by decide +kernel
theorem dX5_pass_17 : decode cX5_pass 17 = .ok (.invokevirtual 36, 3) := by decide +kernel
theorem dX5_pass_20 : decode cX5_pass 20 = .ok (.ireturn, 1) := by decide +kernel
theorem dX5_pass_21 : decode cX5_pass 21 = .ok (.aload_n 0, 1) := by decide +kernel
theorem dX5_pass_22 : decode cX5_pass 22 = .ok (.getfield 7, 3) := by decide +kernel
theorem dX5_pass_25 : decode cX5_pass 25 = .ok (.iconst 0, 1) := by decide +kernel
theorem dX5_pass_26 : decode cX5_pass 26 = .ok (.iaload, 1) := by decide +kernel
theorem dX5_pass_27 : decode cX5_pass 27 = .ok (.iload_n 1, 1) := by decide +kernel
theorem dX5_pass_28 : decode cX5_pass 28 = .ok (.iadd, 1) := by decide +kernel
theorem dX5_pass_29 : decode cX5_pass 29 = .ok (.sipush 9999, 3) := by decide +kernel
theorem dX5_pass_32 : decode cX5_pass 32 = .ok (.if_icmp .le 9, 3) := by decide +kernel
theorem dX5_pass_35 : decode cX5_pass 35 = .ok (.aload_n 0, 1) := by decide +kernel
theorem dX5_pass_36 : decode cX5_pass 36 = .ok (.iconst 2, 1) := by decide +kernel
theorem dX5_pass_37 : decode cX5_pass 37 = .ok (.invokevirtual 36, 3) := by decide +kernel
theorem dX5_pass_40 : decode cX5_pass 40 = .ok (.ireturn, 1) := by decide +kernel
theorem dX5_pass_41 : decode cX5_pass 41 = .ok (.aload_n 0, 1) := by decide +kernel
theorem dX5_pass_42 : decode cX5_pass 42 = .ok (.invokevirtual 83, 3) := by decide +kernel
theorem dX5_pass_45 : decode cX5_pass 45 = .ok (.aload_n 0, 1) := by decide +kernel
theorem dX5_pass_46 : decode cX5_pass 46 = .ok (.iload_n 1, 1) := by decide +kernel
theorem dX5_pass_47 : decode cX5_pass 47 = .ok (.invokevirtual 115, 3) := by decide +kernel
theorem dX5_pass_50 : decode cX5_pass 50 = .ok (.ireturn, 1) := by decide +kernel
theorem dX5_isFor_0 : decode cX5_isFor 0 = .ok (.iload_n 1, 1) := by decide +kernel
theorem dX5_isFor_1 : decode cX5_isFor 1 = .ok (.ifCond .ne 13, 3) := by decide +kernel
theorem dX5_isFor_4 : decode cX5_isFor 4 = .ok (.iload_n 2, 1) := by decide +kernel
theorem dX5_isFor_5 : decode cX5_isFor 5 = .ok (.iconst 0, 1) := by decide +kernel
theorem dX5_isFor_6 : decode cX5_isFor 6 = .ok (.bipush 50, 2) := by decide +kernel
theorem dX5_isFor_8 : decode cX5_isFor 8 = .ok (.invokestatic 29, 3) := by decide +kernel
theorem dX5_isFor_11 : decode cX5_isFor 11 = .ok (.goto 39, 3) := by decide +kernel
theorem dX5_isFor_14 : decode cX5_isFor 14 = .ok (.iload_n 1, 1) := by decide +kernel
theorem dX5_isFor_15 : decode cX5_isFor 15 = .ok (.iconst 1, 1) := by decide +kernel
theorem dX5_isFor_16 : decode cX5_isFor 16 = .ok (.if_icmp .ne 13, 3) := by decide +kernel
theorem dX5_isFor_19 : decode cX5_isFor 19 = .ok (.iload_n 2, 1) := by decide +kernel
theorem dX5_isFor_20 : decode cX5_isFor 20 = .ok (.iconst 1, 1) := by decide +kernel
theorem dX5_isFor_21 : decode cX5_isFor 21 = .ok (.bipush 64, 2) := by decide +kernel
theorem dX5_isFor_23 : decode cX5_isFor 23 = .ok (.invokestatic 29, 3) := by decide +kernel
theorem dX5_isFor_26 : decode cX5_isFor 26 = .ok (.goto 24, 3) := by decide +kernel
theorem dX5_isFor_29 : decode cX5_isFor 29 = .ok (.iload_n 1, 1) := by decide +kernel
theorem dX5_isFor_30 : decode cX5_isFor 30 = .ok (.iconst 2, 1) := by decide +kernel
theorem dX5_isFor_31 : decode cX5_isFor 31 = .ok (.if_icmp .ne 12, 3) := by decide +kernel
theorem dX5_isFor_34 : decode cX5_isFor 34 = .ok (.iload_n 2, 1) := by decide +kernel
theorem dX5_isFor_35 : decode cX5_isFor 35 = .ok (.iconst 0, 1) := by decide +kernel
theorem dX5_isFor_36 : decode cX5_isFor 36 = .ok (.iconst 1, 1) := by decide +kernel
theorem dX5_isFor_37 : decode cX5_isFor 37 = .ok (.invokestatic 29, 3) := by decide +kernel
theorem dX5_isFor_40 : decode cX5_isFor 40 = .ok (.goto 10, 3) := by decide +kernel
theorem dX5_isFor_43 : decode cX5_isFor 43 = .ok (.iload_n 2, 1) := by decide +kernel
theorem dX5_isFor_44 : decode cX5_isFor 44 = .ok (.iconst 4, 1) := by decide +kernel
theorem dX5_isFor_45 : decode cX5_isFor 45 = .ok (.bipush 64, 2) := by decide +kernel
theorem dX5_isFor_47 : decode cX5_isFor 47 = .ok (.invokestatic 29, 3) := by decide +kernel
theorem dX5_isFor_50 : decode cX5_isFor 50 = .ok (.ireturn, 1) := by decide +kernel
theorem dX5_set_0 : decode cX5_set 0 = .ok (.aload_n 0, 1) := by decide +kernel
theorem dX5_set_1 : decode cX5_set 1 = .ok (.iconst 0, 1) := by decide +kernel
theorem dX5_set_2 : decode cX5_set 2 = .ok (.putfield 25, 3) := by decide +kernel
theorem dX5_set_5 : decode cX5_set 5 = .ok (.iload_n 1, 1) := by decide +kernel
theorem dX5_set_6 : decode cX5_set 6 = .ok (.iconst 0, 1) := by decide +kernel
theorem dX5_set_7 : decode cX5_set 7 = .ok (.iconst 3, 1) := by decide +kernel
theorem dX5_set_8 : decode cX5_set 8 = .ok (.invokestatic 29, 3) := by decide +kernel
theorem dX5_set_11 : decode cX5_set 11 = .ok (.ifCond .ne 9, 3) := by decide +kernel
theorem dX5_set_14 : decode cX5_set 14 = .ok (.aload_n 0, 1) := by decide +kernel
theorem dX5_set_15 : decode cX5_set 15 = .ok (.iconst 1, 1) := by decide +kernel
theorem dX5_set_16 : decode cX5_set 16 = .ok (.invokevirtual 36, 3) := by decide +kernel
theorem dX5_set_19 : decode cX5_set 19 = .ok (.ireturn, 1) := by decide +kernel
theorem dX5_set_20 : decode cX5_set 20 = .ok (.aload_n 0, 1) := by decide +kernel
theorem dX5_set_21 : decode cX5_set 21 = .ok (.iload_n 1, 1) := by decide +kernel
theorem dX5_set_22 : decode cX5_set 22 = .ok (.iload_n 2, 1) := by decide +kernel
theorem dX5_set_23 : decode cX5_set 23 = .ok (.invokevirtual 118, 3) := by decide +kernel
theorem dX5_set_26 : decode cX5_set 26 = .ok (.ifCond .ne 9, 3) := by decide +kernel
theorem dX5_set_29 : decode cX5_set 29 = .ok (.aload_n 0, 1) := by decide +kernel
theorem dX5_set_30 : decode cX5_set 30 = .ok (.iconst 2, 1) := by decide +kernel
theorem dX5_set_31 : decode cX5_set 31 = .ok (.invokevirtual 36, 3) := by decide +kernel
theorem dX5_set_34 : decode cX5_set 34 = .ok (.ireturn, 1) := by decide +kernel
theorem dX5_set_35 : decode cX5_set 35 = .ok (.iload_n 2, 1) := by decide +kernel
theorem dX5_set_36 : decode cX5_set 36 = .ok (.istore_n 3, 1) := by decide +kernel
theorem dX5_set_37 : decode cX5_set 37 = .ok (.iload_n 1, 1) := by decide +kernel
theorem dX5_set_38 : decode cX5_set 38 = .ok (.iconst 3, 1) := by decide +kernel
theorem dX5_set_39 : decode cX5_set 39 = .ok (.if_icmp .ne 36, 3) := by decide +kernel
theorem dX5_set_42 : decode cX5_set 42 = .ok (.iload_n 3, 1) := by decide +kernel
theorem dX5_set_43 : decode cX5_set 43 = .ok (.aload_n 0, 1) := by decide +kernel
theorem dX5_set_44 : decode cX5_set 44 = .ok (.getfield 7, 3) := by decide +kernel
theorem dX5_set_47 : decode cX5_set 47 = .ok (.iconst 4, 1) := by decide +kernel
theorem dX5_set_48 : decode cX5_set 48 = .ok (.iaload, 1) := by decide +kernel
theorem dX5_set_49 : decode cX5_set 49 = .ok (.if_icmp .ge 26, 3) := by decide +kernel
theorem dX5_set_52 : decode cX5_set 52 = .ok (.aload_n 0, 1) := by decide +kernel
theorem dX5_set_53 : decode cX5_set 53 = .ok (.getfield 7, 3) := by decide +kernel
theorem dX5_set_56 : decode cX5_set 56 = .ok (.iload_n 3, 1) := by decide +kernel
theorem dX5_set_57 : decode cX5_set 57 = .ok (.invokestatic 43, 3) := by decide +kernel
theorem dX5_set_60 : decode cX5_set 60 = .ok (.ifCond .ne 9, 3) := by decide +kernel
theorem dX5_set_63 : decode cX5_set 63 = .ok (.aload_n 0, 1) := by decide +kernel
theorem dX5_set_64 : decode cX5_set 64 = .ok (.iconst 3, 1) := by decide +kernel
theorem dX5_set_65 : decode cX5_set 65 = .ok (.invokevirtual 36, 3) := by decide +kernel
theorem dX5_set_68 : decode cX5_set 68 = .ok (.ireturn, 1) := by decide +kernel
theorem dX5_set_69 : decode cX5_set 69 = .ok (.iinc 3 1, 3) := by decide +kernel
theorem dX5_set_72 : decode cX5_set 72 = .ok (.goto (-35), 3) := by decide +kernel
theorem dX5_set_75 : decode cX5_set 75 = .ok (.aload_n 0, 1) := by decide +kernel
theorem dX5_set_76 : decode cX5_set 76 = .ok (.invokevirtual 83, 3) := by decide +kernel
theorem dX5_set_79 : decode cX5_set 79 = .ok (.aload_n 0, 1) := by decide +kernel
theorem dX5_set_80 : decode cX5_set 80 = .ok (.getfield 7, 3) := by decide +kernel
theorem dX5_set_83 : decode cX5_set 83 = .ok (.iconst 1, 1) := by decide +kernel
theorem dX5_set_84 : decode cX5_set 84 = .ok (.iload_n 1, 1) := by decide +kernel
theorem dX5_set_85 : decode cX5_set 85 = .ok (.iadd, 1) := by decide +kernel
theorem dX5_set_86 : decode cX5_set 86 = .ok (.iaload, 1) := by decide +kernel
theorem dX5_set_87 : decode cX5_set 87 = .ok (.istore_n 3, 1) := by decide +kernel
theorem dX5_set_88 : decode cX5_set 88 = .ok (.aload_n 0, 1) := by decide +kernel
theorem dX5_set_89 : decode cX5_set 89 = .ok (.getfield 7, 3) := by decide +kernel
theorem dX5_set_92 : decode cX5_set 92 = .ok (.iconst 1, 1) := by decide +kernel
theorem dX5_set_93 : decode cX5_set 93 = .ok (.iload_n 1, 1) := by decide +kernel
theorem dX5_set_94 : decode cX5_set 94 = .ok (.iadd, 1) := by decide +kernel
theorem dX5_set_95 : decode cX5_set 95 = .ok (.iload_n 2, 1) := by decide +kernel
theorem dX5_set_96 : decode cX5_set 96 = .ok (.iastore, 1) := by decide +kernel
theorem dX5_set_97 : decode cX5_set 97 = .ok (.iload_n 3, 1) := by decide +kernel
theorem dX5_set_98 : decode cX5_set 98 = .ok (.ireturn, 1) := by decide +kernel
theorem dX5_append_0 : decode cX5_append 0 = .ok (.aload_n 0, 1) := by decide +kernel
theorem dX5_append_1 : decode cX5_append 1 = .ok (.iconst 0, 1) := by decide +kernel
theorem dX5_append_2 : decode cX5_append 2 = .ok (.putfield 25, 3) := by decide +kernel
theorem dX5_append_5 : decode cX5_append 5 = .ok (.iload_n 1, 1) := by decide +kernel
theorem dX5_append_6 : decode cX5_append 6 = .ok (.bipush 33, 2) := by decide +kernel
theorem dX5_append_8 : decode cX5_append 8 = .ok (.bipush 126, 2) := by decide +kernel
theorem dX5_append_10 : decode cX5_append 10 = .ok (.invokestatic 29, 3) := by decide +kernel
theorem dX5_append_13 : decode cX5_append 13 = .ok (.ifCond .ne 9, 3) := by decide +kernel
theorem dX5_append_16 : decode cX5_append 16 = .ok (.aload_n 0, 1) := by decide +kernel
theorem dX5_append_17 : decode cX5_append 17 = .ok (.iconst 1, 1) := by decide +kernel
theorem dX5_append_18 : decode cX5_append 18 = .ok (.invokevirtual 36, 3) := by decide +kernel
theorem dX5_append_21 : decode cX5_append 21 = .ok (.ireturn, 1) := by decide +kernel
theorem dX5_append_22 : decode cX5_append 22 = .ok (.aload_n 0, 1) := by decide +kernel
theorem dX5_append_23 : decode cX5_append 23 = .ok (.getfield 121, 3) := by decide +kernel
theorem dX5_append_26 : decode cX5_append 26 = .ok (.bipush 60, 2) := by decide +kernel
theorem dX5_append_28 : decode cX5_append 28 = .ok (.if_icmp .ne 9, 3) := by decide +kernel
theorem dX5_append_31 : decode cX5_append 31 = .ok (.aload_n 0, 1) := by decide +kernel
theorem dX5_append_32 : decode cX5_append 32 = .ok (.iconst 2, 1) := by decide +kernel
theorem dX5_append_33 : decode cX5_append 33 = .ok (.invokevirtual 36, 3) := by decide +kernel
theorem dX5_append_36 : decode cX5_append 36 = .ok (.ireturn, 1) := by decide +kernel
theorem dX5_append_37 : decode cX5_append 37 = .ok (.aload_n 0, 1) := by decide +kernel
theorem dX5_append_38 : decode cX5_append 38 = .ok (.getfield 19, 3) := by decide +kernel
theorem dX5_append_41 : decode cX5_append 41 = .ok (.aload_n 0, 1) := by decide +kernel
theorem dX5_append_42 : decode cX5_append 42 = .ok (.getfield 121, 3) := by decide +kernel
theorem dX5_append_45 : decode cX5_append 45 = .ok (.iload_n 1, 1) := by decide +kernel
theorem dX5_append_46 : decode cX5_append 46 = .ok (.iastore, 1) := by decide +kernel
theorem dX5_append_47 : decode cX5_append 47 = .ok (.aload_n 0, 1) := by decide +kernel
theorem dX5_append_48 : decode cX5_append 48 = .ok (.dup, 1) := by decide +kernel
theorem dX5_append_49 : decode cX5_append 49 = .ok (.getfield 121, 3) := by decide +kernel
theorem dX5_append_52 : decode cX5_append 52 = .ok (.iconst 1, 1) := by decide +kernel
theorem dX5_append_53 : decode cX5_append 53 = .ok (.iadd, 1) := by decide +kernel
theorem dX5_append_54 : decode cX5_append 54 = .ok (.putfield 121, 3) := by decide +kernel
theorem dX5_append_57 : decode cX5_append 57 = .ok (.aload_n 0, 1) := by decide +kernel
theorem dX5_append_58 : decode cX5_append 58 = .ok (.getfield 121, 3) := by decide +kernel
theorem dX5_append_61 : decode cX5_append 61 = .ok (.ireturn, 1) := by decide +kernel
theorem dX5_clearBuffer_0 : decode cX5_clearBuffer 0 = .ok (.aload_n 0, 1) := by decide +kernel
theorem dX5_clearBuffer_1 : decode cX5_clearBuffer 1 = .ok (.iconst 0, 1) := by decide +kernel
theorem dX5_clearBuffer_2 : decode cX5_clearBuffer 2 = .ok (.putfield 25, 3) := by decide +kernel
theorem dX5_clearBuffer_5 : decode cX5_clearBuffer 5 = .ok (.aload_n 0, 1) := by decide +kernel
theorem dX5_clearBuffer_6 : decode cX5_clearBuffer 6 = .ok (.getfield 121, 3) := by decide +kernel
theorem dX5_clearBuffer_9 : decode cX5_clearBuffer 9 = .ok (.istore_n 1, 1) := by decide +kernel
theorem dX5_clearBuffer_10 : decode cX5_clearBuffer 10 = .ok (.aload_n 0, 1) := by decide +kernel
theorem dX5_clearBuffer_11 : decode cX5_clearBuffer 11 = .ok (.iconst 0, 1) := by decide +kernel
theorem dX5_clearBuffer_12 : decode cX5_clearBuffer 12 = .ok (.putfield 121, 3) := by decide +kernel
theorem dX5_clearBuffer_15 : decode cX5_clearBuffer 15 = .ok (.iload_n 1, 1) := by decide +kernel
theorem dX5_clearBuffer_16 : decode cX5_clearBuffer 16 = .ok (.ireturn, 1) := by decide +kernel
theorem dX5_isAt_0 : decode cX5_isAt 0 = .ok (.aload_n 0, 1) := by decide +kernel
theorem dX5_isAt_1 : decode cX5_isAt 1 = .ok (.getfield 124, 3) := by decide +kernel
theorem dX5_isAt_4 : decode cX5_isAt 4 = .ok (.aload_n 0, 1) := by decide +kernel
theorem dX5_isAt_5 : decode cX5_isAt 5 = .ok (.getfield 121, 3) := by decide +kernel
theorem dX5_isAt_8 : decode cX5_isAt 8 = .ok (.if_icmp .ge 24, 3) := by decide +kernel
theorem dX5_isAt_11 : decode cX5_isAt 11 = .ok (.aload_n 0, 1) := by decide +kernel
theorem dX5_isAt_12 : decode cX5_isAt 12 = .ok (.getfield 19, 3) := by decide +kernel
theorem dX5_isAt_15 : decode cX5_isAt 15 = .ok (.aload_n 0, 1) := by decide +kernel
theorem dX5_isAt_16 : decode cX5_isAt 16 = .ok (.getfield 124, 3) := by decide +kernel
theorem dX5_isAt_19 : decode cX5_isAt 19 = .ok (.iaload, 1) := by decide +kernel
theorem dX5_isAt_20 : decode cX5_isAt 20 = .ok (.iload_n 1, 1) := by decide +kernel
theorem dX5_isAt_21 : decode cX5_isAt 21 = .ok (.iload_n 2, 1) := by decide +kernel
theorem dX5_isAt_22 : decode cX5_isAt 22 = .ok (.invokestatic 29, 3) := by decide +kernel
theorem dX5_isAt_25 : decode cX5_isAt 25 = .ok (.ifCond .eq 7, 3) := by decide +kernel
theorem dX5_isAt_28 : decode cX5_isAt 28 = .ok (.iconst 1, 1) := by decide +kernel
theorem dX5_isAt_29 : decode cX5_isAt 29 = .ok (.goto 4, 3) := by decide +kernel
theorem dX5_isAt_32 : decode cX5_isAt 32 = .ok (.iconst 0, 1) := by decide +kernel
theorem dX5_isAt_33 : decode cX5_isAt 33 = .ok (.ireturn, 1) := by decide +kernel
theorem dX5_stops_0 : decode cX5_stops 0 = .ok (.aload_n 0, 1) := by decide +kernel
theorem dX5_stops_1 : decode cX5_stops 1 = .ok (.aload_n 0, 1) := by decide +kernel
theorem dX5_stops_2 : decode cX5_stops 2 = .ok (.getfield 124, 3) := by decide +kernel
theorem dX5_stops_5 : decode cX5_stops 5 = .ok (.aload_n 0, 1) := by decide +kernel
theorem dX5_stops_6 : decode cX5_stops 6 = .ok (.getfield 121, 3) := by decide +kernel
theorem dX5_stops_9 : decode cX5_stops 9 = .ok (.if_icmp .ge 7, 3) := by decide +kernel
theorem dX5_stops_12 : decode cX5_stops 12 = .ok (.iconst 1, 1) := by decide +kernel
theorem dX5_stops_13 : decode cX5_stops 13 = .ok (.goto 4, 3) := by decide +kernel
theorem dX5_stops_16 : decode cX5_stops 16 = .ok (.iconst 0, 1) := by decide +kernel
theorem dX5_stops_17 : decode cX5_stops 17 = .ok (.putfield 127, 3) := by decide +kernel
theorem dX5_stops_20 : decode cX5_stops 20 = .ok (.iconst 0, 1) := by decide +kernel
theorem dX5_stops_21 : decode cX5_stops 21 = .ok (.ireturn, 1) := by decide +kernel
theorem dX5_isSign_0 : decode cX5_isSign 0 = .ok (.aload_n 0, 1) := by decide +kernel
theorem dX5_isSign_1 : decode cX5_isSign 1 = .ok (.iload_n 1, 1) := by decide +kernel
theorem dX5_isSign_2 : decode cX5_isSign 2 = .ok (.iload_n 1, 1) := by decide +kernel
theorem dX5_isSign_3 : decode cX5_isSign 3 = .ok (.invokevirtual 131, 3) := by decide +kernel
theorem dX5_isSign_6 : decode cX5_isSign 6 = .ok (.ifCond .ne 8, 3) := by decide +kernel
theorem dX5_isSign_9 : decode cX5_isSign 9 = .ok (.aload_n 0, 1) := by decide +kernel
theorem dX5_isSign_10 : decode cX5_isSign 10 = .ok (.invokevirtual 134, 3) := by decide +kernel
theorem dX5_isSign_13 : decode cX5_isSign 13 = .ok (.ireturn, 1) := by decide +kernel
theorem dX5_isSign_14 : decode cX5_isSign 14 = .ok (.aload_n 0, 1) := by decide +kernel
theorem dX5_isSign_15 : decode cX5_isSign 15 = .ok (.dup, 1) := by decide +kernel
theorem dX5_isSign_16 : decode cX5_isSign 16 = .ok (.getfield 124, 3) := by decide +kernel
theorem dX5_isSign_19 : decode cX5_isSign 19 = .ok (.iconst 1, 1) := by decide +kernel
theorem dX5_isSign_20 : decode cX5_isSign 20 = .ok (.iadd, 1) := by decide +kernel
theorem dX5_isSign_21 : decode cX5_isSign 21 = .ok (.putfield 124, 3) := by decide +kernel
theorem dX5_isSign_24 : decode cX5_isSign 24 = .ok (.iconst 1, 1) := by decide +kernel
theorem dX5_isSign_25 : decode cX5_isSign 25 = .ok (.ireturn, 1) := by decide +kernel
theorem dX5_begins_0 : decode cX5_begins 0 = .ok (.iload_n 0, 1) := by decide +kernel
theorem dX5_begins_1 : decode cX5_begins 1 = .ok (.iload_n 1, 1) := by decide +kernel
theorem dX5_begins_2 : decode cX5_begins 2 = .ok (.iload_n 2, 1) := by decide +kernel
theorem dX5_begins_3 : decode cX5_begins 3 = .ok (.invokestatic 29, 3) := by decide +kernel
theorem dX5_begins_6 : decode cX5_begins 6 = .ok (.ifCond .ne 26, 3) := by decide +kernel
theorem dX5_begins_9 : decode cX5_begins 9 = .ok (.iload_n 0, 1) := by decide +kernel
theorem dX5_begins_10 : decode cX5_begins 10 = .ok (.ifCond .le 26, 3) := by decide +kernel
theorem dX5_begins_13 : decode cX5_begins 13 = .ok (.bipush 10, 2) := by decide +kernel
theorem dX5_begins_15 : decode cX5_begins 15 = .ok (.iload_n 0, 1) := by decide +kernel
theorem dX5_begins_16 : decode cX5_begins 16 = .ok (.imul, 1) := by decide +kernel
theorem dX5_begins_17 : decode cX5_begins 17 = .ok (.bipush 9, 2) := by decide +kernel
theorem dX5_begins_19 : decode cX5_begins 19 = .ok (.iadd, 1) := by decide +kernel
theorem dX5_begins_20 : decode cX5_begins 20 = .ok (.iload_n 1, 1) := by decide +kernel
theorem dX5_begins_21 : decode cX5_begins 21 = .ok (.if_icmp .lt 15, 3) := by decide +kernel
theorem dX5_begins_24 : decode cX5_begins 24 = .ok (.bipush 10, 2) := by decide +kernel
theorem dX5_begins_26 : decode cX5_begins 26 = .ok (.iload_n 0, 1) := by decide +kernel
theorem dX5_begins_27 : decode cX5_begins 27 = .ok (.imul, 1) := by decide +kernel
theorem dX5_begins_28 : decode cX5_begins 28 = .ok (.iload_n 2, 1) := by decide +kernel
theorem dX5_begins_29 : decode cX5_begins 29 = .ok (.if_icmp .gt 7, 3) := by decide +kernel
theorem dX5_begins_32 : decode cX5_begins 32 = .ok (.iconst 1, 1) := by decide +kernel
theorem dX5_begins_33 : decode cX5_begins 33 = .ok (.goto 4, 3) := by decide +kernel
theorem dX5_begins_36 : decode cX5_begins 36 = .ok (.iconst 0, 1) := by decide +kernel
theorem dX5_begins_37 : decode cX5_begins 37 = .ok (.ireturn, 1) := by decide +kernel
theorem dX5_isWhole_0 : decode cX5_isWhole 0 = .ok (.aload_n 0, 1) := by decide +kernel
theorem dX5_isWhole_1 : decode cX5_isWhole 1 = .ok (.bipush 48, 2) := by decide +kernel
theorem dX5_isWhole_3 : decode cX5_isWhole 3 = .ok (.bipush 57, 2) := by decide +kernel
theorem dX5_isWhole_5 : decode cX5_isWhole 5 = .ok (.invokevirtual 131, 3) := by decide +kernel
theorem dX5_isWhole_8 : decode cX5_isWhole 8 = .ok (.ifCond .eq 23, 3) := by decide +kernel
theorem dX5_isWhole_11 : decode cX5_isWhole 11 = .ok (.aload_n 0, 1) := by decide +kernel
theorem dX5_isWhole_12 : decode cX5_isWhole 12 = .ok (.getfield 19, 3) := by decide +kernel
theorem dX5_isWhole_15 : decode cX5_isWhole 15 = .ok (.aload_n 0, 1) := by decide +kernel
theorem dX5_isWhole_16 : decode cX5_isWhole 16 = .ok (.getfield 124, 3) := by decide +kernel
theorem dX5_isWhole_19 : decode cX5_isWhole 19 = .ok (.iaload, 1) := by decide +kernel
theorem dX5_isWhole_20 : decode cX5_isWhole 20 = .ok (.bipush 48, 2) := by decide +kernel
theorem dX5_isWhole_22 : decode cX5_isWhole 22 = .ok (.isub, 1) := by decide +kernel
theorem dX5_isWhole_23 : decode cX5_isWhole 23 = .ok (.iload_n 1, 1) := by decide +kernel
theorem dX5_isWhole_24 : decode cX5_isWhole 24 = .ok (.iload_n 2, 1) := by decide +kernel
theorem dX5_isWhole_25 : decode cX5_isWhole 25 = .ok (.invokestatic 138, 3) := by decide +kernel
theorem dX5_isWhole_28 : decode cX5_isWhole 28 = .ok (.ifCond .ne 8, 3) := by decide +kernel
theorem dX5_isWhole_31 : decode cX5_isWhole 31 = .ok (.aload_n 0, 1) := by decide +kernel
theorem dX5_isWhole_32 : decode cX5_isWhole 32 = .ok (.invokevirtual 134, 3) := by decide +kernel
theorem dX5_isWhole_35 : decode cX5_isWhole 35 = .ok (.ireturn, 1) := by decide +kernel
theorem dX5_isWhole_36 : decode cX5_isWhole 36 = .ok (.aload_n 0, 1) := by decide +kernel
theorem dX5_isWhole_37 : decode cX5_isWhole 37 = .ok (.aload_n 0, 1) := by decide +kernel
theorem dX5_isWhole_38 : decode cX5_isWhole 38 = .ok (.getfield 19, 3) := by decide +kernel
theorem dX5_isWhole_41 : decode cX5_isWhole 41 = .ok (.aload_n 0, 1) := by decide +kernel
theorem dX5_isWhole_42 : decode cX5_isWhole 42 = .ok (.getfield 124, 3) := by decide +kernel
theorem dX5_isWhole_45 : decode cX5_isWhole 45 = .ok (.iaload, 1) := by decide +kernel
theorem dX5_isWhole_46 : decode cX5_isWhole 46 = .ok (.bipush 48, 2) := by decide +kernel
theorem dX5_isWhole_48 : decode cX5_isWhole 48 = .ok (.isub, 1) := by decide +kernel
theorem dX5_isWhole_49 : decode cX5_isWhole 49 = .ok (.putfield 141, 3) := by decide +kernel
theorem dX5_isWhole_52 : decode cX5_isWhole 52 = .ok (.aload_n 0, 1) := by decide +kernel
theorem dX5_isWhole_53 : decode cX5_isWhole 53 = .ok (.dup, 1) := by decide +kernel
theorem dX5_isWhole_54 : decode cX5_isWhole 54 = .ok (.getfield 124, 3) := by decide +kernel
theorem dX5_isWhole_57 : decode cX5_isWhole 57 = .ok (.iconst 1, 1) := by decide +kernel
theorem dX5_isWhole_58 : decode cX5_isWhole 58 = .ok (.iadd, 1) := by decide +kernel
theorem dX5_isWhole_59 : decode cX5_isWhole 59 = .ok (.putfield 124, 3) := by decide +kernel
theorem dX5_isWhole_62 : decode cX5_isWhole 62 = .ok (.aload_n 0, 1) := by decide +kernel
theorem dX5_isWhole_63 : decode cX5_isWhole 63 = .ok (.getfield 141, 3) := by decide +kernel
theorem dX5_isWhole_66 : decode cX5_isWhole 66 = .ok (.ifCond .le 78, 3) := by decide +kernel
theorem dX5_isWhole_69 : decode cX5_isWhole 69 = .ok (.aload_n 0, 1) := by decide +kernel
theorem dX5_isWhole_70 : decode cX5_isWhole 70 = .ok (.bipush 48, 2) := by decide +kernel
theorem dX5_isWhole_72 : decode cX5_isWhole 72 = .ok (.bipush 57, 2) := by decide +kernel
theorem dX5_isWhole_74 : decode cX5_isWhole 74 = .ok (.invokevirtual 131, 3) := by decide +kernel
theorem dX5_isWhole_77 : decode cX5_isWhole 77 = .ok (.ifCond .eq 67, 3) := by decide +kernel
theorem dX5_isWhole_80 : decode cX5_isWhole 80 = .ok (.bipush 10, 2) := by decide +kernel
theorem dX5_isWhole_82 : decode cX5_isWhole 82 = .ok (.aload_n 0, 1) := by decide +kernel
theorem dX5_isWhole_83 : decode cX5_isWhole 83 = .ok (.getfield 141, 3) := by decide +kernel
theorem dX5_isWhole_86 : decode cX5_isWhole 86 = .ok (.imul, 1) := by decide +kernel
theorem dX5_isWhole_87 : decode cX5_isWhole 87 = .ok (.aload_n 0, 1) := by decide +kernel
theorem dX5_isWhole_88 : decode cX5_isWhole 88 = .ok (.getfield 19, 3) := by decide +kernel
theorem dX5_isWhole_91 : decode cX5_isWhole 91 = .ok (.aload_n 0, 1) := by decide +kernel
theorem dX5_isWhole_92 : decode cX5_isWhole 92 = .ok (.getfield 124, 3) := by decide +kernel
theorem dX5_isWhole_95 : decode cX5_isWhole 95 = .ok (.iaload, 1) := by decide +kernel
theorem dX5_isWhole_96 : decode cX5_isWhole 96 = .ok (.iadd, 1) := by decide +kernel
theorem dX5_isWhole_97 : decode cX5_isWhole 97 = .ok (.bipush 48, 2) := by decide +kernel
theorem dX5_isWhole_99 : decode cX5_isWhole 99 = .ok (.isub, 1) := by decide +kernel
theorem dX5_isWhole_100 : decode cX5_isWhole 100 = .ok (.iload_n 1, 1) := by decide +kernel
theorem dX5_isWhole_101 : decode cX5_isWhole 101 = .ok (.iload_n 2, 1) := by decide +kernel
theorem dX5_isWhole_102 : decode cX5_isWhole 102 = .ok (.invokestatic 29, 3) := by decide +kernel
theorem dX5_isWhole_105 : decode cX5_isWhole 105 = .ok (.ifCond .eq 39, 3) := by decide +kernel
theorem dX5_isWhole_108 : decode cX5_isWhole 108 = .ok (.aload_n 0, 1) := by decide +kernel
theorem dX5_isWhole_109 : decode cX5_isWhole 109 = .ok (.bipush 10, 2) := by decide +kernel
theorem dX5_isWhole_111 : decode cX5_isWhole 111 = .ok (.aload_n 0, 1) := by decide +kernel
theorem dX5_isWhole_112 : decode cX5_isWhole 112 = .ok (.getfield 141, 3) := by decide +kernel
theorem dX5_isWhole_115 : decode cX5_isWhole 115 = .ok (.imul, 1) := by decide +kernel
theorem dX5_isWhole_116 : decode cX5_isWhole 116 = .ok (.aload_n 0, 1) := by decide +kernel
theorem dX5_isWhole_117 : decode cX5_isWhole 117 = .ok (.getfield 19, 3) := by decide +kernel
theorem dX5_isWhole_120 : decode cX5_isWhole 120 = .ok (.aload_n 0, 1) := by decide +kernel
theorem dX5_isWhole_121 : decode cX5_isWhole 121 = .ok (.getfield 124, 3) := by decide +kernel
theorem dX5_isWhole_124 : decode cX5_isWhole 124 = .ok (.iaload, 1) := by decide +kernel
theorem dX5_isWhole_125 : decode cX5_isWhole 125 = .ok (.iadd, 1) := by decide +kernel
theorem dX5_isWhole_126 : decode cX5_isWhole 126 = .ok (.bipush 48, 2) := by decide +kernel
theorem dX5_isWhole_128 : decode cX5_isWhole 128 = .ok (.isub, 1) := by decide +kernel
theorem dX5_isWhole_129 : decode cX5_isWhole 129 = .ok (.putfield 141, 3) := by decide +kernel
theorem dX5_isWhole_132 : decode cX5_isWhole 132 = .ok (.aload_n 0, 1) := by decide +kernel
theorem dX5_isWhole_133 : decode cX5_isWhole 133 = .ok (.dup, 1) := by decide +kernel
theorem dX5_isWhole_134 : decode cX5_isWhole 134 = .ok (.getfield 124, 3) := by decide +kernel
theorem dX5_isWhole_137 : decode cX5_isWhole 137 = .ok (.iconst 1, 1) := by decide +kernel
theorem dX5_isWhole_138 : decode cX5_isWhole 138 = .ok (.iadd, 1) := by decide +kernel
theorem dX5_isWhole_139 : decode cX5_isWhole 139 = .ok (.putfield 124, 3) := by decide +kernel
theorem dX5_isWhole_142 : decode cX5_isWhole 142 = .ok (.iconst 1, 1) := by decide +kernel
theorem dX5_isWhole_143 : decode cX5_isWhole 143 = .ok (.ireturn, 1) := by decide +kernel
theorem dX5_isWhole_144 : decode cX5_isWhole 144 = .ok (.aload_n 0, 1) := by decide +kernel
theorem dX5_isWhole_145 : decode cX5_isWhole 145 = .ok (.getfield 141, 3) := by decide +kernel
theorem dX5_isWhole_148 : decode cX5_isWhole 148 = .ok (.iload_n 1, 1) := by decide +kernel
theorem dX5_isWhole_149 : decode cX5_isWhole 149 = .ok (.iload_n 2, 1) := by decide +kernel
theorem dX5_isWhole_150 : decode cX5_isWhole 150 = .ok (.invokestatic 29, 3) := by decide +kernel
theorem dX5_isWhole_153 : decode cX5_isWhole 153 = .ok (.ifCond .ne 10, 3) := by decide +kernel
theorem dX5_isWhole_156 : decode cX5_isWhole 156 = .ok (.aload_n 0, 1) := by decide +kernel
theorem dX5_isWhole_157 : decode cX5_isWhole 157 = .ok (.invokevirtual 134, 3) := by decide +kernel
theorem dX5_isWhole_160 : decode cX5_isWhole 160 = .ok (.ifCond .eq 7, 3) := by decide +kernel
theorem dX5_isWhole_163 : decode cX5_isWhole 163 = .ok (.iconst 1, 1) := by decide +kernel
theorem dX5_isWhole_164 : decode cX5_isWhole 164 = .ok (.goto 4, 3) := by decide +kernel
theorem dX5_isWhole_167 : decode cX5_isWhole 167 = .ok (.iconst 0, 1) := by decide +kernel
theorem dX5_isWhole_168 : decode cX5_isWhole 168 = .ok (.ireturn, 1) := by decide +kernel
theorem dX5_isTold_0 : decode cX5_isTold 0 = .ok (.aload_n 0, 1) := by decide +kernel
theorem dX5_isTold_1 : decode cX5_isTold 1 = .ok (.iload_n 2, 1) := by decide +kernel
theorem dX5_isTold_2 : decode cX5_isTold 2 = .ok (.iload_n 3, 1) := by decide +kernel
theorem dX5_isTold_3 : decode cX5_isTold 3 = .ok (.invokevirtual 144, 3) := by decide +kernel
theorem dX5_isTold_6 : decode cX5_isTold 6 = .ok (.istore 4, 2) := by decide +kernel
theorem dX5_isTold_8 : decode cX5_isTold 8 = .ok (.aload_n 0, 1) := by decide +kernel
theorem dX5_isTold_9 : decode cX5_isTold 9 = .ok (.getfield 22, 3) := by decide +kernel
theorem dX5_isTold_12 : decode cX5_isTold 12 = .ok (.iconst 4, 1) := by decide +kernel
theorem dX5_isTold_13 : decode cX5_isTold 13 = .ok (.aload_n 0, 1) := by decide +kernel
theorem dX5_isTold_14 : decode cX5_isTold 14 = .ok (.getfield 147, 3) := by decide +kernel
theorem dX5_isTold_17 : decode cX5_isTold 17 = .ok (.imul, 1) := by decide +kernel
theorem dX5_isTold_18 : decode cX5_isTold 18 = .ok (.iload_n 1, 1) := by decide +kernel
theorem dX5_isTold_19 : decode cX5_isTold 19 = .ok (.iadd, 1) := by decide +kernel
theorem dX5_isTold_20 : decode cX5_isTold 20 = .ok (.aload_n 0, 1) := by decide +kernel
theorem dX5_isTold_21 : decode cX5_isTold 21 = .ok (.getfield 141, 3) := by decide +kernel
theorem dX5_isTold_24 : decode cX5_isTold 24 = .ok (.iastore, 1) := by decide +kernel
theorem dX5_isTold_25 : decode cX5_isTold 25 = .ok (.iload 4, 2) := by decide +kernel
theorem dX5_isTold_27 : decode cX5_isTold 27 = .ok (.ireturn, 1) := by decide +kernel
theorem dX5_isOrder_0 : decode cX5_isOrder 0 = .ok (.aload_n 0, 1) := by decide +kernel
theorem dX5_isOrder_1 : decode cX5_isOrder 1 = .ok (.bipush 116, 2) := by decide +kernel
theorem dX5_isOrder_3 : decode cX5_isOrder 3 = .ok (.bipush 116, 2) := by decide +kernel
theorem dX5_isOrder_5 : decode cX5_isOrder 5 = .ok (.invokevirtual 131, 3) := by decide +kernel
theorem dX5_isOrder_8 : decode cX5_isOrder 8 = .ok (.ifCond .ne 41, 3) := by decide +kernel
theorem dX5_isOrder_11 : decode cX5_isOrder 11 = .ok (.aload_n 0, 1) := by decide +kernel
theorem dX5_isOrder_12 : decode cX5_isOrder 12 = .ok (.bipush 119, 2) := by decide +kernel
theorem dX5_isOrder_14 : decode cX5_isOrder 14 = .ok (.bipush 119, 2) := by decide +kernel
theorem dX5_isOrder_16 : decode cX5_isOrder 16 = .ok (.invokevirtual 131, 3) := by decide +kernel
theorem dX5_isOrder_19 : decode cX5_isOrder 19 = .ok (.ifCond .ne 30, 3) := by decide +kernel
theorem dX5_isOrder_22 : decode cX5_isOrder 22 = .ok (.aload_n 0, 1) := by decide +kernel
theorem dX5_isOrder_23 : decode cX5_isOrder 23 = .ok (.bipush 103, 2) := by decide +kernel
theorem dX5_isOrder_25 : decode cX5_isOrder 25 = .ok (.bipush 103, 2) := by decide +kernel
theorem dX5_isOrder_27 : decode cX5_isOrder 27 = .ok (.invokevirtual 131, 3) := by decide +kernel
theorem dX5_isOrder_30 : decode cX5_isOrder 30 = .ok (.ifCond .ne 19, 3) := by decide +kernel
theorem dX5_isOrder_33 : decode cX5_isOrder 33 = .ok (.aload_n 0, 1) := by decide +kernel
theorem dX5_isOrder_34 : decode cX5_isOrder 34 = .ok (.bipush 100, 2) := by decide +kernel
theorem dX5_isOrder_36 : decode cX5_isOrder 36 = .ok (.bipush 100, 2) := by decide +kernel
theorem dX5_isOrder_38 : decode cX5_isOrder 38 = .ok (.invokevirtual 131, 3) := by decide +kernel
theorem dX5_isOrder_41 : decode cX5_isOrder 41 = .ok (.ifCond .ne 8, 3) := by decide +kernel
theorem dX5_isOrder_44 : decode cX5_isOrder 44 = .ok (.aload_n 0, 1) := by decide +kernel
theorem dX5_isOrder_45 : decode cX5_isOrder 45 = .ok (.invokevirtual 134, 3) := by decide +kernel
theorem dX5_isOrder_48 : decode cX5_isOrder 48 = .ok (.ireturn, 1) := by decide +kernel
theorem dX5_isOrder_49 : decode cX5_isOrder 49 = .ok (.aload_n 0, 1) := by decide +kernel
theorem dX5_isOrder_50 : decode cX5_isOrder 50 = .ok (.getfield 19, 3) := by decide +kernel
theorem dX5_isOrder_53 : decode cX5_isOrder 53 = .ok (.aload_n 0, 1) := by decide +kernel
theorem dX5_isOrder_54 : decode cX5_isOrder 54 = .ok (.getfield 124, 3) := by decide +kernel
theorem dX5_isOrder_57 : decode cX5_isOrder 57 = .ok (.iaload, 1) := by decide +kernel
theorem dX5_isOrder_58 : decode cX5_isOrder 58 = .ok (.istore_n 1, 1) := by decide +kernel
theorem dX5_isOrder_59 : decode cX5_isOrder 59 = .ok (.aload_n 0, 1) := by decide +kernel
theorem dX5_isOrder_60 : decode cX5_isOrder 60 = .ok (.getfield 22, 3) := by decide +kernel
theorem dX5_isOrder_63 : decode cX5_isOrder 63 = .ok (.iconst 4, 1) := by decide +kernel
theorem dX5_isOrder_64 : decode cX5_isOrder 64 = .ok (.aload_n 0, 1) := by decide +kernel
theorem dX5_isOrder_65 : decode cX5_isOrder 65 = .ok (.getfield 147, 3) := by decide +kernel
theorem dX5_isOrder_68 : decode cX5_isOrder 68 = .ok (.imul, 1) := by decide +kernel
theorem dX5_isOrder_69 : decode cX5_isOrder 69 = .ok (.iload_n 1, 1) := by decide +kernel
theorem dX5_isOrder_70 : decode cX5_isOrder 70 = .ok (.iastore, 1) := by decide +kernel
theorem dX5_isOrder_71 : decode cX5_isOrder 71 = .ok (.aload_n 0, 1) := by decide +kernel
theorem dX5_isOrder_72 : decode cX5_isOrder 72 = .ok (.dup, 1) := by decide +kernel
theorem dX5_isOrder_73 : decode cX5_isOrder 73 = .ok (.getfield 124, 3) := by decide +kernel
theorem dX5_isOrder_76 : decode cX5_isOrder 76 = .ok (.iconst 1, 1) := by decide +kernel
theorem dX5_isOrder_77 : decode cX5_isOrder 77 = .ok (.iadd, 1) := by decide +kernel
theorem dX5_isOrder_78 : decode cX5_isOrder 78 = .ok (.putfield 124, 3) := by decide +kernel
theorem dX5_isOrder_81 : decode cX5_isOrder 81 = .ok (.iload_n 1, 1) := by decide +kernel
theorem dX5_isOrder_82 : decode cX5_isOrder 82 = .ok (.bipush 100, 2) := by decide +kernel
theorem dX5_isOrder_84 : decode cX5_isOrder 84 = .ok (.if_icmp .ne 12, 3) := by decide +kernel
theorem dX5_isOrder_87 : decode cX5_isOrder 87 = .ok (.aload_n 0, 1) := by decide +kernel
theorem dX5_isOrder_88 : decode cX5_isOrder 88 = .ok (.iconst 1, 1) := by decide +kernel
theorem dX5_isOrder_89 : decode cX5_isOrder 89 = .ok (.iconst 1, 1) := by decide +kernel
theorem dX5_isOrder_90 : decode cX5_isOrder 90 = .ok (.bipush 99, 2) := by decide +kernel
theorem dX5_isOrder_92 : decode cX5_isOrder 92 = .ok (.invokevirtual 150, 3) := by decide +kernel
theorem dX5_isOrder_95 : decode cX5_isOrder 95 = .ok (.ireturn, 1) := by decide +kernel
theorem dX5_isOrder_96 : decode cX5_isOrder 96 = .ok (.aload_n 0, 1) := by decide +kernel
theorem dX5_isOrder_97 : decode cX5_isOrder 97 = .ok (.iconst 1, 1) := by decide +kernel
theorem dX5_isOrder_98 : decode cX5_isOrder 98 = .ok (.iconst 0, 1) := by decide +kernel
theorem dX5_isOrder_99 : decode cX5_isOrder 99 = .ok (.bipush 7, 2) := by decide +kernel
theorem dX5_isOrder_101 : decode cX5_isOrder 101 = .ok (.invokevirtual 150, 3) := by decide +kernel
theorem dX5_isOrder_104 : decode cX5_isOrder 104 = .ok (.ifCond .ne 5, 3) := by decide +kernel
theorem dX5_isOrder_107 : decode cX5_isOrder 107 = .ok (.iconst 0, 1) := by decide +kernel
theorem dX5_isOrder_108 : decode cX5_isOrder 108 = .ok (.ireturn, 1) := by decide +kernel
theorem dX5_isOrder_109 : decode cX5_isOrder 109 = .ok (.iload_n 1, 1) := by decide +kernel
theorem dX5_isOrder_110 : decode cX5_isOrder 110 = .ok (.bipush 116, 2) := by decide +kernel
theorem dX5_isOrder_112 : decode cX5_isOrder 112 = .ok (.if_icmp .ne 29, 3) := by decide +kernel
theorem dX5_isOrder_115 : decode cX5_isOrder 115 = .ok (.aload_n 0, 1) := by decide +kernel
theorem dX5_isOrder_116 : decode cX5_isOrder 116 = .ok (.bipush 42, 2) := by decide +kernel
theorem dX5_isOrder_118 : decode cX5_isOrder 118 = .ok (.invokevirtual 153, 3) := by decide +kernel
theorem dX5_isOrder_121 : decode cX5_isOrder 121 = .ok (.ifCond .eq 18, 3) := by decide +kernel
theorem dX5_isOrder_124 : decode cX5_isOrder 124 = .ok (.aload_n 0, 1) := by decide +kernel
theorem dX5_isOrder_125 : decode cX5_isOrder 125 = .ok (.iconst 2, 1) := by decide +kernel
theorem dX5_isOrder_126 : decode cX5_isOrder 126 = .ok (.iconst 1, 1) := by decide +kernel
theorem dX5_isOrder_127 : decode cX5_isOrder 127 = .ok (.bipush 99, 2) := by decide +kernel
theorem dX5_isOrder_129 : decode cX5_isOrder 129 = .ok (.invokevirtual 150, 3) := by decide +kernel
theorem dX5_isOrder_132 : decode cX5_isOrder 132 = .ok (.ifCond .eq 7, 3) := by decide +kernel
theorem dX5_isOrder_135 : decode cX5_isOrder 135 = .ok (.iconst 1, 1) := by decide +kernel
theorem dX5_isOrder_136 : decode cX5_isOrder 136 = .ok (.goto 4, 3) := by decide +kernel
theorem dX5_isOrder_139 : decode cX5_isOrder 139 = .ok (.iconst 0, 1) := by decide +kernel
theorem dX5_isOrder_140 : decode cX5_isOrder 140 = .ok (.ireturn, 1) := by decide +kernel
theorem dX5_isOrder_141 : decode cX5_isOrder 141 = .ok (.iload_n 1, 1) := by decide +kernel
theorem dX5_isOrder_142 : decode cX5_isOrder 142 = .ok (.bipush 119, 2) := by decide +kernel
theorem dX5_isOrder_144 : decode cX5_isOrder 144 = .ok (.if_icmp .ne 49, 3) := by decide +kernel
theorem dX5_isOrder_147 : decode cX5_isOrder 147 = .ok (.aload_n 0, 1) := by decide +kernel
theorem dX5_isOrder_148 : decode cX5_isOrder 148 = .ok (.bipush 64, 2) := by decide +kernel
theorem dX5_isOrder_150 : decode cX5_isOrder 150 = .ok (.invokevirtual 153, 3) := by decide +kernel
theorem dX5_isOrder_153 : decode cX5_isOrder 153 = .ok (.ifCond .eq 38, 3) := by decide +kernel
theorem dX5_isOrder_156 : decode cX5_isOrder 156 = .ok (.aload_n 0, 1) := by decide +kernel
theorem dX5_isOrder_157 : decode cX5_isOrder 157 = .ok (.iconst 2, 1) := by decide +kernel
theorem dX5_isOrder_158 : decode cX5_isOrder 158 = .ok (.iconst 0, 1) := by decide +kernel
theorem dX5_isOrder_159 : decode cX5_isOrder 159 = .ok (.bipush 63, 2) := by decide +kernel
theorem dX5_isOrder_161 : decode cX5_isOrder 161 = .ok (.invokevirtual 150, 3) := by decide +kernel
theorem dX5_isOrder_164 : decode cX5_isOrder 164 = .ok (.ifCond .eq 27, 3) := by decide +kernel
theorem dX5_isOrder_167 : decode cX5_isOrder 167 = .ok (.aload_n 0, 1) := by decide +kernel
theorem dX5_isOrder_168 : decode cX5_isOrder 168 = .ok (.bipush 42, 2) := by decide +kernel
theorem dX5_isOrder_170 : decode cX5_isOrder 170 = .ok (.invokevirtual 153, 3) := by decide +kernel
theorem dX5_isOrder_173 : decode cX5_isOrder 173 = .ok (.ifCond .eq 18, 3) := by decide +kernel
theorem dX5_isOrder_176 : decode cX5_isOrder 176 = .ok (.aload_n 0, 1) := by decide +kernel
theorem dX5_isOrder_177 : decode cX5_isOrder 177 = .ok (.iconst 3, 1) := by decide +kernel
theorem dX5_isOrder_178 : decode cX5_isOrder 178 = .ok (.iconst 1, 1) := by decide +kernel
theorem dX5_isOrder_179 : decode cX5_isOrder 179 = .ok (.bipush 99, 2) := by decide +kernel
theorem dX5_isOrder_181 : decode cX5_isOrder 181 = .ok (.invokevirtual 150, 3) := by decide +kernel
theorem dX5_isOrder_184 : decode cX5_isOrder 184 = .ok (.ifCond .eq 7, 3) := by decide +kernel
theorem dX5_isOrder_187 : decode cX5_isOrder 187 = .ok (.iconst 1, 1) := by decide +kernel
theorem dX5_isOrder_188 : decode cX5_isOrder 188 = .ok (.goto 4, 3) := by decide +kernel
theorem dX5_isOrder_191 : decode cX5_isOrder 191 = .ok (.iconst 0, 1) := by decide +kernel
theorem dX5_isOrder_192 : decode cX5_isOrder 192 = .ok (.ireturn, 1) := by decide +kernel
theorem dX5_isOrder_193 : decode cX5_isOrder 193 = .ok (.aload_n 0, 1) := by decide +kernel
theorem dX5_isOrder_194 : decode cX5_isOrder 194 = .ok (.bipush 58, 2) := by decide +kernel
theorem dX5_isOrder_196 : decode cX5_isOrder 196 = .ok (.invokevirtual 153, 3) := by decide +kernel
theorem dX5_isOrder_199 : decode cX5_isOrder 199 = .ok (.ifCond .eq 50, 3) := by decide +kernel
theorem dX5_isOrder_202 : decode cX5_isOrder 202 = .ok (.aload_n 0, 1) := by decide +kernel
theorem dX5_isOrder_203 : decode cX5_isOrder 203 = .ok (.iconst 2, 1) := by decide +kernel
theorem dX5_isOrder_204 : decode cX5_isOrder 204 = .ok (.iconst 0, 1) := by decide +kernel
theorem dX5_isOrder_205 : decode cX5_isOrder 205 = .ok (.bipush 63, 2) := by decide +kernel
theorem dX5_isOrder_207 : decode cX5_isOrder 207 = .ok (.invokevirtual 150, 3) := by decide +kernel
theorem dX5_isOrder_210 : decode cX5_isOrder 210 = .ok (.ifCond .eq 39, 3) := by decide +kernel
theorem dX5_isOrder_213 : decode cX5_isOrder 213 = .ok (.aload_n 0, 1) := by decide +kernel
theorem dX5_isOrder_214 : decode cX5_isOrder 214 = .ok (.bipush 45, 2) := by decide +kernel
theorem dX5_isOrder_216 : decode cX5_isOrder 216 = .ok (.invokevirtual 153, 3) := by decide +kernel
theorem dX5_isOrder_219 : decode cX5_isOrder 219 = .ok (.ifCond .eq 30, 3) := by decide +kernel
theorem dX5_isOrder_222 : decode cX5_isOrder 222 = .ok (.aload_n 0, 1) := by decide +kernel
theorem dX5_isOrder_223 : decode cX5_isOrder 223 = .ok (.iconst 3, 1) := by decide +kernel
theorem dX5_isOrder_224 : decode cX5_isOrder 224 = .ok (.aload_n 0, 1) := by decide +kernel
theorem dX5_isOrder_225 : decode cX5_isOrder 225 = .ok (.getfield 22, 3) := by decide +kernel
theorem dX5_isOrder_228 : decode cX5_isOrder 228 = .ok (.iconst 4, 1) := by decide +kernel
theorem dX5_isOrder_229 : decode cX5_isOrder 229 = .ok (.aload_n 0, 1) := by decide +kernel
theorem dX5_isOrder_230 : decode cX5_isOrder 230 = .ok (.getfield 147, 3) := by decide +kernel
theorem dX5_isOrder_233 : decode cX5_isOrder 233 = .ok (.imul, 1) := by decide +kernel
theorem dX5_isOrder_234 : decode cX5_isOrder 234 = .ok (.iconst 2, 1) := by decide +kernel
theorem dX5_isOrder_235 : decode cX5_isOrder 235 = .ok (.iadd, 1) := by decide +kernel
theorem dX5_isOrder_236 : decode cX5_isOrder 236 = .ok (.iaload, 1) := by decide +kernel
theorem dX5_isOrder_237 : decode cX5_isOrder 237 = .ok (.bipush 63, 2) := by decide +kernel
theorem dX5_isOrder_239 : decode cX5_isOrder 239 = .ok (.invokevirtual 150, 3) := by decide +kernel
theorem dX5_isOrder_242 : decode cX5_isOrder 242 = .ok (.ifCond .eq 7, 3) := by decide +kernel
theorem dX5_isOrder_245 : decode cX5_isOrder 245 = .ok (.iconst 1, 1) := by decide +kernel
theorem dX5_isOrder_246 : decode cX5_isOrder 246 = .ok (.goto 4, 3) := by decide +kernel
theorem dX5_isOrder_249 : decode cX5_isOrder 249 = .ok (.iconst 0, 1) := by decide +kernel
theorem dX5_isOrder_250 : decode cX5_isOrder 250 = .ok (.ireturn, 1) := by decide +kernel
theorem dX5_isText_0 : decode cX5_isText 0 = .ok (.aload_n 0, 1) := by decide +kernel
theorem dX5_isText_1 : decode cX5_isText 1 = .ok (.iconst 0, 1) := by decide +kernel
theorem dX5_isText_2 : decode cX5_isText 2 = .ok (.putfield 124, 3) := by decide +kernel
theorem dX5_isText_5 : decode cX5_isText 5 = .ok (.aload_n 0, 1) := by decide +kernel
theorem dX5_isText_6 : decode cX5_isText 6 = .ok (.iconst 0, 1) := by decide +kernel
theorem dX5_isText_7 : decode cX5_isText 7 = .ok (.putfield 147, 3) := by decide +kernel
theorem dX5_isText_10 : decode cX5_isText 10 = .ok (.aload_n 0, 1) := by decide +kernel
theorem dX5_isText_11 : decode cX5_isText 11 = .ok (.iconst 0, 1) := by decide +kernel
theorem dX5_isText_12 : decode cX5_isText 12 = .ok (.putfield 127, 3) := by decide +kernel
theorem dX5_isText_15 : decode cX5_isText 15 = .ok (.iconst 1, 1) := by decide +kernel
theorem dX5_isText_16 : decode cX5_isText 16 = .ok (.istore_n 1, 1) := by decide +kernel
theorem dX5_isText_17 : decode cX5_isText 17 = .ok (.iload_n 1, 1) := by decide +kernel
theorem dX5_isText_18 : decode cX5_isText 18 = .ok (.ifCond .eq 52, 3) := by decide +kernel
theorem dX5_isText_21 : decode cX5_isText 21 = .ok (.aload_n 0, 1) := by decide +kernel
theorem dX5_isText_22 : decode cX5_isText 22 = .ok (.invokevirtual 156, 3) := by decide +kernel
theorem dX5_isText_25 : decode cX5_isText 25 = .ok (.ifCond .ne 5, 3) := by decide +kernel
theorem dX5_isText_28 : decode cX5_isText 28 = .ok (.iconst 0, 1) := by decide +kernel
theorem dX5_isText_29 : decode cX5_isText 29 = .ok (.ireturn, 1) := by decide +kernel
theorem dX5_isText_30 : decode cX5_isText 30 = .ok (.aload_n 0, 1) := by decide +kernel
theorem dX5_isText_31 : decode cX5_isText 31 = .ok (.dup, 1) := by decide +kernel
theorem dX5_isText_32 : decode cX5_isText 32 = .ok (.getfield 147, 3) := by decide +kernel
theorem dX5_isText_35 : decode cX5_isText 35 = .ok (.iconst 1, 1) := by decide +kernel
theorem dX5_isText_36 : decode cX5_isText 36 = .ok (.iadd, 1) := by decide +kernel
theorem dX5_isText_37 : decode cX5_isText 37 = .ok (.putfield 147, 3) := by decide +kernel
theorem dX5_isText_40 : decode cX5_isText 40 = .ok (.aload_n 0, 1) := by decide +kernel
theorem dX5_isText_41 : decode cX5_isText 41 = .ok (.bipush 59, 2) := by decide +kernel
theorem dX5_isText_43 : decode cX5_isText 43 = .ok (.bipush 59, 2) := by decide +kernel
theorem dX5_isText_45 : decode cX5_isText 45 = .ok (.invokevirtual 131, 3) := by decide +kernel
theorem dX5_isText_48 : decode cX5_isText 48 = .ok (.istore_n 1, 1) := by decide +kernel
theorem dX5_isText_49 : decode cX5_isText 49 = .ok (.aload_n 0, 1) := by decide +kernel
theorem dX5_isText_50 : decode cX5_isText 50 = .ok (.dup, 1) := by decide +kernel
theorem dX5_isText_51 : decode cX5_isText 51 = .ok (.getfield 124, 3) := by decide +kernel
theorem dX5_isText_54 : decode cX5_isText 54 = .ok (.iload_n 1, 1) := by decide +kernel
theorem dX5_isText_55 : decode cX5_isText 55 = .ok (.ifCond .eq 7, 3) := by decide +kernel
theorem dX5_isText_58 : decode cX5_isText 58 = .ok (.iconst 1, 1) := by decide +kernel
theorem dX5_isText_59 : decode cX5_isText 59 = .ok (.goto 4, 3) := by decide +kernel
theorem dX5_isText_62 : decode cX5_isText 62 = .ok (.iconst 0, 1) := by decide +kernel
theorem dX5_isText_63 : decode cX5_isText 63 = .ok (.iadd, 1) := by decide +kernel
theorem dX5_isText_64 : decode cX5_isText 64 = .ok (.putfield 124, 3) := by decide +kernel
theorem dX5_isText_67 : decode cX5_isText 67 = .ok (.goto (-50), 3) := by decide +kernel
theorem dX5_isText_70 : decode cX5_isText 70 = .ok (.aload_n 0, 1) := by decide +kernel
theorem dX5_isText_71 : decode cX5_isText 71 = .ok (.aload_n 0, 1) := by decide +kernel
theorem dX5_isText_72 : decode cX5_isText 72 = .ok (.getfield 124, 3) := by decide +kernel
theorem dX5_isText_75 : decode cX5_isText 75 = .ok (.aload_n 0, 1) := by decide +kernel
theorem dX5_isText_76 : decode cX5_isText 76 = .ok (.getfield 121, 3) := by decide +kernel
theorem dX5_isText_79 : decode cX5_isText 79 = .ok (.if_icmp .ge 7, 3) := by decide +kernel
theorem dX5_isText_82 : decode cX5_isText 82 = .ok (.iconst 1, 1) := by decide +kernel
theorem dX5_isText_83 : decode cX5_isText 83 = .ok (.goto 4, 3) := by decide +kernel
theorem dX5_isText_86 : decode cX5_isText 86 = .ok (.iconst 0, 1) := by decide +kernel
theorem dX5_isText_87 : decode cX5_isText 87 = .ok (.putfield 127, 3) := by decide +kernel
theorem dX5_isText_90 : decode cX5_isText 90 = .ok (.aload_n 0, 1) := by decide +kernel
theorem dX5_isText_91 : decode cX5_isText 91 = .ok (.getfield 124, 3) := by decide +kernel
theorem dX5_isText_94 : decode cX5_isText 94 = .ok (.aload_n 0, 1) := by decide +kernel
theorem dX5_isText_95 : decode cX5_isText 95 = .ok (.getfield 121, 3) := by decide +kernel
theorem dX5_isText_98 : decode cX5_isText 98 = .ok (.if_icmp .ne 7, 3) := by decide +kernel
theorem dX5_isText_101 : decode cX5_isText 101 = .ok (.iconst 1, 1) := by decide +kernel
theorem dX5_isText_102 : decode cX5_isText 102 = .ok (.goto 4, 3) := by decide +kernel
theorem dX5_isText_105 : decode cX5_isText 105 = .ok (.iconst 0, 1) := by decide +kernel
theorem dX5_isText_106 : decode cX5_isText 106 = .ok (.ireturn, 1) := by decide +kernel
theorem dX5_firstError_0 : decode cX5_firstError 0 = .ok (.aload_n 0, 1) := by decide +kernel
theorem dX5_firstError_1 : decode cX5_firstError 1 = .ok (.iconst 0, 1) := by decide +kernel
theorem dX5_firstError_2 : decode cX5_firstError 2 = .ok (.putfield 25, 3) := by decide +kernel
theorem dX5_firstError_5 : decode cX5_firstError 5 = .ok (.aload_n 0, 1) := by decide +kernel
theorem dX5_firstError_6 : decode cX5_firstError 6 = .ok (.invokevirtual 159, 3) := by decide +kernel
theorem dX5_firstError_9 : decode cX5_firstError 9 = .ok (.istore_n 1, 1) := by decide +kernel
theorem dX5_firstError_10 : decode cX5_firstError 10 = .ok (.iload_n 1, 1) := by decide +kernel
theorem dX5_firstError_11 : decode cX5_firstError 11 = .ok (.ifCond .ne 17, 3) := by decide +kernel
theorem dX5_firstError_14 : decode cX5_firstError 14 = .ok (.aload_n 0, 1) := by decide +kernel
theorem dX5_firstError_15 : decode cX5_firstError 15 = .ok (.getfield 127, 3) := by decide +kernel
theorem dX5_firstError_18 : decode cX5_firstError 18 = .ok (.ifCond .eq 10, 3) := by decide +kernel
theorem dX5_firstError_21 : decode cX5_firstError 21 = .ok (.aload_n 0, 1) := by decide +kernel
theorem dX5_firstError_22 : decode cX5_firstError 22 = .ok (.getfield 124, 3) := by decide +kernel
theorem dX5_firstError_25 : decode cX5_firstError 25 = .ok (.goto 7, 3) := by decide +kernel
theorem dX5_firstError_28 : decode cX5_firstError 28 = .ok (.aload_n 0, 1) := by decide +kernel
theorem dX5_firstError_29 : decode cX5_firstError 29 = .ok (.getfield 121, 3) := by decide +kernel
theorem dX5_firstError_32 : decode cX5_firstError 32 = .ok (.ireturn, 1) := by decide +kernel
theorem dX5_isDone_0 : decode cX5_isDone 0 = .ok (.aload_n 0, 1) := by decide +kernel
theorem dX5_isDone_1 : decode cX5_isDone 1 = .ok (.getfield 22, 3) := by decide +kernel
theorem dX5_isDone_4 : decode cX5_isDone 4 = .ok (.iconst 4, 1) := by decide +kernel
theorem dX5_isDone_5 : decode cX5_isDone 5 = .ok (.iload_n 1, 1) := by decide +kernel
theorem dX5_isDone_6 : decode cX5_isDone 6 = .ok (.imul, 1) := by decide +kernel
theorem dX5_isDone_7 : decode cX5_isDone 7 = .ok (.iaload, 1) := by decide +kernel
theorem dX5_isDone_8 : decode cX5_isDone 8 = .ok (.istore_n 2, 1) := by decide +kernel
theorem dX5_isDone_9 : decode cX5_isDone 9 = .ok (.aload_n 0, 1) := by decide +kernel
theorem dX5_isDone_10 : decode cX5_isDone 10 = .ok (.getfield 22, 3) := by decide +kernel
theorem dX5_isDone_13 : decode cX5_isDone 13 = .ok (.iconst 4, 1) := by decide +kernel
theorem dX5_isDone_14 : decode cX5_isDone 14 = .ok (.iload_n 1, 1) := by decide +kernel
theorem dX5_isDone_15 : decode cX5_isDone 15 = .ok (.imul, 1) := by decide +kernel
theorem dX5_isDone_16 : decode cX5_isDone 16 = .ok (.iconst 1, 1) := by decide +kernel
theorem dX5_isDone_17 : decode cX5_isDone 17 = .ok (.iadd, 1) := by decide +kernel
theorem dX5_isDone_18 : decode cX5_isDone 18 = .ok (.iaload, 1) := by decide +kernel
theorem dX5_isDone_19 : decode cX5_isDone 19 = .ok (.istore_n 3, 1) := by decide +kernel
theorem dX5_isDone_20 : decode cX5_isDone 20 = .ok (.aload_n 0, 1) := by decide +kernel
theorem dX5_isDone_21 : decode cX5_isDone 21 = .ok (.getfield 22, 3) := by decide +kernel
theorem dX5_isDone_24 : decode cX5_isDone 24 = .ok (.iconst 4, 1) := by decide +kernel
theorem dX5_isDone_25 : decode cX5_isDone 25 = .ok (.iload_n 1, 1) := by decide +kernel
theorem dX5_isDone_26 : decode cX5_isDone 26 = .ok (.imul, 1) := by decide +kernel
theorem dX5_isDone_27 : decode cX5_isDone 27 = .ok (.iconst 2, 1) := by decide +kernel
theorem dX5_isDone_28 : decode cX5_isDone 28 = .ok (.iadd, 1) := by decide +kernel
theorem dX5_isDone_29 : decode cX5_isDone 29 = .ok (.iaload, 1) := by decide +kernel
theorem dX5_isDone_30 : decode cX5_isDone 30 = .ok (.istore 4, 2) := by decide +kernel
theorem dX5_isDone_32 : decode cX5_isDone 32 = .ok (.aload_n 0, 1) := by decide +kernel
theorem dX5_isDone_33 : decode cX5_isDone 33 = .ok (.getfield 22, 3) := by decide +kernel
theorem dX5_isDone_36 : decode cX5_isDone 36 = .ok (.iconst 4, 1) := by decide +kernel
theorem dX5_isDone_37 : decode cX5_isDone 37 = .ok (.iload_n 1, 1) := by decide +kernel
theorem dX5_isDone_38 : decode cX5_isDone 38 = .ok (.imul, 1) := by decide +kernel
theorem dX5_isDone_39 : decode cX5_isDone 39 = .ok (.iconst 3, 1) := by decide +kernel
theorem dX5_isDone_40 : decode cX5_isDone 40 = .ok (.iadd, 1) := by decide +kernel
theorem dX5_isDone_41 : decode cX5_isDone 41 = .ok (.iaload, 1) := by decide +kernel
theorem dX5_isDone_42 : decode cX5_isDone 42 = .ok (.istore 5, 2) := by decide +kernel
theorem dX5_isDone_44 : decode cX5_isDone 44 = .ok (.iload_n 2, 1) := by decide +kernel
theorem dX5_isDone_45 : decode cX5_isDone 45 = .ok (.bipush 100, 2) := by decide +kernel
theorem dX5_isDone_47 : decode cX5_isDone 47 = .ok (.if_icmp .ne 25, 3) := by decide +kernel
theorem dX5_isDone_50 : decode cX5_isDone 50 = .ok (.aload_n 0, 1) := by decide +kernel
theorem dX5_isDone_51 : decode cX5_isDone 51 = .ok (.getfield 7, 3) := by decide +kernel
theorem dX5_isDone_54 : decode cX5_isDone 54 = .ok (.iconst 0, 1) := by decide +kernel
theorem dX5_isDone_55 : decode cX5_isDone 55 = .ok (.iaload, 1) := by decide +kernel
theorem dX5_isDone_56 : decode cX5_isDone 56 = .ok (.iload_n 3, 1) := by decide +kernel
theorem dX5_isDone_57 : decode cX5_isDone 57 = .ok (.iadd, 1) := by decide +kernel
theorem dX5_isDone_58 : decode cX5_isDone 58 = .ok (.sipush 9999, 3) := by decide +kernel
theorem dX5_isDone_61 : decode cX5_isDone 61 = .ok (.if_icmp .gt 7, 3) := by decide +kernel
theorem dX5_isDone_64 : decode cX5_isDone 64 = .ok (.iconst 1, 1) := by decide +kernel
theorem dX5_isDone_65 : decode cX5_isDone 65 = .ok (.goto 77, 3) := by decide +kernel
theorem dX5_isDone_68 : decode cX5_isDone 68 = .ok (.iconst 0, 1) := by decide +kernel
theorem dX5_isDone_69 : decode cX5_isDone 69 = .ok (.goto 73, 3) := by decide +kernel
theorem dX5_isDone_72 : decode cX5_isDone 72 = .ok (.iload_n 2, 1) := by decide +kernel
theorem dX5_isDone_73 : decode cX5_isDone 73 = .ok (.bipush 116, 2) := by decide +kernel
theorem dX5_isDone_75 : decode cX5_isDone 75 = .ok (.if_icmp .ne 11, 3) := by decide +kernel
theorem dX5_isDone_78 : decode cX5_isDone 78 = .ok (.aload_n 0, 1) := by decide +kernel
theorem dX5_isDone_79 : decode cX5_isDone 79 = .ok (.iload_n 3, 1) := by decide +kernel
theorem dX5_isDone_80 : decode cX5_isDone 80 = .ok (.invokevirtual 80, 3) := by decide +kernel
theorem dX5_isDone_83 : decode cX5_isDone 83 = .ok (.goto 59, 3) := by decide +kernel
theorem dX5_isDone_86 : decode cX5_isDone 86 = .ok (.iload_n 2, 1) := by decide +kernel
theorem dX5_isDone_87 : decode cX5_isDone 87 = .ok (.bipush 119, 2) := by decide +kernel
theorem dX5_isDone_89 : decode cX5_isDone 89 = .ok (.if_icmp .ne 30, 3) := by decide +kernel
theorem dX5_isDone_92 : decode cX5_isDone 92 = .ok (.aload_n 0, 1) := by decide +kernel
theorem dX5_isDone_93 : decode cX5_isDone 93 = .ok (.iload 4, 2) := by decide +kernel
theorem dX5_isDone_95 : decode cX5_isDone 95 = .ok (.invokevirtual 97, 3) := by decide +kernel
theorem dX5_isDone_98 : decode cX5_isDone 98 = .ok (.ifCond .eq 17, 3) := by decide +kernel
theorem dX5_isDone_101 : decode cX5_isDone 101 = .ok (.aload_n 0, 1) := by decide +kernel
theorem dX5_isDone_102 : decode cX5_isDone 102 = .ok (.iload_n 3, 1) := by decide +kernel
theorem dX5_isDone_103 : decode cX5_isDone 103 = .ok (.iload 4, 2) := by decide +kernel
theorem dX5_isDone_105 : decode cX5_isDone 105 = .ok (.invokevirtual 100, 3) := by decide +kernel
theorem dX5_isDone_108 : decode cX5_isDone 108 = .ok (.ifCond .eq 7, 3) := by decide +kernel
theorem dX5_isDone_111 : decode cX5_isDone 111 = .ok (.iconst 1, 1) := by decide +kernel
theorem dX5_isDone_112 : decode cX5_isDone 112 = .ok (.goto 30, 3) := by decide +kernel
theorem dX5_isDone_115 : decode cX5_isDone 115 = .ok (.iconst 0, 1) := by decide +kernel
theorem dX5_isDone_116 : decode cX5_isDone 116 = .ok (.goto 26, 3) := by decide +kernel
theorem dX5_isDone_119 : decode cX5_isDone 119 = .ok (.aload_n 0, 1) := by decide +kernel
theorem dX5_isDone_120 : decode cX5_isDone 120 = .ok (.iload 4, 2) := by decide +kernel
theorem dX5_isDone_122 : decode cX5_isDone 122 = .ok (.invokevirtual 97, 3) := by decide +kernel
theorem dX5_isDone_125 : decode cX5_isDone 125 = .ok (.ifCond .eq 16, 3) := by decide +kernel
theorem dX5_isDone_128 : decode cX5_isDone 128 = .ok (.aload_n 0, 1) := by decide +kernel
theorem dX5_isDone_129 : decode cX5_isDone 129 = .ok (.iload 5, 2) := by decide +kernel
theorem dX5_isDone_131 : decode cX5_isDone 131 = .ok (.invokevirtual 97, 3) := by decide +kernel
theorem dX5_isDone_134 : decode cX5_isDone 134 = .ok (.ifCond .eq 7, 3) := by decide +kernel
theorem dX5_isDone_137 : decode cX5_isDone 137 = .ok (.iconst 1, 1) := by decide +kernel
theorem dX5_isDone_138 : decode cX5_isDone 138 = .ok (.goto 4, 3) := by decide +kernel
theorem dX5_isDone_141 : decode cX5_isDone 141 = .ok (.iconst 0, 1) := by decide +kernel
theorem dX5_isDone_142 : decode cX5_isDone 142 = .ok (.istore 6, 2) := by decide +kernel
theorem dX5_isDone_144 : decode cX5_isDone 144 = .ok (.iload 6, 2) := by decide +kernel
theorem dX5_isDone_146 : decode cX5_isDone 146 = .ok (.ifCond .eq 15, 3) := by decide +kernel
theorem dX5_isDone_149 : decode cX5_isDone 149 = .ok (.iload_n 2, 1) := by decide +kernel
theorem dX5_isDone_150 : decode cX5_isDone 150 = .ok (.bipush 100, 2) := by decide +kernel
theorem dX5_isDone_152 : decode cX5_isDone 152 = .ok (.if_icmp .ne 9, 3) := by decide +kernel
theorem dX5_isDone_155 : decode cX5_isDone 155 = .ok (.aload_n 0, 1) := by decide +kernel
theorem dX5_isDone_156 : decode cX5_isDone 156 = .ok (.iload_n 3, 1) := by decide +kernel
theorem dX5_isDone_157 : decode cX5_isDone 157 = .ok (.invokevirtual 115, 3) := by decide +kernel
theorem dX5_isDone_160 : decode cX5_isDone 160 = .ok (.pop, 1) := by decide +kernel
theorem dX5_isDone_161 : decode cX5_isDone 161 = .ok (.iload 6, 2) := by decide +kernel
theorem dX5_isDone_163 : decode cX5_isDone 163 = .ok (.ifCond .eq 17, 3) := by decide +kernel
theorem dX5_isDone_166 : decode cX5_isDone 166 = .ok (.iload_n 2, 1) := by decide +kernel
theorem dX5_isDone_167 : decode cX5_isDone 167 = .ok (.bipush 116, 2) := by decide +kernel
theorem dX5_isDone_169 : decode cX5_isDone 169 = .ok (.if_icmp .ne 11, 3) := by decide +kernel
theorem dX5_isDone_172 : decode cX5_isDone 172 = .ok (.aload_n 0, 1) := by decide +kernel
theorem dX5_isDone_173 : decode cX5_isDone 173 = .ok (.iload_n 3, 1) := by decide +kernel
theorem dX5_isDone_174 : decode cX5_isDone 174 = .ok (.iload 4, 2) := by decide +kernel
theorem dX5_isDone_176 : decode cX5_isDone 176 = .ok (.invokevirtual 86, 3) := by decide +kernel
theorem dX5_isDone_179 : decode cX5_isDone 179 = .ok (.pop, 1) := by decide +kernel
theorem dX5_isDone_180 : decode cX5_isDone 180 = .ok (.iload 6, 2) := by decide +kernel
theorem dX5_isDone_182 : decode cX5_isDone 182 = .ok (.ifCond .eq 19, 3) := by decide +kernel
theorem dX5_isDone_185 : decode cX5_isDone 185 = .ok (.iload_n 2, 1) := by decide +kernel
theorem dX5_isDone_186 : decode cX5_isDone 186 = .ok (.bipush 119, 2) := by decide +kernel
theorem dX5_isDone_188 : decode cX5_isDone 188 = .ok (.if_icmp .ne 13, 3) := by decide +kernel
theorem dX5_isDone_191 : decode cX5_isDone 191 = .ok (.aload_n 0, 1) := by decide +kernel
theorem dX5_isDone_192 : decode cX5_isDone 192 = .ok (.iload_n 3, 1) := by decide +kernel
theorem dX5_isDone_193 : decode cX5_isDone 193 = .ok (.iload 4, 2) := by decide +kernel
theorem dX5_isDone_195 : decode cX5_isDone 195 = .ok (.iload 5, 2) := by decide +kernel
theorem dX5_isDone_197 : decode cX5_isDone 197 = .ok (.invokevirtual 104, 3) := by decide +kernel
theorem dX5_isDone_200 : decode cX5_isDone 200 = .ok (.pop, 1) := by decide +kernel
theorem dX5_isDone_201 : decode cX5_isDone 201 = .ok (.iload 6, 2) := by decide +kernel
theorem dX5_isDone_203 : decode cX5_isDone 203 = .ok (.ifCond .eq 19, 3) := by decide +kernel
theorem dX5_isDone_206 : decode cX5_isDone 206 = .ok (.iload_n 2, 1) := by decide +kernel
theorem dX5_isDone_207 : decode cX5_isDone 207 = .ok (.bipush 103, 2) := by decide +kernel
theorem dX5_isDone_209 : decode cX5_isDone 209 = .ok (.if_icmp .ne 13, 3) := by decide +kernel
theorem dX5_isDone_212 : decode cX5_isDone 212 = .ok (.aload_n 0, 1) := by decide +kernel
theorem dX5_isDone_213 : decode cX5_isDone 213 = .ok (.iload_n 3, 1) := by decide +kernel
theorem dX5_isDone_214 : decode cX5_isDone 214 = .ok (.iload 4, 2) := by decide +kernel
theorem dX5_isDone_216 : decode cX5_isDone 216 = .ok (.iload 5, 2) := by decide +kernel
theorem dX5_isDone_218 : decode cX5_isDone 218 = .ok (.invokevirtual 108, 3) := by decide +kernel
theorem dX5_isDone_221 : decode cX5_isDone 221 = .ok (.pop, 1) := by decide +kernel
theorem dX5_isDone_222 : decode cX5_isDone 222 = .ok (.iload 6, 2) := by decide +kernel
theorem dX5_isDone_224 : decode cX5_isDone 224 = .ok (.ireturn, 1) := by decide +kernel
theorem dX5_run_0 : decode cX5_run 0 = .ok (.aload_n 0, 1) := by decide +kernel
theorem dX5_run_1 : decode cX5_run 1 = .ok (.iconst 0, 1) := by decide +kernel
theorem dX5_run_2 : decode cX5_run 2 = .ok (.putfield 25, 3) := by decide +kernel
theorem dX5_run_5 : decode cX5_run 5 = .ok (.aload_n 0, 1) := by decide +kernel
theorem dX5_run_6 : decode cX5_run 6 = .ok (.invokevirtual 159, 3) := by decide +kernel
theorem dX5_run_9 : decode cX5_run 9 = .ok (.ifCond .ne 9, 3) := by decide +kernel
theorem dX5_run_12 : decode cX5_run 12 = .ok (.aload_n 0, 1) := by decide +kernel
theorem dX5_run_13 : decode cX5_run 13 = .ok (.iconst 1, 1) := by decide +kernel
theorem dX5_run_14 : decode cX5_run 14 = .ok (.invokevirtual 36, 3) := by decide +kernel
theorem dX5_run_17 : decode cX5_run 17 = .ok (.ireturn, 1) := by decide +kernel
theorem dX5_run_18 : decode cX5_run 18 = .ok (.aload_n 0, 1) := by decide +kernel
theorem dX5_run_19 : decode cX5_run 19 = .ok (.invokevirtual 83, 3) := by decide +kernel
theorem dX5_run_22 : decode cX5_run 22 = .ok (.aload_n 0, 1) := by decide +kernel
theorem dX5_run_23 : decode cX5_run 23 = .ok (.iconst 0, 1) := by decide +kernel
theorem dX5_run_24 : decode cX5_run 24 = .ok (.putfield 121, 3) := by decide +kernel
theorem dX5_run_27 : decode cX5_run 27 = .ok (.iconst 0, 1) := by decide +kernel
theorem dX5_run_28 : decode cX5_run 28 = .ok (.istore_n 1, 1) := by decide +kernel
theorem dX5_run_29 : decode cX5_run 29 = .ok (.iload_n 1, 1) := by decide +kernel
theorem dX5_run_30 : decode cX5_run 30 = .ok (.aload_n 0, 1) := by decide +kernel
theorem dX5_run_31 : decode cX5_run 31 = .ok (.getfield 147, 3) := by decide +kernel
theorem dX5_run_34 : decode cX5_run 34 = .ok (.if_icmp .ge 17, 3) := by decide +kernel
theorem dX5_run_37 : decode cX5_run 37 = .ok (.aload_n 0, 1) := by decide +kernel
theorem dX5_run_38 : decode cX5_run 38 = .ok (.iload_n 1, 1) := by decide +kernel
theorem dX5_run_39 : decode cX5_run 39 = .ok (.invokevirtual 162, 3) := by decide +kernel
theorem dX5_run_42 : decode cX5_run 42 = .ok (.ifCond .eq 9, 3) := by decide +kernel
theorem dX5_run_45 : decode cX5_run 45 = .ok (.iinc 1 1, 3) := by decide +kernel
theorem dX5_run_48 : decode cX5_run 48 = .ok (.goto (-19), 3) := by decide +kernel
theorem dX5_run_51 : decode cX5_run 51 = .ok (.iload_n 1, 1) := by decide +kernel
theorem dX5_run_52 : decode cX5_run 52 = .ok (.ireturn, 1) := by decide +kernel
theorem dX5_ofNumber_0 : decode cX5_ofNumber 0 = .ok (.iload_n 1, 1) := by decide +kernel
theorem dX5_ofNumber_1 : decode cX5_ofNumber 1 = .ok (.invokestatic 40, 3) := by decide +kernel
theorem dX5_ofNumber_4 : decode cX5_ofNumber 4 = .ok (.istore_n 3, 1) := by decide +kernel
theorem dX5_ofNumber_5 : decode cX5_ofNumber 5 = .ok (.iload_n 2, 1) := by decide +kernel
theorem dX5_ofNumber_6 : decode cX5_ofNumber 6 = .ok (.ifCond .ne 12, 3) := by decide +kernel
theorem dX5_ofNumber_9 : decode cX5_ofNumber 9 = .ok (.aload_n 0, 1) := by decide +kernel
theorem dX5_ofNumber_10 : decode cX5_ofNumber 10 = .ok (.getfield 7, 3) := by decide +kernel
theorem dX5_ofNumber_13 : decode cX5_ofNumber 13 = .ok (.iload_n 1, 1) := by decide +kernel
theorem dX5_ofNumber_14 : decode cX5_ofNumber 14 = .ok (.invokestatic 51, 3) := by decide +kernel
theorem dX5_ofNumber_17 : decode cX5_ofNumber 17 = .ok (.ireturn, 1) := by decide +kernel
theorem dX5_ofNumber_18 : decode cX5_ofNumber 18 = .ok (.iload_n 2, 1) := by decide +kernel
theorem dX5_ofNumber_19 : decode cX5_ofNumber 19 = .ok (.iconst 5, 1) := by decide +kernel
theorem dX5_ofNumber_20 : decode cX5_ofNumber 20 = .ok (.if_icmp .ge 29, 3) := by decide +kernel
theorem dX5_ofNumber_23 : decode cX5_ofNumber 23 = .ok (.aload_n 0, 1) := by decide +kernel
theorem dX5_ofNumber_24 : decode cX5_ofNumber 24 = .ok (.getfield 7, 3) := by decide +kernel
theorem dX5_ofNumber_27 : decode cX5_ofNumber 27 = .ok (.iload_n 1, 1) := by decide +kernel
theorem dX5_ofNumber_28 : decode cX5_ofNumber 28 = .ok (.invokestatic 43, 3) := by decide +kernel
theorem dX5_ofNumber_31 : decode cX5_ofNumber 31 = .ok (.ifCond .eq 7, 3) := by decide +kernel
theorem dX5_ofNumber_34 : decode cX5_ofNumber 34 = .ok (.iconst (-1), 1) := by decide +kernel
theorem dX5_ofNumber_35 : decode cX5_ofNumber 35 = .ok (.goto 13, 3) := by decide +kernel
theorem dX5_ofNumber_38 : decode cX5_ofNumber 38 = .ok (.aload_n 0, 1) := by decide +kernel
theorem dX5_ofNumber_39 : decode cX5_ofNumber 39 = .ok (.getfield 7, 3) := by decide +kernel
theorem dX5_ofNumber_42 : decode cX5_ofNumber 42 = .ok (.iload_n 3, 1) := by decide +kernel
theorem dX5_ofNumber_43 : decode cX5_ofNumber 43 = .ok (.iload_n 2, 1) := by decide +kernel
theorem dX5_ofNumber_44 : decode cX5_ofNumber 44 = .ok (.iadd, 1) := by decide +kernel
theorem dX5_ofNumber_45 : decode cX5_ofNumber 45 = .ok (.iconst 1, 1) := by decide +kernel
theorem dX5_ofNumber_46 : decode cX5_ofNumber 46 = .ok (.isub, 1) := by decide +kernel
theorem dX5_ofNumber_47 : decode cX5_ofNumber 47 = .ok (.iaload, 1) := by decide +kernel
theorem dX5_ofNumber_48 : decode cX5_ofNumber 48 = .ok (.ireturn, 1) := by decide +kernel
theorem dX5_ofNumber_49 : decode cX5_ofNumber 49 = .ok (.iload_n 2, 1) := by decide +kernel
theorem dX5_ofNumber_50 : decode cX5_ofNumber 50 = .ok (.iconst 5, 1) := by decide +kernel
theorem dX5_ofNumber_51 : decode cX5_ofNumber 51 = .ok (.if_icmp .eq 9, 3) := by decide +kernel
theorem dX5_ofNumber_54 : decode cX5_ofNumber 54 = .ok (.iload_n 2, 1) := by decide +kernel
theorem dX5_ofNumber_55 : decode cX5_ofNumber 55 = .ok (.bipush 8, 2) := by decide +kernel
theorem dX5_ofNumber_57 : decode cX5_ofNumber 57 = .ok (.if_icmp .ne 23, 3) := by decide +kernel
theorem dX5_ofNumber_60 : decode cX5_ofNumber 60 = .ok (.aload_n 0, 1) := by decide +kernel
theorem dX5_ofNumber_61 : decode cX5_ofNumber 61 = .ok (.getfield 7, 3) := by decide +kernel
theorem dX5_ofNumber_64 : decode cX5_ofNumber 64 = .ok (.iload_n 2, 1) := by decide +kernel
theorem dX5_ofNumber_65 : decode cX5_ofNumber 65 = .ok (.iconst 5, 1) := by decide +kernel
theorem dX5_ofNumber_66 : decode cX5_ofNumber 66 = .ok (.if_icmp .ne 9, 3) := by decide +kernel
theorem dX5_ofNumber_69 : decode cX5_ofNumber 69 = .ok (.iload_n 3, 1) := by decide +kernel
theorem dX5_ofNumber_70 : decode cX5_ofNumber 70 = .ok (.iconst 5, 1) := by decide +kernel
theorem dX5_ofNumber_71 : decode cX5_ofNumber 71 = .ok (.iadd, 1) := by decide +kernel
theorem dX5_ofNumber_72 : decode cX5_ofNumber 72 = .ok (.goto 6, 3) := by decide +kernel
theorem dX5_ofNumber_75 : decode cX5_ofNumber 75 = .ok (.iload_n 3, 1) := by decide +kernel
theorem dX5_ofNumber_76 : decode cX5_ofNumber 76 = .ok (.iconst 4, 1) := by decide +kernel
theorem dX5_ofNumber_77 : decode cX5_ofNumber 77 = .ok (.iadd, 1) := by decide +kernel
theorem dX5_ofNumber_78 : decode cX5_ofNumber 78 = .ok (.iaload, 1) := by decide +kernel
theorem dX5_ofNumber_79 : decode cX5_ofNumber 79 = .ok (.ireturn, 1) := by decide +kernel
theorem dX5_ofNumber_80 : decode cX5_ofNumber 80 = .ok (.aload_n 0, 1) := by decide +kernel
theorem dX5_ofNumber_81 : decode cX5_ofNumber 81 = .ok (.getfield 7, 3) := by decide +kernel
theorem dX5_ofNumber_84 : decode cX5_ofNumber 84 = .ok (.iload_n 3, 1) := by decide +kernel
theorem dX5_ofNumber_85 : decode cX5_ofNumber 85 = .ok (.iconst 5, 1) := by decide +kernel
theorem dX5_ofNumber_86 : decode cX5_ofNumber 86 = .ok (.iadd, 1) := by decide +kernel
theorem dX5_ofNumber_87 : decode cX5_ofNumber 87 = .ok (.iaload, 1) := by decide +kernel
theorem dX5_ofNumber_88 : decode cX5_ofNumber 88 = .ok (.ifCond .ne 7, 3) := by decide +kernel
theorem dX5_ofNumber_91 : decode cX5_ofNumber 91 = .ok (.iconst (-1), 1) := by decide +kernel
theorem dX5_ofNumber_92 : decode cX5_ofNumber 92 = .ok (.goto 17, 3) := by decide +kernel
theorem dX5_ofNumber_95 : decode cX5_ofNumber 95 = .ok (.aload_n 0, 1) := by decide +kernel
theorem dX5_ofNumber_96 : decode cX5_ofNumber 96 = .ok (.getfield 7, 3) := by decide +kernel
theorem dX5_ofNumber_99 : decode cX5_ofNumber 99 = .ok (.iload_n 3, 1) := by decide +kernel
theorem dX5_ofNumber_100 : decode cX5_ofNumber 100 = .ok (.bipush 6, 2) := by decide +kernel
theorem dX5_ofNumber_102 : decode cX5_ofNumber 102 = .ok (.iadd, 1) := by decide +kernel
theorem dX5_ofNumber_103 : decode cX5_ofNumber 103 = .ok (.iload_n 2, 1) := by decide +kernel
theorem dX5_ofNumber_104 : decode cX5_ofNumber 104 = .ok (.iadd, 1) := by decide +kernel
theorem dX5_ofNumber_105 : decode cX5_ofNumber 105 = .ok (.bipush 6, 2) := by decide +kernel
theorem dX5_ofNumber_107 : decode cX5_ofNumber 107 = .ok (.isub, 1) := by decide +kernel
theorem dX5_ofNumber_108 : decode cX5_ofNumber 108 = .ok (.iaload, 1) := by decide +kernel
theorem dX5_ofNumber_109 : decode cX5_ofNumber 109 = .ok (.ireturn, 1) := by decide +kernel
theorem dX5_number_0 : decode cX5_number 0 = .ok (.aload_n 0, 1) := by decide +kernel
theorem dX5_number_1 : decode cX5_number 1 = .ok (.iconst 0, 1) := by decide +kernel
theorem dX5_number_2 : decode cX5_number 2 = .ok (.putfield 25, 3) := by decide +kernel
theorem dX5_number_5 : decode cX5_number 5 = .ok (.aload_n 0, 1) := by decide +kernel
theorem dX5_number_6 : decode cX5_number 6 = .ok (.iload_n 1, 1) := by decide +kernel
theorem dX5_number_7 : decode cX5_number 7 = .ok (.invokevirtual 97, 3) := by decide +kernel
theorem dX5_number_10 : decode cX5_number 10 = .ok (.ifCond .ne 9, 3) := by decide +kernel
theorem dX5_number_13 : decode cX5_number 13 = .ok (.aload_n 0, 1) := by decide +kernel
theorem dX5_number_14 : decode cX5_number 14 = .ok (.iconst 1, 1) := by decide +kernel
theorem dX5_number_15 : decode cX5_number 15 = .ok (.invokevirtual 36, 3) := by decide +kernel
theorem dX5_number_18 : decode cX5_number 18 = .ok (.ireturn, 1) := by decide +kernel
theorem dX5_number_19 : decode cX5_number 19 = .ok (.iload_n 2, 1) := by decide +kernel
theorem dX5_number_20 : decode cX5_number 20 = .ok (.iconst 0, 1) := by decide +kernel
theorem dX5_number_21 : decode cX5_number 21 = .ok (.bipush 8, 2) := by decide +kernel
theorem dX5_number_23 : decode cX5_number 23 = .ok (.invokestatic 29, 3) := by decide +kernel
theorem dX5_number_26 : decode cX5_number 26 = .ok (.ifCond .eq 12, 3) := by decide +kernel
theorem dX5_number_29 : decode cX5_number 29 = .ok (.aload_n 0, 1) := by decide +kernel
theorem dX5_number_30 : decode cX5_number 30 = .ok (.iload_n 1, 1) := by decide +kernel
theorem dX5_number_31 : decode cX5_number 31 = .ok (.iload_n 2, 1) := by decide +kernel
theorem dX5_number_32 : decode cX5_number 32 = .ok (.invokevirtual 165, 3) := by decide +kernel
theorem dX5_number_35 : decode cX5_number 35 = .ok (.goto 8, 3) := by decide +kernel
theorem dX5_number_38 : decode cX5_number 38 = .ok (.aload_n 0, 1) := by decide +kernel
theorem dX5_number_39 : decode cX5_number 39 = .ok (.iconst 2, 1) := by decide +kernel
theorem dX5_number_40 : decode cX5_number 40 = .ok (.invokevirtual 36, 3) := by decide +kernel
theorem dX5_number_43 : decode cX5_number 43 = .ok (.ireturn, 1) := by decide +kernel
theorem dX5_ofHolder_0 : decode cX5_ofHolder 0 = .ok (.iload_n 2, 1) := by decide +kernel
theorem dX5_ofHolder_1 : decode cX5_ofHolder 1 = .ok (.iconst 4, 1) := by decide +kernel
theorem dX5_ofHolder_2 : decode cX5_ofHolder 2 = .ok (.if_icmp .le 38, 3) := by decide +kernel
theorem dX5_ofHolder_5 : decode cX5_ofHolder 5 = .ok (.aload_n 0, 1) := by decide +kernel
theorem dX5_ofHolder_6 : decode cX5_ofHolder 6 = .ok (.getfield 7, 3) := by decide +kernel
theorem dX5_ofHolder_9 : decode cX5_ofHolder 9 = .ok (.iload_n 2, 1) := by decide +kernel
theorem dX5_ofHolder_10 : decode cX5_ofHolder 10 = .ok (.iconst 5, 1) := by decide +kernel
theorem dX5_ofHolder_11 : decode cX5_ofHolder 11 = .ok (.if_icmp .ne 10, 3) := by decide +kernel
theorem dX5_ofHolder_14 : decode cX5_ofHolder 14 = .ok (.bipush 8, 2) := by decide +kernel
theorem dX5_ofHolder_16 : decode cX5_ofHolder 16 = .ok (.iload_n 1, 1) := by decide +kernel
theorem dX5_ofHolder_17 : decode cX5_ofHolder 17 = .ok (.iadd, 1) := by decide +kernel
theorem dX5_ofHolder_18 : decode cX5_ofHolder 18 = .ok (.goto 20, 3) := by decide +kernel
theorem dX5_ofHolder_21 : decode cX5_ofHolder 21 = .ok (.iload_n 2, 1) := by decide +kernel
theorem dX5_ofHolder_22 : decode cX5_ofHolder 22 = .ok (.bipush 6, 2) := by decide +kernel
theorem dX5_ofHolder_24 : decode cX5_ofHolder 24 = .ok (.if_icmp .ne 10, 3) := by decide +kernel
theorem dX5_ofHolder_27 : decode cX5_ofHolder 27 = .ok (.bipush 16, 2) := by decide +kernel
theorem dX5_ofHolder_29 : decode cX5_ofHolder 29 = .ok (.iload_n 1, 1) := by decide +kernel
theorem dX5_ofHolder_30 : decode cX5_ofHolder 30 = .ok (.iadd, 1) := by decide +kernel
theorem dX5_ofHolder_31 : decode cX5_ofHolder 31 = .ok (.goto 7, 3) := by decide +kernel
theorem dX5_ofHolder_34 : decode cX5_ofHolder 34 = .ok (.bipush 24, 2) := by decide +kernel
theorem dX5_ofHolder_36 : decode cX5_ofHolder 36 = .ok (.iload_n 1, 1) := by decide +kernel
theorem dX5_ofHolder_37 : decode cX5_ofHolder 37 = .ok (.iadd, 1) := by decide +kernel
theorem dX5_ofHolder_38 : decode cX5_ofHolder 38 = .ok (.iaload, 1) := by decide +kernel
theorem dX5_ofHolder_39 : decode cX5_ofHolder 39 = .ok (.ireturn, 1) := by decide +kernel
theorem dX5_ofHolder_40 : decode cX5_ofHolder 40 = .ok (.iconst 0, 1) := by decide +kernel
theorem dX5_ofHolder_41 : decode cX5_ofHolder 41 = .ok (.istore_n 3, 1) := by decide +kernel
theorem dX5_ofHolder_42 : decode cX5_ofHolder 42 = .ok (.iconst 0, 1) := by decide +kernel
theorem dX5_ofHolder_43 : decode cX5_ofHolder 43 = .ok (.istore 4, 2) := by decide +kernel
theorem dX5_ofHolder_45 : decode cX5_ofHolder 45 = .ok (.iconst 0, 1) := by decide +kernel
theorem dX5_ofHolder_46 : decode cX5_ofHolder 46 = .ok (.istore 5, 2) := by decide +kernel
theorem dX5_ofHolder_48 : decode cX5_ofHolder 48 = .ok (.iconst (-1), 1) := by decide +kernel
theorem dX5_ofHolder_49 : decode cX5_ofHolder 49 = .ok (.istore 6, 2) := by decide +kernel
theorem dX5_ofHolder_51 : decode cX5_ofHolder 51 = .ok (.iconst (-1), 1) := by decide +kernel
theorem dX5_ofHolder_52 : decode cX5_ofHolder 52 = .ok (.istore 7, 2) := by decide +kernel
theorem dX5_ofHolder_54 : decode cX5_ofHolder 54 = .ok (.aload_n 0, 1) := by decide +kernel
theorem dX5_ofHolder_55 : decode cX5_ofHolder 55 = .ok (.getfield 7, 3) := by decide +kernel
theorem dX5_ofHolder_58 : decode cX5_ofHolder 58 = .ok (.iconst 4, 1) := by decide +kernel
theorem dX5_ofHolder_59 : decode cX5_ofHolder 59 = .ok (.iaload, 1) := by decide +kernel
theorem dX5_ofHolder_60 : decode cX5_ofHolder 60 = .ok (.iconst 1, 1) := by decide +kernel
theorem dX5_ofHolder_61 : decode cX5_ofHolder 61 = .ok (.isub, 1) := by decide +kernel
theorem dX5_ofHolder_62 : decode cX5_ofHolder 62 = .ok (.istore 8, 2) := by decide +kernel
theorem dX5_ofHolder_64 : decode cX5_ofHolder 64 = .ok (.iload 8, 2) := by decide +kernel
theorem dX5_ofHolder_66 : decode cX5_ofHolder 66 = .ok (.ifCond .lt 172, 3) := by decide +kernel
theorem dX5_ofHolder_69 : decode cX5_ofHolder 69 = .ok (.aload_n 0, 1) := by decide +kernel
theorem dX5_ofHolder_70 : decode cX5_ofHolder 70 = .ok (.getfield 7, 3) := by decide +kernel
theorem dX5_ofHolder_73 : decode cX5_ofHolder 73 = .ok (.iload 8, 2) := by decide +kernel
theorem dX5_ofHolder_75 : decode cX5_ofHolder 75 = .ok (.invokestatic 40, 3) := by decide +kernel
theorem dX5_ofHolder_78 : decode cX5_ofHolder 78 = .ok (.iaload, 1) := by decide +kernel
theorem dX5_ofHolder_79 : decode cX5_ofHolder 79 = .ok (.iload_n 1, 1) := by decide +kernel
theorem dX5_ofHolder_80 : decode cX5_ofHolder 80 = .ok (.if_icmp .ne 7, 3) := by decide +kernel
theorem dX5_ofHolder_83 : decode cX5_ofHolder 83 = .ok (.iconst 1, 1) := by decide +kernel
theorem dX5_ofHolder_84 : decode cX5_ofHolder 84 = .ok (.goto 4, 3) := by decide +kernel
theorem dX5_ofHolder_87 : decode cX5_ofHolder 87 = .ok (.iconst 0, 1) := by decide +kernel
theorem dX5_ofHolder_88 : decode cX5_ofHolder 88 = .ok (.istore 9, 2) := by decide +kernel
theorem dX5_ofHolder_90 : decode cX5_ofHolder 90 = .ok (.aload_n 0, 1) := by decide +kernel
theorem dX5_ofHolder_91 : decode cX5_ofHolder 91 = .ok (.getfield 7, 3) := by decide +kernel
theorem dX5_ofHolder_94 : decode cX5_ofHolder 94 = .ok (.iload 8, 2) := by decide +kernel
theorem dX5_ofHolder_96 : decode cX5_ofHolder 96 = .ok (.invokestatic 51, 3) := by decide +kernel
theorem dX5_ofHolder_99 : decode cX5_ofHolder 99 = .ok (.istore 10, 2) := by decide +kernel
theorem dX5_ofHolder_101 : decode cX5_ofHolder 101 = .ok (.iload_n 3, 1) := by decide +kernel
theorem dX5_ofHolder_102 : decode cX5_ofHolder 102 = .ok (.iload 9, 2) := by decide +kernel
theorem dX5_ofHolder_104 : decode cX5_ofHolder 104 = .ok (.ifCond .eq 13, 3) := by decide +kernel
theorem dX5_ofHolder_107 : decode cX5_ofHolder 107 = .ok (.iload 10, 2) := by decide +kernel
theorem dX5_ofHolder_109 : decode cX5_ofHolder 109 = .ok (.iconst 1, 1) := by decide +kernel
theorem dX5_ofHolder_110 : decode cX5_ofHolder 110 = .ok (.if_icmp .ne 7, 3) := by decide +kernel
theorem dX5_ofHolder_113 : decode cX5_ofHolder 113 = .ok (.iconst 1, 1) := by decide +kernel
theorem dX5_ofHolder_114 : decode cX5_ofHolder 114 = .ok (.goto 4, 3) := by decide +kernel
theorem dX5_ofHolder_117 : decode cX5_ofHolder 117 = .ok (.iconst 0, 1) := by decide +kernel
theorem dX5_ofHolder_118 : decode cX5_ofHolder 118 = .ok (.iadd, 1) := by decide +kernel
theorem dX5_ofHolder_119 : decode cX5_ofHolder 119 = .ok (.istore_n 3, 1) := by decide +kernel
theorem dX5_ofHolder_120 : decode cX5_ofHolder 120 = .ok (.iload 4, 2) := by decide +kernel
theorem dX5_ofHolder_122 : decode cX5_ofHolder 122 = .ok (.iload 9, 2) := by decide +kernel
theorem dX5_ofHolder_124 : decode cX5_ofHolder 124 = .ok (.ifCond .eq 13, 3) := by decide +kernel
theorem dX5_ofHolder_127 : decode cX5_ofHolder 127 = .ok (.iload 10, 2) := by decide +kernel
theorem dX5_ofHolder_129 : decode cX5_ofHolder 129 = .ok (.iconst 2, 1) := by decide +kernel
theorem dX5_ofHolder_130 : decode cX5_ofHolder 130 = .ok (.if_icmp .ne 7, 3) := by decide +kernel
theorem dX5_ofHolder_133 : decode cX5_ofHolder 133 = .ok (.iconst 1, 1) := by decide +kernel
theorem dX5_ofHolder_134 : decode cX5_ofHolder 134 = .ok (.goto 4, 3) := by decide +kernel
theorem dX5_ofHolder_137 : decode cX5_ofHolder 137 = .ok (.iconst 0, 1) := by decide +kernel
theorem dX5_ofHolder_138 : decode cX5_ofHolder 138 = .ok (.iadd, 1) := by decide +kernel
theorem dX5_ofHolder_139 : decode cX5_ofHolder 139 = .ok (.istore 4, 2) := by decide +kernel
theorem dX5_ofHolder_141 : decode cX5_ofHolder 141 = .ok (.iload 5, 2) := by decide +kernel
theorem dX5_ofHolder_143 : decode cX5_ofHolder 143 = .ok (.aload_n 0, 1) := by decide +kernel
theorem dX5_ofHolder_144 : decode cX5_ofHolder 144 = .ok (.getfield 7, 3) := by decide +kernel
theorem dX5_ofHolder_147 : decode cX5_ofHolder 147 = .ok (.iload 8, 2) := by decide +kernel
theorem dX5_ofHolder_149 : decode cX5_ofHolder 149 = .ok (.iload_n 1, 1) := by decide +kernel
theorem dX5_ofHolder_150 : decode cX5_ofHolder 150 = .ok (.invokestatic 90, 3) := by decide +kernel
theorem dX5_ofHolder_153 : decode cX5_ofHolder 153 = .ok (.iconst (-1), 1) := by decide +kernel
theorem dX5_ofHolder_154 : decode cX5_ofHolder 154 = .ok (.if_icmp .ne 7, 3) := by decide +kernel
theorem dX5_ofHolder_157 : decode cX5_ofHolder 157 = .ok (.iconst 0, 1) := by decide +kernel
theorem dX5_ofHolder_158 : decode cX5_ofHolder 158 = .ok (.goto 4, 3) := by decide +kernel
theorem dX5_ofHolder_161 : decode cX5_ofHolder 161 = .ok (.iconst 1, 1) := by decide +kernel
theorem dX5_ofHolder_162 : decode cX5_ofHolder 162 = .ok (.iadd, 1) := by decide +kernel
theorem dX5_ofHolder_163 : decode cX5_ofHolder 163 = .ok (.istore 5, 2) := by decide +kernel
theorem dX5_ofHolder_165 : decode cX5_ofHolder 165 = .ok (.iload 9, 2) := by decide +kernel
theorem dX5_ofHolder_167 : decode cX5_ofHolder 167 = .ok (.ifCond .eq 8, 3) := by decide +kernel
theorem dX5_ofHolder_170 : decode cX5_ofHolder 170 = .ok (.iload 8, 2) := by decide +kernel
theorem dX5_ofHolder_172 : decode cX5_ofHolder 172 = .ok (.goto 5, 3) := by decide +kernel
theorem dX5_ofHolder_175 : decode cX5_ofHolder 175 = .ok (.iload 6, 2) := by decide +kernel
theorem dX5_ofHolder_177 : decode cX5_ofHolder 177 = .ok (.istore 6, 2) := by decide +kernel
theorem dX5_ofHolder_179 : decode cX5_ofHolder 179 = .ok (.iload 9, 2) := by decide +kernel
theorem dX5_ofHolder_181 : decode cX5_ofHolder 181 = .ok (.ifCond .eq 47, 3) := by decide +kernel
theorem dX5_ofHolder_184 : decode cX5_ofHolder 184 = .ok (.iload 10, 2) := by decide +kernel
theorem dX5_ofHolder_186 : decode cX5_ofHolder 186 = .ok (.iconst 1, 1) := by decide +kernel
theorem dX5_ofHolder_187 : decode cX5_ofHolder 187 = .ok (.if_icmp .ne 41, 3) := by decide +kernel
theorem dX5_ofHolder_190 : decode cX5_ofHolder 190 = .ok (.iload 7, 2) := by decide +kernel
theorem dX5_ofHolder_192 : decode cX5_ofHolder 192 = .ok (.iconst (-1), 1) := by decide +kernel
theorem dX5_ofHolder_193 : decode cX5_ofHolder 193 = .ok (.if_icmp .eq 20, 3) := by decide +kernel
theorem dX5_ofHolder_196 : decode cX5_ofHolder 196 = .ok (.aload_n 0, 1) := by decide +kernel
theorem dX5_ofHolder_197 : decode cX5_ofHolder 197 = .ok (.getfield 7, 3) := by decide +kernel
theorem dX5_ofHolder_200 : decode cX5_ofHolder 200 = .ok (.iload 8, 2) := by decide +kernel
theorem dX5_ofHolder_202 : decode cX5_ofHolder 202 = .ok (.invokestatic 40, 3) := by decide +kernel
theorem dX5_ofHolder_205 : decode cX5_ofHolder 205 = .ok (.iconst 2, 1) := by decide +kernel
theorem dX5_ofHolder_206 : decode cX5_ofHolder 206 = .ok (.iadd, 1) := by decide +kernel
theorem dX5_ofHolder_207 : decode cX5_ofHolder 207 = .ok (.iaload, 1) := by decide +kernel
theorem dX5_ofHolder_208 : decode cX5_ofHolder 208 = .ok (.iload 7, 2) := by decide +kernel
theorem dX5_ofHolder_210 : decode cX5_ofHolder 210 = .ok (.if_icmp .ge 18, 3) := by decide +kernel
theorem dX5_ofHolder_213 : decode cX5_ofHolder 213 = .ok (.aload_n 0, 1) := by decide +kernel
theorem dX5_ofHolder_214 : decode cX5_ofHolder 214 = .ok (.getfield 7, 3) := by decide +kernel
theorem dX5_ofHolder_217 : decode cX5_ofHolder 217 = .ok (.iload 8, 2) := by decide +kernel
theorem dX5_ofHolder_219 : decode cX5_ofHolder 219 = .ok (.invokestatic 40, 3) := by decide +kernel
theorem dX5_ofHolder_222 : decode cX5_ofHolder 222 = .ok (.iconst 2, 1) := by decide +kernel
theorem dX5_ofHolder_223 : decode cX5_ofHolder 223 = .ok (.iadd, 1) := by decide +kernel
theorem dX5_ofHolder_224 : decode cX5_ofHolder 224 = .ok (.iaload, 1) := by decide +kernel
theorem dX5_ofHolder_225 : decode cX5_ofHolder 225 = .ok (.goto 5, 3) := by decide +kernel
theorem dX5_ofHolder_228 : decode cX5_ofHolder 228 = .ok (.iload 7, 2) := by decide +kernel
theorem dX5_ofHolder_230 : decode cX5_ofHolder 230 = .ok (.istore 7, 2) := by decide +kernel
theorem dX5_ofHolder_232 : decode cX5_ofHolder 232 = .ok (.iinc 8 (-1), 3) := by decide +kernel
theorem dX5_ofHolder_235 : decode cX5_ofHolder 235 = .ok (.goto (-171), 3) := by decide +kernel
theorem dX5_ofHolder_238 : decode cX5_ofHolder 238 = .ok (.iload_n 2, 1) := by decide +kernel
theorem dX5_ofHolder_239 : decode cX5_ofHolder 239 = .ok (.ifCond .ne 7, 3) := by decide +kernel
theorem dX5_ofHolder_242 : decode cX5_ofHolder 242 = .ok (.iload_n 3, 1) := by decide +kernel
theorem dX5_ofHolder_243 : decode cX5_ofHolder 243 = .ok (.goto 35, 3) := by decide +kernel
theorem dX5_ofHolder_246 : decode cX5_ofHolder 246 = .ok (.iload_n 2, 1) := by decide +kernel
theorem dX5_ofHolder_247 : decode cX5_ofHolder 247 = .ok (.iconst 1, 1) := by decide +kernel
theorem dX5_ofHolder_248 : decode cX5_ofHolder 248 = .ok (.if_icmp .ne 8, 3) := by decide +kernel
theorem dX5_ofHolder_251 : decode cX5_ofHolder 251 = .ok (.iload 4, 2) := by decide +kernel
theorem dX5_ofHolder_253 : decode cX5_ofHolder 253 = .ok (.goto 25, 3) := by decide +kernel
theorem dX5_ofHolder_256 : decode cX5_ofHolder 256 = .ok (.iload_n 2, 1) := by decide +kernel
theorem dX5_ofHolder_257 : decode cX5_ofHolder 257 = .ok (.iconst 2, 1) := by decide +kernel
theorem dX5_ofHolder_258 : decode cX5_ofHolder 258 = .ok (.if_icmp .ne 8, 3) := by decide +kernel
theorem dX5_ofHolder_261 : decode cX5_ofHolder 261 = .ok (.iload 5, 2) := by decide +kernel
theorem dX5_ofHolder_263 : decode cX5_ofHolder 263 = .ok (.goto 15, 3) := by decide +kernel
theorem dX5_ofHolder_266 : decode cX5_ofHolder 266 = .ok (.iload_n 2, 1) := by decide +kernel
theorem dX5_ofHolder_267 : decode cX5_ofHolder 267 = .ok (.iconst 3, 1) := by decide +kernel
theorem dX5_ofHolder_268 : decode cX5_ofHolder 268 = .ok (.if_icmp .ne 8, 3) := by decide +kernel
theorem dX5_ofHolder_271 : decode cX5_ofHolder 271 = .ok (.iload 6, 2) := by decide +kernel
theorem dX5_ofHolder_273 : decode cX5_ofHolder 273 = .ok (.goto 5, 3) := by decide +kernel
theorem dX5_ofHolder_276 : decode cX5_ofHolder 276 = .ok (.iload 7, 2) := by decide +kernel
theorem dX5_ofHolder_278 : decode cX5_ofHolder 278 = .ok (.ireturn, 1) := by decide +kernel
theorem dX5_holder_0 : decode cX5_holder 0 = .ok (.aload_n 0, 1) := by decide +kernel
theorem dX5_holder_1 : decode cX5_holder 1 = .ok (.iconst 0, 1) := by decide +kernel
theorem dX5_holder_2 : decode cX5_holder 2 = .ok (.putfield 25, 3) := by decide +kernel
theorem dX5_holder_5 : decode cX5_holder 5 = .ok (.iload_n 1, 1) := by decide +kernel
theorem dX5_holder_6 : decode cX5_holder 6 = .ok (.invokestatic 73, 3) := by decide +kernel
theorem dX5_holder_9 : decode cX5_holder 9 = .ok (.ifCond .ne 9, 3) := by decide +kernel
theorem dX5_holder_12 : decode cX5_holder 12 = .ok (.aload_n 0, 1) := by decide +kernel
theorem dX5_holder_13 : decode cX5_holder 13 = .ok (.iconst 1, 1) := by decide +kernel
theorem dX5_holder_14 : decode cX5_holder 14 = .ok (.invokevirtual 36, 3) := by decide +kernel
theorem dX5_holder_17 : decode cX5_holder 17 = .ok (.ireturn, 1) := by decide +kernel
theorem dX5_holder_18 : decode cX5_holder 18 = .ok (.iload_n 2, 1) := by decide +kernel
theorem dX5_holder_19 : decode cX5_holder 19 = .ok (.iconst 0, 1) := by decide +kernel
theorem dX5_holder_20 : decode cX5_holder 20 = .ok (.bipush 7, 2) := by decide +kernel
theorem dX5_holder_22 : decode cX5_holder 22 = .ok (.invokestatic 29, 3) := by decide +kernel
theorem dX5_holder_25 : decode cX5_holder 25 = .ok (.ifCond .eq 12, 3) := by decide +kernel
theorem dX5_holder_28 : decode cX5_holder 28 = .ok (.aload_n 0, 1) := by decide +kernel
theorem dX5_holder_29 : decode cX5_holder 29 = .ok (.iload_n 1, 1) := by decide +kernel
theorem dX5_holder_30 : decode cX5_holder 30 = .ok (.iload_n 2, 1) := by decide +kernel
theorem dX5_holder_31 : decode cX5_holder 31 = .ok (.invokevirtual 168, 3) := by decide +kernel
theorem dX5_holder_34 : decode cX5_holder 34 = .ok (.goto 8, 3) := by decide +kernel
theorem dX5_holder_37 : decode cX5_holder 37 = .ok (.aload_n 0, 1) := by decide +kernel
theorem dX5_holder_38 : decode cX5_holder 38 = .ok (.iconst 2, 1) := by decide +kernel
theorem dX5_holder_39 : decode cX5_holder 39 = .ok (.invokevirtual 36, 3) := by decide +kernel
theorem dX5_holder_42 : decode cX5_holder 42 = .ok (.ireturn, 1) := by decide +kernel
theorem dX5_spans_0 : decode cX5_spans 0 = .ok (.iconst 0, 1) := by decide +kernel
theorem dX5_spans_1 : decode cX5_spans 1 = .ok (.istore_n 3, 1) := by decide +kernel
theorem dX5_spans_2 : decode cX5_spans 2 = .ok (.iconst 0, 1) := by decide +kernel
theorem dX5_spans_3 : decode cX5_spans 3 = .ok (.istore 4, 2) := by decide +kernel
theorem dX5_spans_5 : decode cX5_spans 5 = .ok (.iconst 0, 1) := by decide +kernel
theorem dX5_spans_6 : decode cX5_spans 6 = .ok (.istore 5, 2) := by decide +kernel
theorem dX5_spans_8 : decode cX5_spans 8 = .ok (.aload_n 0, 1) := by decide +kernel
theorem dX5_spans_9 : decode cX5_spans 9 = .ok (.getfield 7, 3) := by decide +kernel
theorem dX5_spans_12 : decode cX5_spans 12 = .ok (.iconst 4, 1) := by decide +kernel
theorem dX5_spans_13 : decode cX5_spans 13 = .ok (.iaload, 1) := by decide +kernel
theorem dX5_spans_14 : decode cX5_spans 14 = .ok (.istore 6, 2) := by decide +kernel
theorem dX5_spans_16 : decode cX5_spans 16 = .ok (.iconst 0, 1) := by decide +kernel
theorem dX5_spans_17 : decode cX5_spans 17 = .ok (.istore 7, 2) := by decide +kernel
theorem dX5_spans_19 : decode cX5_spans 19 = .ok (.iload 7, 2) := by decide +kernel
theorem dX5_spans_21 : decode cX5_spans 21 = .ok (.iload 6, 2) := by decide +kernel
theorem dX5_spans_23 : decode cX5_spans 23 = .ok (.if_icmp .gt 97, 3) := by decide +kernel
theorem dX5_spans_26 : decode cX5_spans 26 = .ok (.iload 7, 2) := by decide +kernel
theorem dX5_spans_28 : decode cX5_spans 28 = .ok (.iload 6, 2) := by decide +kernel
theorem dX5_spans_30 : decode cX5_spans 30 = .ok (.if_icmp .ge 21, 3) := by decide +kernel
theorem dX5_spans_33 : decode cX5_spans 33 = .ok (.aload_n 0, 1) := by decide +kernel
theorem dX5_spans_34 : decode cX5_spans 34 = .ok (.getfield 7, 3) := by decide +kernel
theorem dX5_spans_37 : decode cX5_spans 37 = .ok (.iload 7, 2) := by decide +kernel
theorem dX5_spans_39 : decode cX5_spans 39 = .ok (.invokestatic 43, 3) := by decide +kernel
theorem dX5_spans_42 : decode cX5_spans 42 = .ok (.ifCond .eq 9, 3) := by decide +kernel
theorem dX5_spans_45 : decode cX5_spans 45 = .ok (.iinc 5 1, 3) := by decide +kernel
theorem dX5_spans_48 : decode cX5_spans 48 = .ok (.goto 66, 3) := by decide +kernel
theorem dX5_spans_51 : decode cX5_spans 51 = .ok (.iload 5, 2) := by decide +kernel
theorem dX5_spans_53 : decode cX5_spans 53 = .ok (.ifCond .le 29, 3) := by decide +kernel
theorem dX5_spans_56 : decode cX5_spans 56 = .ok (.iload_n 3, 1) := by decide +kernel
theorem dX5_spans_57 : decode cX5_spans 57 = .ok (.iload_n 1, 1) := by decide +kernel
theorem dX5_spans_58 : decode cX5_spans 58 = .ok (.if_icmp .ne 24, 3) := by decide +kernel
theorem dX5_spans_61 : decode cX5_spans 61 = .ok (.iload_n 2, 1) := by decide +kernel
theorem dX5_spans_62 : decode cX5_spans 62 = .ok (.iconst 1, 1) := by decide +kernel
theorem dX5_spans_63 : decode cX5_spans 63 = .ok (.if_icmp .le 19, 3) := by decide +kernel
theorem dX5_spans_66 : decode cX5_spans 66 = .ok (.iload_n 2, 1) := by decide +kernel
theorem dX5_spans_67 : decode cX5_spans 67 = .ok (.iconst 2, 1) := by decide +kernel
theorem dX5_spans_68 : decode cX5_spans 68 = .ok (.if_icmp .ne 11, 3) := by decide +kernel
theorem dX5_spans_71 : decode cX5_spans 71 = .ok (.iload 7, 2) := by decide +kernel
theorem dX5_spans_73 : decode cX5_spans 73 = .ok (.iload 5, 2) := by decide +kernel
theorem dX5_spans_75 : decode cX5_spans 75 = .ok (.isub, 1) := by decide +kernel
theorem dX5_spans_76 : decode cX5_spans 76 = .ok (.goto 5, 3) := by decide +kernel
theorem dX5_spans_79 : decode cX5_spans 79 = .ok (.iload 5, 2) := by decide +kernel
theorem dX5_spans_81 : decode cX5_spans 81 = .ok (.ireturn, 1) := by decide +kernel
theorem dX5_spans_82 : decode cX5_spans 82 = .ok (.iload_n 3, 1) := by decide +kernel
theorem dX5_spans_83 : decode cX5_spans 83 = .ok (.iload 5, 2) := by decide +kernel
theorem dX5_spans_85 : decode cX5_spans 85 = .ok (.ifCond .le 7, 3) := by decide +kernel
theorem dX5_spans_88 : decode cX5_spans 88 = .ok (.iconst 1, 1) := by decide +kernel
theorem dX5_spans_89 : decode cX5_spans 89 = .ok (.goto 4, 3) := by decide +kernel
theorem dX5_spans_92 : decode cX5_spans 92 = .ok (.iconst 0, 1) := by decide +kernel
theorem dX5_spans_93 : decode cX5_spans 93 = .ok (.iadd, 1) := by decide +kernel
theorem dX5_spans_94 : decode cX5_spans 94 = .ok (.istore_n 3, 1) := by decide +kernel
theorem dX5_spans_95 : decode cX5_spans 95 = .ok (.iload 5, 2) := by decide +kernel
theorem dX5_spans_97 : decode cX5_spans 97 = .ok (.iload 4, 2) := by decide +kernel
theorem dX5_spans_99 : decode cX5_spans 99 = .ok (.if_icmp .le 8, 3) := by decide +kernel
theorem dX5_spans_102 : decode cX5_spans 102 = .ok (.iload 5, 2) := by decide +kernel
theorem dX5_spans_104 : decode cX5_spans 104 = .ok (.goto 5, 3) := by decide +kernel
theorem dX5_spans_107 : decode cX5_spans 107 = .ok (.iload 4, 2) := by decide +kernel
theorem dX5_spans_109 : decode cX5_spans 109 = .ok (.istore 4, 2) := by decide +kernel
theorem dX5_spans_111 : decode cX5_spans 111 = .ok (.iconst 0, 1) := by decide +kernel
theorem dX5_spans_112 : decode cX5_spans 112 = .ok (.istore 5, 2) := by decide +kernel
theorem dX5_spans_114 : decode cX5_spans 114 = .ok (.iinc 7 1, 3) := by decide +kernel
theorem dX5_spans_117 : decode cX5_spans 117 = .ok (.goto (-98), 3) := by decide +kernel
theorem dX5_spans_120 : decode cX5_spans 120 = .ok (.iload_n 2, 1) := by decide +kernel
theorem dX5_spans_121 : decode cX5_spans 121 = .ok (.ifCond .ne 7, 3) := by decide +kernel
theorem dX5_spans_124 : decode cX5_spans 124 = .ok (.iload_n 3, 1) := by decide +kernel
theorem dX5_spans_125 : decode cX5_spans 125 = .ok (.goto 14, 3) := by decide +kernel
theorem dX5_spans_128 : decode cX5_spans 128 = .ok (.iload_n 2, 1) := by decide +kernel
theorem dX5_spans_129 : decode cX5_spans 129 = .ok (.iconst 1, 1) := by decide +kernel
theorem dX5_spans_130 : decode cX5_spans 130 = .ok (.if_icmp .ne 8, 3) := by decide +kernel
theorem dX5_spans_133 : decode cX5_spans 133 = .ok (.iload 4, 2) := by decide +kernel
theorem dX5_spans_135 : decode cX5_spans 135 = .ok (.goto 4, 3) := by decide +kernel
theorem dX5_spans_138 : decode cX5_spans 138 = .ok (.iconst (-1), 1) := by decide +kernel
theorem dX5_spans_139 : decode cX5_spans 139 = .ok (.ireturn, 1) := by decide +kernel
theorem dX5_span_0 : decode cX5_span 0 = .ok (.aload_n 0, 1) := by decide +kernel
theorem dX5_span_1 : decode cX5_span 1 = .ok (.iconst 0, 1) := by decide +kernel
theorem dX5_span_2 : decode cX5_span 2 = .ok (.putfield 25, 3) := by decide +kernel
theorem dX5_span_5 : decode cX5_span 5 = .ok (.iload_n 1, 1) := by decide +kernel
theorem dX5_span_6 : decode cX5_span 6 = .ok (.ifCond .lt 12, 3) := by decide +kernel
theorem dX5_span_9 : decode cX5_span 9 = .ok (.iload_n 2, 1) := by decide +kernel
theorem dX5_span_10 : decode cX5_span 10 = .ok (.iconst 0, 1) := by decide +kernel
theorem dX5_span_11 : decode cX5_span 11 = .ok (.iconst 1, 1) := by decide +kernel
theorem dX5_span_12 : decode cX5_span 12 = .ok (.invokestatic 29, 3) := by decide +kernel
theorem dX5_span_15 : decode cX5_span 15 = .ok (.ifCond .ne 9, 3) := by decide +kernel
theorem dX5_span_18 : decode cX5_span 18 = .ok (.aload_n 0, 1) := by decide +kernel
theorem dX5_span_19 : decode cX5_span 19 = .ok (.iconst 1, 1) := by decide +kernel
theorem dX5_span_20 : decode cX5_span 20 = .ok (.invokevirtual 36, 3) := by decide +kernel
theorem dX5_span_23 : decode cX5_span 23 = .ok (.ireturn, 1) := by decide +kernel
theorem dX5_span_24 : decode cX5_span 24 = .ok (.aload_n 0, 1) := by decide +kernel
theorem dX5_span_25 : decode cX5_span 25 = .ok (.iload_n 1, 1) := by decide +kernel
theorem dX5_span_26 : decode cX5_span 26 = .ok (.iload_n 2, 1) := by decide +kernel
theorem dX5_span_27 : decode cX5_span 27 = .ok (.iconst 2, 1) := by decide +kernel
theorem dX5_span_28 : decode cX5_span 28 = .ok (.iadd, 1) := by decide +kernel
theorem dX5_span_29 : decode cX5_span 29 = .ok (.invokevirtual 171, 3) := by decide +kernel
theorem dX5_span_32 : decode cX5_span 32 = .ok (.ireturn, 1) := by decide +kernel
theorem dX5_sumOf_0 : decode cX5_sumOf 0 = .ok (.iconst 0, 1) := by decide +kernel
theorem dX5_sumOf_1 : decode cX5_sumOf 1 = .ok (.istore 4, 2) := by decide +kernel
theorem dX5_sumOf_3 : decode cX5_sumOf 3 = .ok (.iconst 0, 1) := by decide +kernel
theorem dX5_sumOf_4 : decode cX5_sumOf 4 = .ok (.istore 5, 2) := by decide +kernel
theorem dX5_sumOf_6 : decode cX5_sumOf 6 = .ok (.iload 5, 2) := by decide +kernel
theorem dX5_sumOf_8 : decode cX5_sumOf 8 = .ok (.iload_n 3, 1) := by decide +kernel
theorem dX5_sumOf_9 : decode cX5_sumOf 9 = .ok (.if_icmp .ge 25, 3) := by decide +kernel
theorem dX5_sumOf_12 : decode cX5_sumOf 12 = .ok (.iload 4, 2) := by decide +kernel
theorem dX5_sumOf_14 : decode cX5_sumOf 14 = .ok (.aload_n 0, 1) := by decide +kernel
theorem dX5_sumOf_15 : decode cX5_sumOf 15 = .ok (.getfield 7, 3) := by decide +kernel
theorem dX5_sumOf_18 : decode cX5_sumOf 18 = .ok (.iload_n 1, 1) := by decide +kernel
theorem dX5_sumOf_19 : decode cX5_sumOf 19 = .ok (.iload_n 2, 1) := by decide +kernel
theorem dX5_sumOf_20 : decode cX5_sumOf 20 = .ok (.iload 5, 2) := by decide +kernel
theorem dX5_sumOf_22 : decode cX5_sumOf 22 = .ok (.imul, 1) := by decide +kernel
theorem dX5_sumOf_23 : decode cX5_sumOf 23 = .ok (.iadd, 1) := by decide +kernel
theorem dX5_sumOf_24 : decode cX5_sumOf 24 = .ok (.iaload, 1) := by decide +kernel
theorem dX5_sumOf_25 : decode cX5_sumOf 25 = .ok (.iadd, 1) := by decide +kernel
theorem dX5_sumOf_26 : decode cX5_sumOf 26 = .ok (.istore 4, 2) := by decide +kernel
theorem dX5_sumOf_28 : decode cX5_sumOf 28 = .ok (.iinc 5 1, 3) := by decide +kernel
theorem dX5_sumOf_31 : decode cX5_sumOf 31 = .ok (.goto (-25), 3) := by decide +kernel
theorem dX5_sumOf_34 : decode cX5_sumOf 34 = .ok (.iload 4, 2) := by decide +kernel
theorem dX5_sumOf_36 : decode cX5_sumOf 36 = .ok (.ireturn, 1) := by decide +kernel
theorem dX5_counted_0 : decode cX5_counted 0 = .ok (.iload_n 1, 1) := by decide +kernel
theorem dX5_counted_1 : decode cX5_counted 1 = .ok (.iconst 4, 1) := by decide +kernel
theorem dX5_counted_2 : decode cX5_counted 2 = .ok (.if_icmp .ge 27, 3) := by decide +kernel
theorem dX5_counted_5 : decode cX5_counted 5 = .ok (.iload_n 1, 1) := by decide +kernel
theorem dX5_counted_6 : decode cX5_counted 6 = .ok (.ifCond .ne 12, 3) := by decide +kernel
theorem dX5_counted_9 : decode cX5_counted 9 = .ok (.aload_n 0, 1) := by decide +kernel
theorem dX5_counted_10 : decode cX5_counted 10 = .ok (.getfield 7, 3) := by decide +kernel
theorem dX5_counted_13 : decode cX5_counted 13 = .ok (.iconst 0, 1) := by decide +kernel
theorem dX5_counted_14 : decode cX5_counted 14 = .ok (.iaload, 1) := by decide +kernel
theorem dX5_counted_15 : decode cX5_counted 15 = .ok (.goto 13, 3) := by decide +kernel
theorem dX5_counted_18 : decode cX5_counted 18 = .ok (.aload_n 0, 1) := by decide +kernel
theorem dX5_counted_19 : decode cX5_counted 19 = .ok (.getfield 7, 3) := by decide +kernel
theorem dX5_counted_22 : decode cX5_counted 22 = .ok (.iload_n 1, 1) := by decide +kernel
theorem dX5_counted_23 : decode cX5_counted 23 = .ok (.iconst 1, 1) := by decide +kernel
theorem dX5_counted_24 : decode cX5_counted 24 = .ok (.isub, 1) := by decide +kernel
theorem dX5_counted_25 : decode cX5_counted 25 = .ok (.invokestatic 174, 3) := by decide +kernel
theorem dX5_counted_28 : decode cX5_counted 28 = .ok (.ireturn, 1) := by decide +kernel
theorem dX5_counted_29 : decode cX5_counted 29 = .ok (.iload_n 1, 1) := by decide +kernel
theorem dX5_counted_30 : decode cX5_counted 30 = .ok (.iconst 4, 1) := by decide +kernel
theorem dX5_counted_31 : decode cX5_counted 31 = .ok (.if_icmp .ne 18, 3) := by decide +kernel
theorem dX5_counted_34 : decode cX5_counted 34 = .ok (.aload_n 0, 1) := by decide +kernel
theorem dX5_counted_35 : decode cX5_counted 35 = .ok (.bipush 37, 2) := by decide +kernel
theorem dX5_counted_37 : decode cX5_counted 37 = .ok (.bipush 12, 2) := by decide +kernel
theorem dX5_counted_39 : decode cX5_counted 39 = .ok (.aload_n 0, 1) := by decide +kernel
theorem dX5_counted_40 : decode cX5_counted 40 = .ok (.getfield 7, 3) := by decide +kernel
theorem dX5_counted_43 : decode cX5_counted 43 = .ok (.iconst 4, 1) := by decide +kernel
theorem dX5_counted_44 : decode cX5_counted 44 = .ok (.iaload, 1) := by decide +kernel
theorem dX5_counted_45 : decode cX5_counted 45 = .ok (.invokevirtual 177, 3) := by decide +kernel
theorem dX5_counted_48 : decode cX5_counted 48 = .ok (.ireturn, 1) := by decide +kernel
theorem dX5_counted_49 : decode cX5_counted 49 = .ok (.iload_n 1, 1) := by decide +kernel
theorem dX5_counted_50 : decode cX5_counted 50 = .ok (.bipush 9, 2) := by decide +kernel
theorem dX5_counted_52 : decode cX5_counted 52 = .ok (.if_icmp .ge 32, 3) := by decide +kernel
theorem dX5_counted_55 : decode cX5_counted 55 = .ok (.iload_n 1, 1) := by decide +kernel
theorem dX5_counted_56 : decode cX5_counted 56 = .ok (.iconst 5, 1) := by decide +kernel
theorem dX5_counted_57 : decode cX5_counted 57 = .ok (.if_icmp .ne 15, 3) := by decide +kernel
theorem dX5_counted_60 : decode cX5_counted 60 = .ok (.aload_n 0, 1) := by decide +kernel
theorem dX5_counted_61 : decode cX5_counted 61 = .ok (.bipush 8, 2) := by decide +kernel
theorem dX5_counted_63 : decode cX5_counted 63 = .ok (.iconst 1, 1) := by decide +kernel
theorem dX5_counted_64 : decode cX5_counted 64 = .ok (.bipush 8, 2) := by decide +kernel
theorem dX5_counted_66 : decode cX5_counted 66 = .ok (.invokevirtual 177, 3) := by decide +kernel
theorem dX5_counted_69 : decode cX5_counted 69 = .ok (.goto 14, 3) := by decide +kernel
theorem dX5_counted_72 : decode cX5_counted 72 = .ok (.aload_n 0, 1) := by decide +kernel
theorem dX5_counted_73 : decode cX5_counted 73 = .ok (.getfield 7, 3) := by decide +kernel
theorem dX5_counted_76 : decode cX5_counted 76 = .ok (.iconst 5, 1) := by decide +kernel
theorem dX5_counted_77 : decode cX5_counted 77 = .ok (.iload_n 1, 1) := by decide +kernel
theorem dX5_counted_78 : decode cX5_counted 78 = .ok (.iadd, 1) := by decide +kernel
theorem dX5_counted_79 : decode cX5_counted 79 = .ok (.bipush 6, 2) := by decide +kernel
theorem dX5_counted_81 : decode cX5_counted 81 = .ok (.isub, 1) := by decide +kernel
theorem dX5_counted_82 : decode cX5_counted 82 = .ok (.iaload, 1) := by decide +kernel
theorem dX5_counted_83 : decode cX5_counted 83 = .ok (.ireturn, 1) := by decide +kernel
theorem dX5_counted_84 : decode cX5_counted 84 = .ok (.iload_n 1, 1) := by decide +kernel
theorem dX5_counted_85 : decode cX5_counted 85 = .ok (.bipush 9, 2) := by decide +kernel
theorem dX5_counted_87 : decode cX5_counted 87 = .ok (.if_icmp .ne 15, 3) := by decide +kernel
theorem dX5_counted_90 : decode cX5_counted 90 = .ok (.aload_n 0, 1) := by decide +kernel
theorem dX5_counted_91 : decode cX5_counted 91 = .ok (.bipush 16, 2) := by decide +kernel
theorem dX5_counted_93 : decode cX5_counted 93 = .ok (.iconst 1, 1) := by decide +kernel
theorem dX5_counted_94 : decode cX5_counted 94 = .ok (.bipush 8, 2) := by decide +kernel
theorem dX5_counted_96 : decode cX5_counted 96 = .ok (.invokevirtual 177, 3) := by decide +kernel
theorem dX5_counted_99 : decode cX5_counted 99 = .ok (.goto 25, 3) := by decide +kernel
theorem dX5_counted_102 : decode cX5_counted 102 = .ok (.iload_n 1, 1) := by decide +kernel
theorem dX5_counted_103 : decode cX5_counted 103 = .ok (.bipush 12, 2) := by decide +kernel
theorem dX5_counted_105 : decode cX5_counted 105 = .ok (.if_icmp .ne 10, 3) := by decide +kernel
theorem dX5_counted_108 : decode cX5_counted 108 = .ok (.aload_n 0, 1) := by decide +kernel
theorem dX5_counted_109 : decode cX5_counted 109 = .ok (.getfield 33, 3) := by decide +kernel
theorem dX5_counted_112 : decode cX5_counted 112 = .ok (.goto 12, 3) := by decide +kernel
theorem dX5_counted_115 : decode cX5_counted 115 = .ok (.aload_n 0, 1) := by decide +kernel
theorem dX5_counted_116 : decode cX5_counted 116 = .ok (.iconst 0, 1) := by decide +kernel
theorem dX5_counted_117 : decode cX5_counted 117 = .ok (.iload_n 1, 1) := by decide +kernel
theorem dX5_counted_118 : decode cX5_counted 118 = .ok (.bipush 10, 2) := by decide +kernel
theorem dX5_counted_120 : decode cX5_counted 120 = .ok (.isub, 1) := by decide +kernel
theorem dX5_counted_121 : decode cX5_counted 121 = .ok (.invokevirtual 171, 3) := by decide +kernel
theorem dX5_counted_124 : decode cX5_counted 124 = .ok (.ireturn, 1) := by decide +kernel
theorem dX5_count_0 : decode cX5_count 0 = .ok (.aload_n 0, 1) := by decide +kernel
theorem dX5_count_1 : decode cX5_count 1 = .ok (.iconst 0, 1) := by decide +kernel
theorem dX5_count_2 : decode cX5_count 2 = .ok (.putfield 25, 3) := by decide +kernel
theorem dX5_count_5 : decode cX5_count 5 = .ok (.iload_n 1, 1) := by decide +kernel
theorem dX5_count_6 : decode cX5_count 6 = .ok (.iconst 0, 1) := by decide +kernel
theorem dX5_count_7 : decode cX5_count 7 = .ok (.bipush 12, 2) := by decide +kernel
theorem dX5_count_9 : decode cX5_count 9 = .ok (.invokestatic 29, 3) := by decide +kernel
theorem dX5_count_12 : decode cX5_count 12 = .ok (.ifCond .eq 11, 3) := by decide +kernel
theorem dX5_count_15 : decode cX5_count 15 = .ok (.aload_n 0, 1) := by decide +kernel
theorem dX5_count_16 : decode cX5_count 16 = .ok (.iload_n 1, 1) := by decide +kernel
theorem dX5_count_17 : decode cX5_count 17 = .ok (.invokevirtual 180, 3) := by decide +kernel
theorem dX5_count_20 : decode cX5_count 20 = .ok (.goto 8, 3) := by decide +kernel
theorem dX5_count_23 : decode cX5_count 23 = .ok (.aload_n 0, 1) := by decide +kernel
theorem dX5_count_24 : decode cX5_count 24 = .ok (.iconst 1, 1) := by decide +kernel
theorem dX5_count_25 : decode cX5_count 25 = .ok (.invokevirtual 36, 3) := by decide +kernel
theorem dX5_count_28 : decode cX5_count 28 = .ok (.ireturn, 1) := by decide +kernel
theorem dX5_setting_0 : decode cX5_setting 0 = .ok (.aload_n 0, 1) := by decide +kernel
theorem dX5_setting_1 : decode cX5_setting 1 = .ok (.iconst 0, 1) := by decide +kernel
theorem dX5_setting_2 : decode cX5_setting 2 = .ok (.putfield 25, 3) := by decide +kernel
theorem dX5_setting_5 : decode cX5_setting 5 = .ok (.iload_n 1, 1) := by decide +kernel
theorem dX5_setting_6 : decode cX5_setting 6 = .ok (.iconst 0, 1) := by decide +kernel
theorem dX5_setting_7 : decode cX5_setting 7 = .ok (.iconst 3, 1) := by decide +kernel
theorem dX5_setting_8 : decode cX5_setting 8 = .ok (.invokestatic 29, 3) := by decide +kernel
theorem dX5_setting_11 : decode cX5_setting 11 = .ok (.ifCond .eq 14, 3) := by decide +kernel
theorem dX5_setting_14 : decode cX5_setting 14 = .ok (.aload_n 0, 1) := by decide +kernel
theorem dX5_setting_15 : decode cX5_setting 15 = .ok (.getfield 7, 3) := by decide +kernel
theorem dX5_setting_18 : decode cX5_setting 18 = .ok (.iconst 1, 1) := by decide +kernel
theorem dX5_setting_19 : decode cX5_setting 19 = .ok (.iload_n 1, 1) := by decide +kernel
theorem dX5_setting_20 : decode cX5_setting 20 = .ok (.iadd, 1) := by decide +kernel
theorem dX5_setting_21 : decode cX5_setting 21 = .ok (.iaload, 1) := by decide +kernel
theorem dX5_setting_22 : decode cX5_setting 22 = .ok (.goto 8, 3) := by decide +kernel
theorem dX5_setting_25 : decode cX5_setting 25 = .ok (.aload_n 0, 1) := by decide +kernel
theorem dX5_setting_26 : decode cX5_setting 26 = .ok (.iconst 1, 1) := by decide +kernel
theorem dX5_setting_27 : decode cX5_setting 27 = .ok (.invokevirtual 36, 3) := by decide +kernel
theorem dX5_setting_30 : decode cX5_setting 30 = .ok (.ireturn, 1) := by decide +kernel
theorem dX5_whoThen_0 : decode cX5_whoThen 0 = .ok (.aload_n 0, 1) := by decide +kernel
theorem dX5_whoThen_1 : decode cX5_whoThen 1 = .ok (.invokevirtual 183, 3) := by decide +kernel
theorem dX5_whoThen_4 : decode cX5_whoThen 4 = .ok (.iconst 0, 1) := by decide +kernel
theorem dX5_whoThen_5 : decode cX5_whoThen 5 = .ok (.istore_n 3, 1) := by decide +kernel
theorem dX5_whoThen_6 : decode cX5_whoThen 6 = .ok (.iload_n 3, 1) := by decide +kernel
theorem dX5_whoThen_7 : decode cX5_whoThen 7 = .ok (.iload_n 2, 1) := by decide +kernel
theorem dX5_whoThen_8 : decode cX5_whoThen 8 = .ok (.if_icmp .ge 17, 3) := by decide +kernel
theorem dX5_whoThen_11 : decode cX5_whoThen 11 = .ok (.aload_n 0, 1) := by decide +kernel
theorem dX5_whoThen_12 : decode cX5_whoThen 12 = .ok (.getfield 13, 3) := by decide +kernel
theorem dX5_whoThen_15 : decode cX5_whoThen 15 = .ok (.invokestatic 111, 3) := by decide +kernel
theorem dX5_whoThen_18 : decode cX5_whoThen 18 = .ok (.pop, 1) := by decide +kernel
theorem dX5_whoThen_19 : decode cX5_whoThen 19 = .ok (.iinc 3 1, 3) := by decide +kernel
theorem dX5_whoThen_22 : decode cX5_whoThen 22 = .ok (.goto (-16), 3) := by decide +kernel
theorem dX5_whoThen_25 : decode cX5_whoThen 25 = .ok (.aload_n 0, 1) := by decide +kernel
theorem dX5_whoThen_26 : decode cX5_whoThen 26 = .ok (.getfield 13, 3) := by decide +kernel
