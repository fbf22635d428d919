theorem dX3_dropOldest_8 : decode cX3_dropOldest 8 = .ok (.istore_n 2, 1) := by decide +kernel
theorem dX3_dropOldest_9 : decode cX3_dropOldest 9 = .ok (.iload_n 2, 1) := by decide +kernel
theorem dX3_dropOldest_10 : decode cX3_dropOldest 10 = .ok (.bipush 6, 2) := by decide +kernel
theorem dX3_dropOldest_12 : decode cX3_dropOldest 12 = .ok (.if_icmp .ge 23, 3) := by decide +kernel
theorem dX3_dropOldest_15 : decode cX3_dropOldest 15 = .ok (.aload_n 0, 1) := by decide +kernel
theorem dX3_dropOldest_16 : decode cX3_dropOldest 16 = .ok (.getfield 11, 3) := by decide +kernel
theorem dX3_dropOldest_19 : decode cX3_dropOldest 19 = .ok (.iload_n 2, 1) := by decide +kernel
theorem dX3_dropOldest_20 : decode cX3_dropOldest 20 = .ok (.iconst 1, 1) := by decide +kernel
theorem dX3_dropOldest_21 : decode cX3_dropOldest 21 = .ok (.isub, 1) := by decide +kernel
theorem dX3_dropOldest_22 : decode cX3_dropOldest 22 = .ok (.aload_n 0, 1) := by decide +kernel
theorem dX3_dropOldest_23 : decode cX3_dropOldest 23 = .ok (.getfield 11, 3) := by decide +kernel
theorem dX3_dropOldest_26 : decode cX3_dropOldest 26 = .ok (.iload_n 2, 1) := by decide +kernel
theorem dX3_dropOldest_27 : decode cX3_dropOldest 27 = .ok (.aaload, 1) := by decide +kernel
theorem dX3_dropOldest_28 : decode cX3_dropOldest 28 = .ok (.aastore, 1) := by decide +kernel
theorem dX3_dropOldest_29 : decode cX3_dropOldest 29 = .ok (.iinc 2 1, 3) := by decide +kernel
theorem dX3_dropOldest_32 : decode cX3_dropOldest 32 = .ok (.goto (-23), 3) := by decide +kernel
theorem dX3_dropOldest_35 : decode cX3_dropOldest 35 = .ok (.aload_n 0, 1) := by decide +kernel
theorem dX3_dropOldest_36 : decode cX3_dropOldest 36 = .ok (.getfield 11, 3) := by decide +kernel
theorem dX3_dropOldest_39 : decode cX3_dropOldest 39 = .ok (.iconst 5, 1) := by decide +kernel
theorem dX3_dropOldest_40 : decode cX3_dropOldest 40 = .ok (.aload_n 1, 1) := by decide +kernel
theorem dX3_dropOldest_41 : decode cX3_dropOldest 41 = .ok (.aastore, 1) := by decide +kernel
theorem dX3_dropOldest_42 : decode cX3_dropOldest 42 = .ok (.aload_n 0, 1) := by decide +kernel
theorem dX3_dropOldest_43 : decode cX3_dropOldest 43 = .ok (.dup, 1) := by decide +kernel
theorem dX3_dropOldest_44 : decode cX3_dropOldest 44 = .ok (.getfield 18, 3) := by decide +kernel
theorem dX3_dropOldest_47 : decode cX3_dropOldest 47 = .ok (.iconst 1, 1) := by decide +kernel
theorem dX3_dropOldest_48 : decode cX3_dropOldest 48 = .ok (.isub, 1) := by decide +kernel
theorem dX3_dropOldest_49 : decode cX3_dropOldest 49 = .ok (.putfield 18, 3) := by decide +kernel
theorem dX3_dropOldest_52 : decode cX3_dropOldest 52 = .ok (.return_, 1) := by decide +kernel
theorem dX4_init_0 : decode cX4_init 0 = .ok (.aload_n 0, 1) := by decide +kernel
theorem dX4_init_1 : decode cX4_init 1 = .ok (.invokespecial 1, 3) := by decide +kernel
theorem dX4_init_4 : decode cX4_init 4 = .ok (.aload_n 0, 1) := by decide +kernel
theorem dX4_init_5 : decode cX4_init 5 = .ok (.new 7, 3) := by decide +kernel
theorem dX4_init_8 : decode cX4_init 8 = .ok (.dup, 1) := by decide +kernel
theorem dX4_init_9 : decode cX4_init 9 = .ok (.invokespecial 9, 3) := by decide +kernel
theorem dX4_init_12 : decode cX4_init 12 = .ok (.putfield 10, 3) := by decide +kernel
theorem dX4_init_15 : decode cX4_init 15 = .ok (.aload_n 0, 1) := by decide +kernel
theorem dX4_init_16 : decode cX4_init 16 = .ok (.new 7, 3) := by decide +kernel
theorem dX4_init_19 : decode cX4_init 19 = .ok (.dup, 1) := by decide +kernel
theorem dX4_init_20 : decode cX4_init 20 = .ok (.invokespecial 9, 3) := by decide +kernel
theorem dX4_init_23 : decode cX4_init 23 = .ok (.putfield 16, 3) := by decide +kernel
theorem dX4_init_26 : decode cX4_init 26 = .ok (.aload_n 0, 1) := by decide +kernel
theorem dX4_init_27 : decode cX4_init 27 = .ok (.new 19, 3) := by decide +kernel
theorem dX4_init_30 : decode cX4_init 30 = .ok (.dup, 1) := by decide +kernel
theorem dX4_init_31 : decode cX4_init 31 = .ok (.invokespecial 21, 3) := by decide +kernel
theorem dX4_init_34 : decode cX4_init 34 = .ok (.putfield 22, 3) := by decide +kernel
theorem dX4_init_37 : decode cX4_init 37 = .ok (.aload_n 0, 1) := by decide +kernel
theorem dX4_init_38 : decode cX4_init 38 = .ok (.new 26, 3) := by decide +kernel
theorem dX4_init_41 : decode cX4_init 41 = .ok (.dup, 1) := by decide +kernel
theorem dX4_init_42 : decode cX4_init 42 = .ok (.invokespecial 28, 3) := by decide +kernel
theorem dX4_init_45 : decode cX4_init 45 = .ok (.putfield 29, 3) := by decide +kernel
theorem dX4_init_48 : decode cX4_init 48 = .ok (.return_, 1) := by decide +kernel
theorem dX4_take_0 : decode cX4_take 0 = .ok (.aload_n 0, 1) := by decide +kernel
theorem dX4_take_1 : decode cX4_take 1 = .ok (.iload_n 1, 1) := by decide +kernel
theorem dX4_take_2 : decode cX4_take 2 = .ok (.iconst 1, 1) := by decide +kernel
theorem dX4_take_3 : decode cX4_take 3 = .ok (.iload_n 2, 1) := by decide +kernel
theorem dX4_take_4 : decode cX4_take 4 = .ok (.invokevirtual 33, 3) := by decide +kernel
theorem dX4_take_7 : decode cX4_take 7 = .ok (.ireturn, 1) := by decide +kernel
theorem dX4_takeSpan_0 : decode cX4_takeSpan 0 = .ok (.aload_n 0, 1) := by decide +kernel
theorem dX4_takeSpan_1 : decode cX4_takeSpan 1 = .ok (.iload_n 1, 1) := by decide +kernel
theorem dX4_takeSpan_2 : decode cX4_takeSpan 2 = .ok (.iload_n 2, 1) := by decide +kernel
theorem dX4_takeSpan_3 : decode cX4_takeSpan 3 = .ok (.iload_n 3, 1) := by decide +kernel
theorem dX4_takeSpan_4 : decode cX4_takeSpan 4 = .ok (.invokevirtual 33, 3) := by decide +kernel
theorem dX4_takeSpan_7 : decode cX4_takeSpan 7 = .ok (.ireturn, 1) := by decide +kernel
theorem dX4_wish_0 : decode cX4_wish 0 = .ok (.iload_n 1, 1) := by decide +kernel
theorem dX4_wish_1 : decode cX4_wish 1 = .ok (.invokestatic 37, 3) := by decide +kernel
theorem dX4_wish_4 : decode cX4_wish 4 = .ok (.aload_n 0, 1) := by decide +kernel
theorem dX4_wish_5 : decode cX4_wish 5 = .ok (.iload_n 2, 1) := by decide +kernel
theorem dX4_wish_6 : decode cX4_wish 6 = .ok (.invokevirtual 41, 3) := by decide +kernel
theorem dX4_wish_9 : decode cX4_wish 9 = .ok (.iload_n 3, 1) := by decide +kernel
theorem dX4_wish_10 : decode cX4_wish 10 = .ok (.iconst 1, 1) := by decide +kernel
theorem dX4_wish_11 : decode cX4_wish 11 = .ok (.sipush 999, 3) := by decide +kernel
theorem dX4_wish_14 : decode cX4_wish 14 = .ok (.invokestatic 44, 3) := by decide +kernel
theorem dX4_wish_17 : decode cX4_wish 17 = .ok (.aload_n 0, 1) := by decide +kernel
theorem dX4_wish_18 : decode cX4_wish 18 = .ok (.getfield 10, 3) := by decide +kernel
theorem dX4_wish_21 : decode cX4_wish 21 = .ok (.iload_n 1, 1) := by decide +kernel
theorem dX4_wish_22 : decode cX4_wish 22 = .ok (.iload_n 2, 1) := by decide +kernel
theorem dX4_wish_23 : decode cX4_wish 23 = .ok (.invokevirtual 48, 3) := by decide +kernel
theorem dX4_wish_26 : decode cX4_wish 26 = .ok (.invokestatic 52, 3) := by decide +kernel
theorem dX4_wish_29 : decode cX4_wish 29 = .ok (.aload_n 0, 1) := by decide +kernel
theorem dX4_wish_30 : decode cX4_wish 30 = .ok (.getfield 22, 3) := by decide +kernel
theorem dX4_wish_33 : decode cX4_wish 33 = .ok (.aload_n 0, 1) := by decide +kernel
theorem dX4_wish_34 : decode cX4_wish 34 = .ok (.getfield 10, 3) := by decide +kernel
theorem dX4_wish_37 : decode cX4_wish 37 = .ok (.invokevirtual 56, 3) := by decide +kernel
theorem dX4_wish_40 : decode cX4_wish 40 = .ok (.aload_n 0, 1) := by decide +kernel
theorem dX4_wish_41 : decode cX4_wish 41 = .ok (.getfield 10, 3) := by decide +kernel
theorem dX4_wish_44 : decode cX4_wish 44 = .ok (.iload_n 1, 1) := by decide +kernel
theorem dX4_wish_45 : decode cX4_wish 45 = .ok (.iload_n 2, 1) := by decide +kernel
theorem dX4_wish_46 : decode cX4_wish 46 = .ok (.iload_n 3, 1) := by decide +kernel
theorem dX4_wish_47 : decode cX4_wish 47 = .ok (.invokevirtual 60, 3) := by decide +kernel
theorem dX4_wish_50 : decode cX4_wish 50 = .ok (.ireturn, 1) := by decide +kernel
theorem dX4_unwish_0 : decode cX4_unwish 0 = .ok (.iload_n 1, 1) := by decide +kernel
theorem dX4_unwish_1 : decode cX4_unwish 1 = .ok (.invokestatic 37, 3) := by decide +kernel
theorem dX4_unwish_4 : decode cX4_unwish 4 = .ok (.aload_n 0, 1) := by decide +kernel
theorem dX4_unwish_5 : decode cX4_unwish 5 = .ok (.iload_n 2, 1) := by decide +kernel
theorem dX4_unwish_6 : decode cX4_unwish 6 = .ok (.invokevirtual 41, 3) := by decide +kernel
theorem dX4_unwish_9 : decode cX4_unwish 9 = .ok (.aload_n 0, 1) := by decide +kernel
theorem dX4_unwish_10 : decode cX4_unwish 10 = .ok (.getfield 10, 3) := by decide +kernel
theorem dX4_unwish_13 : decode cX4_unwish 13 = .ok (.iload_n 1, 1) := by decide +kernel
theorem dX4_unwish_14 : decode cX4_unwish 14 = .ok (.iload_n 2, 1) := by decide +kernel
theorem dX4_unwish_15 : decode cX4_unwish 15 = .ok (.invokevirtual 63, 3) := by decide +kernel
theorem dX4_unwish_18 : decode cX4_unwish 18 = .ok (.istore_n 3, 1) := by decide +kernel
theorem dX4_unwish_19 : decode cX4_unwish 19 = .ok (.iload_n 3, 1) := by decide +kernel
theorem dX4_unwish_20 : decode cX4_unwish 20 = .ok (.iconst (-1), 1) := by decide +kernel
theorem dX4_unwish_21 : decode cX4_unwish 21 = .ok (.if_icmp .eq 7, 3) := by decide +kernel
theorem dX4_unwish_24 : decode cX4_unwish 24 = .ok (.iconst 1, 1) := by decide +kernel
theorem dX4_unwish_25 : decode cX4_unwish 25 = .ok (.goto 4, 3) := by decide +kernel
theorem dX4_unwish_28 : decode cX4_unwish 28 = .ok (.iconst 0, 1) := by decide +kernel
theorem dX4_unwish_29 : decode cX4_unwish 29 = .ok (.invokestatic 52, 3) := by decide +kernel
theorem dX4_unwish_32 : decode cX4_unwish 32 = .ok (.aload_n 0, 1) := by decide +kernel
theorem dX4_unwish_33 : decode cX4_unwish 33 = .ok (.getfield 22, 3) := by decide +kernel
theorem dX4_unwish_36 : decode cX4_unwish 36 = .ok (.aload_n 0, 1) := by decide +kernel
theorem dX4_unwish_37 : decode cX4_unwish 37 = .ok (.getfield 10, 3) := by decide +kernel
theorem dX4_unwish_40 : decode cX4_unwish 40 = .ok (.invokevirtual 56, 3) := by decide +kernel
theorem dX4_unwish_43 : decode cX4_unwish 43 = .ok (.aload_n 0, 1) := by decide +kernel
theorem dX4_unwish_44 : decode cX4_unwish 44 = .ok (.getfield 10, 3) := by decide +kernel
theorem dX4_unwish_47 : decode cX4_unwish 47 = .ok (.iload_n 2, 1) := by decide +kernel
theorem dX4_unwish_48 : decode cX4_unwish 48 = .ok (.iload_n 3, 1) := by decide +kernel
theorem dX4_unwish_49 : decode cX4_unwish 49 = .ok (.invokevirtual 67, 3) := by decide +kernel
theorem dX4_unwish_52 : decode cX4_unwish 52 = .ok (.aload_n 0, 1) := by decide +kernel
theorem dX4_unwish_53 : decode cX4_unwish 53 = .ok (.getfield 10, 3) := by decide +kernel
theorem dX4_unwish_56 : decode cX4_unwish 56 = .ok (.getfield 71, 3) := by decide +kernel
theorem dX4_unwish_59 : decode cX4_unwish 59 = .ok (.iload_n 2, 1) := by decide +kernel
theorem dX4_unwish_60 : decode cX4_unwish 60 = .ok (.iaload, 1) := by decide +kernel
theorem dX4_unwish_61 : decode cX4_unwish 61 = .ok (.ireturn, 1) := by decide +kernel
theorem dX4_renew_0 : decode cX4_renew 0 = .ok (.iload_n 1, 1) := by decide +kernel
theorem dX4_renew_1 : decode cX4_renew 1 = .ok (.invokestatic 37, 3) := by decide +kernel
theorem dX4_renew_4 : decode cX4_renew 4 = .ok (.aload_n 0, 1) := by decide +kernel
theorem dX4_renew_5 : decode cX4_renew 5 = .ok (.iload_n 2, 1) := by decide +kernel
theorem dX4_renew_6 : decode cX4_renew 6 = .ok (.invokevirtual 41, 3) := by decide +kernel
theorem dX4_renew_9 : decode cX4_renew 9 = .ok (.iload_n 3, 1) := by decide +kernel
theorem dX4_renew_10 : decode cX4_renew 10 = .ok (.iconst 1, 1) := by decide +kernel
theorem dX4_renew_11 : decode cX4_renew 11 = .ok (.sipush 999, 3) := by decide +kernel
theorem dX4_renew_14 : decode cX4_renew 14 = .ok (.invokestatic 44, 3) := by decide +kernel
theorem dX4_renew_17 : decode cX4_renew 17 = .ok (.aload_n 0, 1) := by decide +kernel
theorem dX4_renew_18 : decode cX4_renew 18 = .ok (.getfield 10, 3) := by decide +kernel
theorem dX4_renew_21 : decode cX4_renew 21 = .ok (.iload_n 1, 1) := by decide +kernel
theorem dX4_renew_22 : decode cX4_renew 22 = .ok (.iload_n 2, 1) := by decide +kernel
theorem dX4_renew_23 : decode cX4_renew 23 = .ok (.invokevirtual 75, 3) := by decide +kernel
theorem dX4_renew_26 : decode cX4_renew 26 = .ok (.invokestatic 52, 3) := by decide +kernel
theorem dX4_renew_29 : decode cX4_renew 29 = .ok (.aload_n 0, 1) := by decide +kernel
theorem dX4_renew_30 : decode cX4_renew 30 = .ok (.getfield 22, 3) := by decide +kernel
theorem dX4_renew_33 : decode cX4_renew 33 = .ok (.aload_n 0, 1) := by decide +kernel
theorem dX4_renew_34 : decode cX4_renew 34 = .ok (.getfield 10, 3) := by decide +kernel
theorem dX4_renew_37 : decode cX4_renew 37 = .ok (.invokevirtual 56, 3) := by decide +kernel
theorem dX4_renew_40 : decode cX4_renew 40 = .ok (.aload_n 0, 1) := by decide +kernel
theorem dX4_renew_41 : decode cX4_renew 41 = .ok (.getfield 10, 3) := by decide +kernel
theorem dX4_renew_44 : decode cX4_renew 44 = .ok (.iload_n 2, 1) := by decide +kernel
theorem dX4_renew_45 : decode cX4_renew 45 = .ok (.iload_n 3, 1) := by decide +kernel
theorem dX4_renew_46 : decode cX4_renew 46 = .ok (.invokevirtual 78, 3) := by decide +kernel
theorem dX4_renew_49 : decode cX4_renew 49 = .ok (.ireturn, 1) := by decide +kernel
theorem dX4_giveBack_0 : decode cX4_giveBack 0 = .ok (.iload_n 1, 1) := by decide +kernel
theorem dX4_giveBack_1 : decode cX4_giveBack 1 = .ok (.invokestatic 37, 3) := by decide +kernel
theorem dX4_giveBack_4 : decode cX4_giveBack 4 = .ok (.aload_n 0, 1) := by decide +kernel
theorem dX4_giveBack_5 : decode cX4_giveBack 5 = .ok (.iload_n 2, 1) := by decide +kernel
theorem dX4_giveBack_6 : decode cX4_giveBack 6 = .ok (.invokevirtual 41, 3) := by decide +kernel
theorem dX4_giveBack_9 : decode cX4_giveBack 9 = .ok (.aload_n 0, 1) := by decide +kernel
theorem dX4_giveBack_10 : decode cX4_giveBack 10 = .ok (.iload_n 3, 1) := by decide +kernel
theorem dX4_giveBack_11 : decode cX4_giveBack 11 = .ok (.invokevirtual 41, 3) := by decide +kernel
theorem dX4_giveBack_14 : decode cX4_giveBack 14 = .ok (.iload_n 3, 1) := by decide +kernel
theorem dX4_giveBack_15 : decode cX4_giveBack 15 = .ok (.iload_n 2, 1) := by decide +kernel
theorem dX4_giveBack_16 : decode cX4_giveBack 16 = .ok (.bipush 64, 2) := by decide +kernel
theorem dX4_giveBack_18 : decode cX4_giveBack 18 = .ok (.invokestatic 44, 3) := by decide +kernel
theorem dX4_giveBack_21 : decode cX4_giveBack 21 = .ok (.aload_n 0, 1) := by decide +kernel
theorem dX4_giveBack_22 : decode cX4_giveBack 22 = .ok (.getfield 22, 3) := by decide +kernel
theorem dX4_giveBack_25 : decode cX4_giveBack 25 = .ok (.aload_n 0, 1) := by decide +kernel
theorem dX4_giveBack_26 : decode cX4_giveBack 26 = .ok (.getfield 10, 3) := by decide +kernel
theorem dX4_giveBack_29 : decode cX4_giveBack 29 = .ok (.invokevirtual 56, 3) := by decide +kernel
theorem dX4_giveBack_32 : decode cX4_giveBack 32 = .ok (.aload_n 0, 1) := by decide +kernel
theorem dX4_giveBack_33 : decode cX4_giveBack 33 = .ok (.getfield 10, 3) := by decide +kernel
theorem dX4_giveBack_36 : decode cX4_giveBack 36 = .ok (.iload_n 1, 1) := by decide +kernel
theorem dX4_giveBack_37 : decode cX4_giveBack 37 = .ok (.iload_n 2, 1) := by decide +kernel
theorem dX4_giveBack_38 : decode cX4_giveBack 38 = .ok (.iload_n 3, 1) := by decide +kernel
theorem dX4_giveBack_39 : decode cX4_giveBack 39 = .ok (.invokevirtual 81, 3) := by decide +kernel
theorem dX4_giveBack_42 : decode cX4_giveBack 42 = .ok (.ireturn, 1) := by decide +kernel
theorem dX4_pass_0 : decode cX4_pass 0 = .ok (.iload_n 1, 1) := by decide +kernel
theorem dX4_pass_1 : decode cX4_pass 1 = .ok (.iconst 1, 1) := by decide +kernel
theorem dX4_pass_2 : decode cX4_pass 2 = .ok (.bipush 99, 2) := by decide +kernel
theorem dX4_pass_4 : decode cX4_pass 4 = .ok (.invokestatic 44, 3) := by decide +kernel
theorem dX4_pass_7 : decode cX4_pass 7 = .ok (.aload_n 0, 1) := by decide +kernel
theorem dX4_pass_8 : decode cX4_pass 8 = .ok (.getfield 10, 3) := by decide +kernel
theorem dX4_pass_11 : decode cX4_pass 11 = .ok (.iload_n 1, 1) := by decide +kernel
theorem dX4_pass_12 : decode cX4_pass 12 = .ok (.invokevirtual 84, 3) := by decide +kernel
theorem dX4_pass_15 : decode cX4_pass 15 = .ok (.invokestatic 52, 3) := by decide +kernel
theorem dX4_pass_18 : decode cX4_pass 18 = .ok (.aload_n 0, 1) := by decide +kernel
theorem dX4_pass_19 : decode cX4_pass 19 = .ok (.getfield 22, 3) := by decide +kernel
theorem dX4_pass_22 : decode cX4_pass 22 = .ok (.aload_n 0, 1) := by decide +kernel
theorem dX4_pass_23 : decode cX4_pass 23 = .ok (.getfield 10, 3) := by decide +kernel
theorem dX4_pass_26 : decode cX4_pass 26 = .ok (.invokevirtual 56, 3) := by decide +kernel
theorem dX4_pass_29 : decode cX4_pass 29 = .ok (.aload_n 0, 1) := by decide +kernel
theorem dX4_pass_30 : decode cX4_pass 30 = .ok (.getfield 10, 3) := by decide +kernel
theorem dX4_pass_33 : decode cX4_pass 33 = .ok (.iload_n 1, 1) := by decide +kernel
theorem dX4_pass_34 : decode cX4_pass 34 = .ok (.invokevirtual 88, 3) := by decide +kernel
theorem dX4_pass_37 : decode cX4_pass 37 = .ok (.ireturn, 1) := by decide +kernel
theorem dX4_set_0 : decode cX4_set 0 = .ok (.iload_n 1, 1) := by decide +kernel
theorem dX4_set_1 : decode cX4_set 1 = .ok (.invokestatic 92, 3) := by decide +kernel
theorem dX4_set_4 : decode cX4_set 4 = .ok (.iload_n 2, 1) := by decide +kernel
theorem dX4_set_5 : decode cX4_set 5 = .ok (.getstatic 95, 3) := by decide +kernel
theorem dX4_set_8 : decode cX4_set 8 = .ok (.iload_n 1, 1) := by decide +kernel
theorem dX4_set_9 : decode cX4_set 9 = .ok (.iaload, 1) := by decide +kernel
theorem dX4_set_10 : decode cX4_set 10 = .ok (.getstatic 98, 3) := by decide +kernel
theorem dX4_set_13 : decode cX4_set 13 = .ok (.iload_n 1, 1) := by decide +kernel
theorem dX4_set_14 : decode cX4_set 14 = .ok (.iaload, 1) := by decide +kernel
theorem dX4_set_15 : decode cX4_set 15 = .ok (.invokestatic 44, 3) := by decide +kernel
theorem dX4_set_18 : decode cX4_set 18 = .ok (.iload_n 1, 1) := by decide +kernel
theorem dX4_set_19 : decode cX4_set 19 = .ok (.iconst 3, 1) := by decide +kernel
theorem dX4_set_20 : decode cX4_set 20 = .ok (.if_icmp .ne 14, 3) := by decide +kernel
theorem dX4_set_23 : decode cX4_set 23 = .ok (.aload_n 0, 1) := by decide +kernel
theorem dX4_set_24 : decode cX4_set 24 = .ok (.getfield 10, 3) := by decide +kernel
theorem dX4_set_27 : decode cX4_set 27 = .ok (.iload_n 2, 1) := by decide +kernel
theorem dX4_set_28 : decode cX4_set 28 = .ok (.invokevirtual 101, 3) := by decide +kernel
theorem dX4_set_31 : decode cX4_set 31 = .ok (.ifCond .eq 7, 3) := by decide +kernel
theorem dX4_set_34 : decode cX4_set 34 = .ok (.iconst 1, 1) := by decide +kernel
theorem dX4_set_35 : decode cX4_set 35 = .ok (.goto 4, 3) := by decide +kernel
theorem dX4_set_38 : decode cX4_set 38 = .ok (.iconst 0, 1) := by decide +kernel
theorem dX4_set_39 : decode cX4_set 39 = .ok (.invokestatic 52, 3) := by decide +kernel
theorem dX4_set_42 : decode cX4_set 42 = .ok (.aload_n 0, 1) := by decide +kernel
theorem dX4_set_43 : decode cX4_set 43 = .ok (.getfield 22, 3) := by decide +kernel
theorem dX4_set_46 : decode cX4_set 46 = .ok (.aload_n 0, 1) := by decide +kernel
theorem dX4_set_47 : decode cX4_set 47 = .ok (.getfield 10, 3) := by decide +kernel
theorem dX4_set_50 : decode cX4_set 50 = .ok (.invokevirtual 56, 3) := by decide +kernel
theorem dX4_set_53 : decode cX4_set 53 = .ok (.aload_n 0, 1) := by decide +kernel
theorem dX4_set_54 : decode cX4_set 54 = .ok (.getfield 10, 3) := by decide +kernel
theorem dX4_set_57 : decode cX4_set 57 = .ok (.getfield 104, 3) := by decide +kernel
theorem dX4_set_60 : decode cX4_set 60 = .ok (.iload_n 1, 1) := by decide +kernel
theorem dX4_set_61 : decode cX4_set 61 = .ok (.iaload, 1) := by decide +kernel
theorem dX4_set_62 : decode cX4_set 62 = .ok (.istore_n 3, 1) := by decide +kernel
theorem dX4_set_63 : decode cX4_set 63 = .ok (.aload_n 0, 1) := by decide +kernel
theorem dX4_set_64 : decode cX4_set 64 = .ok (.getfield 10, 3) := by decide +kernel
theorem dX4_set_67 : decode cX4_set 67 = .ok (.getfield 104, 3) := by decide +kernel
theorem dX4_set_70 : decode cX4_set 70 = .ok (.iload_n 1, 1) := by decide +kernel
theorem dX4_set_71 : decode cX4_set 71 = .ok (.iload_n 2, 1) := by decide +kernel
theorem dX4_set_72 : decode cX4_set 72 = .ok (.iastore, 1) := by decide +kernel
theorem dX4_set_73 : decode cX4_set 73 = .ok (.iload_n 3, 1) := by decide +kernel
theorem dX4_set_74 : decode cX4_set 74 = .ok (.ireturn, 1) := by decide +kernel
theorem dX4_append_0 : decode cX4_append 0 = .ok (.iload_n 1, 1) := by decide +kernel
theorem dX4_append_1 : decode cX4_append 1 = .ok (.bipush 33, 2) := by decide +kernel
theorem dX4_append_3 : decode cX4_append 3 = .ok (.bipush 126, 2) := by decide +kernel
theorem dX4_append_5 : decode cX4_append 5 = .ok (.invokestatic 44, 3) := by decide +kernel
theorem dX4_append_8 : decode cX4_append 8 = .ok (.aload_n 0, 1) := by decide +kernel
theorem dX4_append_9 : decode cX4_append 9 = .ok (.getfield 29, 3) := by decide +kernel
theorem dX4_append_12 : decode cX4_append 12 = .ok (.getfield 107, 3) := by decide +kernel
theorem dX4_append_15 : decode cX4_append 15 = .ok (.bipush 60, 2) := by decide +kernel
theorem dX4_append_17 : decode cX4_append 17 = .ok (.if_icmp .ge 7, 3) := by decide +kernel
theorem dX4_append_20 : decode cX4_append 20 = .ok (.iconst 1, 1) := by decide +kernel
theorem dX4_append_21 : decode cX4_append 21 = .ok (.goto 4, 3) := by decide +kernel
theorem dX4_append_24 : decode cX4_append 24 = .ok (.iconst 0, 1) := by decide +kernel
theorem dX4_append_25 : decode cX4_append 25 = .ok (.invokestatic 52, 3) := by decide +kernel
theorem dX4_append_28 : decode cX4_append 28 = .ok (.aload_n 0, 1) := by decide +kernel
theorem dX4_append_29 : decode cX4_append 29 = .ok (.getfield 29, 3) := by decide +kernel
theorem dX4_append_32 : decode cX4_append 32 = .ok (.iload_n 1, 1) := by decide +kernel
theorem dX4_append_33 : decode cX4_append 33 = .ok (.invokevirtual 111, 3) := by decide +kernel
theorem dX4_append_36 : decode cX4_append 36 = .ok (.aload_n 0, 1) := by decide +kernel
theorem dX4_append_37 : decode cX4_append 37 = .ok (.getfield 29, 3) := by decide +kernel
theorem dX4_append_40 : decode cX4_append 40 = .ok (.getfield 107, 3) := by decide +kernel
theorem dX4_append_43 : decode cX4_append 43 = .ok (.ireturn, 1) := by decide +kernel
theorem dX4_clearBuffer_0 : decode cX4_clearBuffer 0 = .ok (.aload_n 0, 1) := by decide +kernel
theorem dX4_clearBuffer_1 : decode cX4_clearBuffer 1 = .ok (.getfield 29, 3) := by decide +kernel
theorem dX4_clearBuffer_4 : decode cX4_clearBuffer 4 = .ok (.getfield 107, 3) := by decide +kernel
theorem dX4_clearBuffer_7 : decode cX4_clearBuffer 7 = .ok (.istore_n 1, 1) := by decide +kernel
theorem dX4_clearBuffer_8 : decode cX4_clearBuffer 8 = .ok (.aload_n 0, 1) := by decide +kernel
theorem dX4_clearBuffer_9 : decode cX4_clearBuffer 9 = .ok (.getfield 29, 3) := by decide +kernel
theorem dX4_clearBuffer_12 : decode cX4_clearBuffer 12 = .ok (.iconst 0, 1) := by decide +kernel
theorem dX4_clearBuffer_13 : decode cX4_clearBuffer 13 = .ok (.putfield 107, 3) := by decide +kernel
theorem dX4_clearBuffer_16 : decode cX4_clearBuffer 16 = .ok (.iload_n 1, 1) := by decide +kernel
theorem dX4_clearBuffer_17 : decode cX4_clearBuffer 17 = .ok (.ireturn, 1) := by decide +kernel
theorem dX4_firstError_0 : decode cX4_firstError 0 = .ok (.aload_n 0, 1) := by decide +kernel
theorem dX4_firstError_1 : decode cX4_firstError 1 = .ok (.getfield 29, 3) := by decide +kernel
theorem dX4_firstError_4 : decode cX4_firstError 4 = .ok (.invokevirtual 114, 3) := by decide +kernel
theorem dX4_firstError_7 : decode cX4_firstError 7 = .ok (.pop, 1) := by decide +kernel
theorem dX4_firstError_8 : decode cX4_firstError 8 = .ok (.aload_n 0, 1) := by decide +kernel
theorem dX4_firstError_9 : decode cX4_firstError 9 = .ok (.getfield 29, 3) := by decide +kernel
theorem dX4_firstError_12 : decode cX4_firstError 12 = .ok (.getfield 118, 3) := by decide +kernel
theorem dX4_firstError_15 : decode cX4_firstError 15 = .ok (.ireturn, 1) := by decide +kernel
theorem dX4_run_0 : decode cX4_run 0 = .ok (.aload_n 0, 1) := by decide +kernel
theorem dX4_run_1 : decode cX4_run 1 = .ok (.getfield 29, 3) := by decide +kernel
theorem dX4_run_4 : decode cX4_run 4 = .ok (.invokevirtual 114, 3) := by decide +kernel
theorem dX4_run_7 : decode cX4_run 7 = .ok (.ifCond .ne 11, 3) := by decide +kernel
theorem dX4_run_10 : decode cX4_run 10 = .ok (.new 121, 3) := by decide +kernel
theorem dX4_run_13 : decode cX4_run 13 = .ok (.dup, 1) := by decide +kernel
theorem dX4_run_14 : decode cX4_run 14 = .ok (.invokespecial 123, 3) := by decide +kernel
theorem dX4_run_17 : decode cX4_run 17 = .ok (.athrow, 1) := by decide +kernel
theorem dX4_run_18 : decode cX4_run 18 = .ok (.aload_n 0, 1) := by decide +kernel
theorem dX4_run_19 : decode cX4_run 19 = .ok (.getfield 22, 3) := by decide +kernel
theorem dX4_run_22 : decode cX4_run 22 = .ok (.aload_n 0, 1) := by decide +kernel
theorem dX4_run_23 : decode cX4_run 23 = .ok (.getfield 10, 3) := by decide +kernel
theorem dX4_run_26 : decode cX4_run 26 = .ok (.invokevirtual 56, 3) := by decide +kernel
theorem dX4_run_29 : decode cX4_run 29 = .ok (.aload_n 0, 1) := by decide +kernel
theorem dX4_run_30 : decode cX4_run 30 = .ok (.getfield 29, 3) := by decide +kernel
theorem dX4_run_33 : decode cX4_run 33 = .ok (.invokevirtual 124, 3) := by decide +kernel
theorem dX4_run_36 : decode cX4_run 36 = .ok (.iconst 0, 1) := by decide +kernel
theorem dX4_run_37 : decode cX4_run 37 = .ok (.istore_n 1, 1) := by decide +kernel
theorem dX4_run_38 : decode cX4_run 38 = .ok (.iconst 1, 1) := by decide +kernel
theorem dX4_run_39 : decode cX4_run 39 = .ok (.istore_n 2, 1) := by decide +kernel
theorem dX4_run_40 : decode cX4_run 40 = .ok (.iconst 0, 1) := by decide +kernel
theorem dX4_run_41 : decode cX4_run 41 = .ok (.istore_n 3, 1) := by decide +kernel
theorem dX4_run_42 : decode cX4_run 42 = .ok (.iload_n 3, 1) := by decide +kernel
theorem dX4_run_43 : decode cX4_run 43 = .ok (.bipush 60, 2) := by decide +kernel
theorem dX4_run_45 : decode cX4_run 45 = .ok (.if_icmp .ge 49, 3) := by decide +kernel
theorem dX4_run_48 : decode cX4_run 48 = .ok (.iload_n 2, 1) := by decide +kernel
theorem dX4_run_49 : decode cX4_run 49 = .ok (.ifCond .eq 45, 3) := by decide +kernel
theorem dX4_run_52 : decode cX4_run 52 = .ok (.aload_n 0, 1) := by decide +kernel
theorem dX4_run_53 : decode cX4_run 53 = .ok (.getfield 29, 3) := by decide +kernel
theorem dX4_run_56 : decode cX4_run 56 = .ok (.getfield 118, 3) := by decide +kernel
theorem dX4_run_59 : decode cX4_run 59 = .ok (.aload_n 0, 1) := by decide +kernel
theorem dX4_run_60 : decode cX4_run 60 = .ok (.getfield 29, 3) := by decide +kernel
theorem dX4_run_63 : decode cX4_run 63 = .ok (.getfield 107, 3) := by decide +kernel
theorem dX4_run_66 : decode cX4_run 66 = .ok (.if_icmp .ge 28, 3) := by decide +kernel
theorem dX4_run_69 : decode cX4_run 69 = .ok (.aload_n 0, 1) := by decide +kernel
theorem dX4_run_70 : decode cX4_run 70 = .ok (.getfield 29, 3) := by decide +kernel
theorem dX4_run_73 : decode cX4_run 73 = .ok (.invokevirtual 127, 3) := by decide +kernel
theorem dX4_run_76 : decode cX4_run 76 = .ok (.aload_n 0, 1) := by decide +kernel
theorem dX4_run_77 : decode cX4_run 77 = .ok (.invokevirtual 130, 3) := by decide +kernel
theorem dX4_run_80 : decode cX4_run 80 = .ok (.istore_n 2, 1) := by decide +kernel
theorem dX4_run_81 : decode cX4_run 81 = .ok (.iload_n 2, 1) := by decide +kernel
theorem dX4_run_82 : decode cX4_run 82 = .ok (.ifCond .eq 6, 3) := by decide +kernel
theorem dX4_run_85 : decode cX4_run 85 = .ok (.iinc 1 1, 3) := by decide +kernel
theorem dX4_run_88 : decode cX4_run 88 = .ok (.iinc 3 1, 3) := by decide +kernel
theorem dX4_run_91 : decode cX4_run 91 = .ok (.goto (-49), 3) := by decide +kernel
theorem dX4_run_94 : decode cX4_run 94 = .ok (.aload_n 0, 1) := by decide +kernel
theorem dX4_run_95 : decode cX4_run 95 = .ok (.getfield 29, 3) := by decide +kernel
theorem dX4_run_98 : decode cX4_run 98 = .ok (.iconst 0, 1) := by decide +kernel
theorem dX4_run_99 : decode cX4_run 99 = .ok (.putfield 107, 3) := by decide +kernel
theorem dX4_run_102 : decode cX4_run 102 = .ok (.iload_n 1, 1) := by decide +kernel
theorem dX4_run_103 : decode cX4_run 103 = .ok (.ireturn, 1) := by decide +kernel
theorem dX4_undo_0 : decode cX4_undo 0 = .ok (.aload_n 0, 1) := by decide +kernel
theorem dX4_undo_1 : decode cX4_undo 1 = .ok (.getfield 22, 3) := by decide +kernel
theorem dX4_undo_4 : decode cX4_undo 4 = .ok (.getfield 133, 3) := by decide +kernel
theorem dX4_undo_7 : decode cX4_undo 7 = .ok (.ifCond .le 7, 3) := by decide +kernel
theorem dX4_undo_10 : decode cX4_undo 10 = .ok (.iconst 1, 1) := by decide +kernel
theorem dX4_undo_11 : decode cX4_undo 11 = .ok (.goto 4, 3) := by decide +kernel
theorem dX4_undo_14 : decode cX4_undo 14 = .ok (.iconst 0, 1) := by decide +kernel
theorem dX4_undo_15 : decode cX4_undo 15 = .ok (.invokestatic 52, 3) := by decide +kernel
theorem dX4_undo_18 : decode cX4_undo 18 = .ok (.aload_n 0, 1) := by decide +kernel
theorem dX4_undo_19 : decode cX4_undo 19 = .ok (.getfield 22, 3) := by decide +kernel
theorem dX4_undo_22 : decode cX4_undo 22 = .ok (.aload_n 0, 1) := by decide +kernel
theorem dX4_undo_23 : decode cX4_undo 23 = .ok (.getfield 10, 3) := by decide +kernel
theorem dX4_undo_26 : decode cX4_undo 26 = .ok (.invokevirtual 136, 3) := by decide +kernel
theorem dX4_undo_29 : decode cX4_undo 29 = .ok (.aload_n 0, 1) := by decide +kernel
theorem dX4_undo_30 : decode cX4_undo 30 = .ok (.getfield 22, 3) := by decide +kernel
theorem dX4_undo_33 : decode cX4_undo 33 = .ok (.getfield 133, 3) := by decide +kernel
theorem dX4_undo_36 : decode cX4_undo 36 = .ok (.ireturn, 1) := by decide +kernel
theorem dX4_number_0 : decode cX4_number 0 = .ok (.aload_n 0, 1) := by decide +kernel
theorem dX4_number_1 : decode cX4_number 1 = .ok (.iload_n 1, 1) := by decide +kernel
theorem dX4_number_2 : decode cX4_number 2 = .ok (.invokevirtual 41, 3) := by decide +kernel
theorem dX4_number_5 : decode cX4_number 5 = .ok (.iload_n 2, 1) := by decide +kernel
theorem dX4_number_6 : decode cX4_number 6 = .ok (.iconst 0, 1) := by decide +kernel
theorem dX4_number_7 : decode cX4_number 7 = .ok (.bipush 8, 2) := by decide +kernel
theorem dX4_number_9 : decode cX4_number 9 = .ok (.invokestatic 44, 3) := by decide +kernel
theorem dX4_number_12 : decode cX4_number 12 = .ok (.aload_n 0, 1) := by decide +kernel
theorem dX4_number_13 : decode cX4_number 13 = .ok (.getfield 10, 3) := by decide +kernel
theorem dX4_number_16 : decode cX4_number 16 = .ok (.iload_n 1, 1) := by decide +kernel
theorem dX4_number_17 : decode cX4_number 17 = .ok (.iload_n 2, 1) := by decide +kernel
theorem dX4_number_18 : decode cX4_number 18 = .ok (.invokevirtual 139, 3) := by decide +kernel
theorem dX4_number_21 : decode cX4_number 21 = .ok (.ireturn, 1) := by decide +kernel
theorem dX4_holder_0 : decode cX4_holder 0 = .ok (.iload_n 1, 1) := by decide +kernel
theorem dX4_holder_1 : decode cX4_holder 1 = .ok (.invokestatic 37, 3) := by decide +kernel
theorem dX4_holder_4 : decode cX4_holder 4 = .ok (.iload_n 2, 1) := by decide +kernel
theorem dX4_holder_5 : decode cX4_holder 5 = .ok (.iconst 0, 1) := by decide +kernel
theorem dX4_holder_6 : decode cX4_holder 6 = .ok (.bipush 7, 2) := by decide +kernel
theorem dX4_holder_8 : decode cX4_holder 8 = .ok (.invokestatic 44, 3) := by decide +kernel
theorem dX4_holder_11 : decode cX4_holder 11 = .ok (.aload_n 0, 1) := by decide +kernel
theorem dX4_holder_12 : decode cX4_holder 12 = .ok (.getfield 10, 3) := by decide +kernel
theorem dX4_holder_15 : decode cX4_holder 15 = .ok (.iload_n 1, 1) := by decide +kernel
theorem dX4_holder_16 : decode cX4_holder 16 = .ok (.iload_n 2, 1) := by decide +kernel
theorem dX4_holder_17 : decode cX4_holder 17 = .ok (.invokevirtual 142, 3) := by decide +kernel
theorem dX4_holder_20 : decode cX4_holder 20 = .ok (.ireturn, 1) := by decide +kernel
theorem dX4_span_0 : decode cX4_span 0 = .ok (.iload_n 1, 1) := by decide +kernel
theorem dX4_span_1 : decode cX4_span 1 = .ok (.ifCond .ge 11, 3) := by decide +kernel
theorem dX4_span_4 : decode cX4_span 4 = .ok (.new 121, 3) := by decide +kernel
theorem dX4_span_7 : decode cX4_span 7 = .ok (.dup, 1) := by decide +kernel
theorem dX4_span_8 : decode cX4_span 8 = .ok (.invokespecial 123, 3) := by decide +kernel
theorem dX4_span_11 : decode cX4_span 11 = .ok (.athrow, 1) := by decide +kernel
theorem dX4_span_12 : decode cX4_span 12 = .ok (.iload_n 2, 1) := by decide +kernel
theorem dX4_span_13 : decode cX4_span 13 = .ok (.iconst 0, 1) := by decide +kernel
theorem dX4_span_14 : decode cX4_span 14 = .ok (.iconst 1, 1) := by decide +kernel
theorem dX4_span_15 : decode cX4_span 15 = .ok (.invokestatic 44, 3) := by decide +kernel
theorem dX4_span_18 : decode cX4_span 18 = .ok (.aload_n 0, 1) := by decide +kernel
theorem dX4_span_19 : decode cX4_span 19 = .ok (.getfield 10, 3) := by decide +kernel
theorem dX4_span_22 : decode cX4_span 22 = .ok (.iload_n 1, 1) := by decide +kernel
theorem dX4_span_23 : decode cX4_span 23 = .ok (.iload_n 2, 1) := by decide +kernel
theorem dX4_span_24 : decode cX4_span 24 = .ok (.invokevirtual 145, 3) := by decide +kernel
theorem dX4_span_27 : decode cX4_span 27 = .ok (.ireturn, 1) := by decide +kernel
theorem dX4_count_0 : decode cX4_count 0 = .ok (.iload_n 1, 1) := by decide +kernel
theorem dX4_count_1 : decode cX4_count 1 = .ok (.iconst 0, 1) := by decide +kernel
theorem dX4_count_2 : decode cX4_count 2 = .ok (.bipush 12, 2) := by decide +kernel
theorem dX4_count_4 : decode cX4_count 4 = .ok (.invokestatic 44, 3) := by decide +kernel
theorem dX4_count_7 : decode cX4_count 7 = .ok (.aload_n 0, 1) := by decide +kernel
theorem dX4_count_8 : decode cX4_count 8 = .ok (.iload_n 1, 1) := by decide +kernel
theorem dX4_count_9 : decode cX4_count 9 = .ok (.invokevirtual 148, 3) := by decide +kernel
theorem dX4_count_12 : decode cX4_count 12 = .ok (.ireturn, 1) := by decide +kernel
theorem dX4_setting_0 : decode cX4_setting 0 = .ok (.iload_n 1, 1) := by decide +kernel
theorem dX4_setting_1 : decode cX4_setting 1 = .ok (.invokestatic 92, 3) := by decide +kernel
theorem dX4_setting_4 : decode cX4_setting 4 = .ok (.aload_n 0, 1) := by decide +kernel
theorem dX4_setting_5 : decode cX4_setting 5 = .ok (.getfield 10, 3) := by decide +kernel
theorem dX4_setting_8 : decode cX4_setting 8 = .ok (.getfield 104, 3) := by decide +kernel
theorem dX4_setting_11 : decode cX4_setting 11 = .ok (.iload_n 1, 1) := by decide +kernel
theorem dX4_setting_12 : decode cX4_setting 12 = .ok (.iaload, 1) := by decide +kernel
theorem dX4_setting_13 : decode cX4_setting 13 = .ok (.ireturn, 1) := by decide +kernel
theorem dX4_whoAfter_0 : decode cX4_whoAfter 0 = .ok (.aload_n 0, 1) := by decide +kernel
theorem dX4_whoAfter_1 : decode cX4_whoAfter 1 = .ok (.iload_n 1, 1) := by decide +kernel
theorem dX4_whoAfter_2 : decode cX4_whoAfter 2 = .ok (.invokevirtual 41, 3) := by decide +kernel
theorem dX4_whoAfter_5 : decode cX4_whoAfter 5 = .ok (.iload_n 2, 1) := by decide +kernel
theorem dX4_whoAfter_6 : decode cX4_whoAfter 6 = .ok (.iconst 0, 1) := by decide +kernel
theorem dX4_whoAfter_7 : decode cX4_whoAfter 7 = .ok (.sipush 500, 3) := by decide +kernel
theorem dX4_whoAfter_10 : decode cX4_whoAfter 10 = .ok (.invokestatic 44, 3) := by decide +kernel
theorem dX4_whoAfter_13 : decode cX4_whoAfter 13 = .ok (.aload_n 0, 1) := by decide +kernel
theorem dX4_whoAfter_14 : decode cX4_whoAfter 14 = .ok (.iload_n 1, 1) := by decide +kernel
theorem dX4_whoAfter_15 : decode cX4_whoAfter 15 = .ok (.iload_n 2, 1) := by decide +kernel
theorem dX4_whoAfter_16 : decode cX4_whoAfter 16 = .ok (.invokevirtual 151, 3) := by decide +kernel
theorem dX4_whoAfter_19 : decode cX4_whoAfter 19 = .ok (.ireturn, 1) := by decide +kernel
theorem dX4_freeIn_0 : decode cX4_freeIn 0 = .ok (.iload_n 1, 1) := by decide +kernel
theorem dX4_freeIn_1 : decode cX4_freeIn 1 = .ok (.iconst 1, 1) := by decide +kernel
theorem dX4_freeIn_2 : decode cX4_freeIn 2 = .ok (.bipush 64, 2) := by decide +kernel
theorem dX4_freeIn_4 : decode cX4_freeIn 4 = .ok (.invokestatic 44, 3) := by decide +kernel
theorem dX4_freeIn_7 : decode cX4_freeIn 7 = .ok (.aload_n 0, 1) := by decide +kernel
theorem dX4_freeIn_8 : decode cX4_freeIn 8 = .ok (.iload_n 1, 1) := by decide +kernel
theorem dX4_freeIn_9 : decode cX4_freeIn 9 = .ok (.invokevirtual 154, 3) := by decide +kernel
theorem dX4_freeIn_12 : decode cX4_freeIn 12 = .ok (.ireturn, 1) := by decide +kernel
theorem dX4_wishedIn_0 : decode cX4_wishedIn 0 = .ok (.iload_n 1, 1) := by decide +kernel
theorem dX4_wishedIn_1 : decode cX4_wishedIn 1 = .ok (.invokestatic 37, 3) := by decide +kernel
theorem dX4_wishedIn_4 : decode cX4_wishedIn 4 = .ok (.aload_n 0, 1) := by decide +kernel
theorem dX4_wishedIn_5 : decode cX4_wishedIn 5 = .ok (.iload_n 2, 1) := by decide +kernel
theorem dX4_wishedIn_6 : decode cX4_wishedIn 6 = .ok (.invokevirtual 41, 3) := by decide +kernel
theorem dX4_wishedIn_9 : decode cX4_wishedIn 9 = .ok (.aload_n 0, 1) := by decide +kernel
theorem dX4_wishedIn_10 : decode cX4_wishedIn 10 = .ok (.iload_n 1, 1) := by decide +kernel
theorem dX4_wishedIn_11 : decode cX4_wishedIn 11 = .ok (.iload_n 2, 1) := by decide +kernel
theorem dX4_wishedIn_12 : decode cX4_wishedIn 12 = .ok (.invokevirtual 157, 3) := by decide +kernel
theorem dX4_wishedIn_15 : decode cX4_wishedIn 15 = .ok (.ireturn, 1) := by decide +kernel
theorem dX4_fullness_0 : decode cX4_fullness 0 = .ok (.aload_n 0, 1) := by decide +kernel
theorem dX4_fullness_1 : decode cX4_fullness 1 = .ok (.invokevirtual 160, 3) := by decide +kernel
theorem dX4_fullness_4 : decode cX4_fullness 4 = .ok (.ireturn, 1) := by decide +kernel
theorem dX4_scatter_0 : decode cX4_scatter 0 = .ok (.aload_n 0, 1) := by decide +kernel
theorem dX4_scatter_1 : decode cX4_scatter 1 = .ok (.invokevirtual 164, 3) := by decide +kernel
theorem dX4_scatter_4 : decode cX4_scatter 4 = .ok (.ireturn, 1) := by decide +kernel
theorem dX4_meanHeld_0 : decode cX4_meanHeld 0 = .ok (.aload_n 0, 1) := by decide +kernel
theorem dX4_meanHeld_1 : decode cX4_meanHeld 1 = .ok (.invokevirtual 167, 3) := by decide +kernel
theorem dX4_meanHeld_4 : decode cX4_meanHeld 4 = .ok (.dreturn, 1) := by decide +kernel
theorem dX4_digest_0 : decode cX4_digest 0 = .ok (.ldc2_w 171, 3) := by decide +kernel
theorem dX4_digest_3 : decode cX4_digest 3 = .ok (.lstore_n 1, 1) := by decide +kernel
theorem dX4_digest_4 : decode cX4_digest 4 = .ok (.iconst 0, 1) := by decide +kernel
theorem dX4_digest_5 : decode cX4_digest 5 = .ok (.istore_n 3, 1) := by decide +kernel
theorem dX4_digest_6 : decode cX4_digest 6 = .ok (.iload_n 3, 1) := by decide +kernel
theorem dX4_digest_7 : decode cX4_digest 7 = .ok (.bipush 12, 2) := by decide +kernel
theorem dX4_digest_9 : decode cX4_digest 9 = .ok (.if_icmp .gt 22, 3) := by decide +kernel
theorem dX4_digest_12 : decode cX4_digest 12 = .ok (.ldc2_w 173, 3) := by decide +kernel
theorem dX4_digest_15 : decode cX4_digest 15 = .ok (.lload_n 1, 1) := by decide +kernel
theorem dX4_digest_16 : decode cX4_digest 16 = .ok (.lmul, 1) := by decide +kernel
theorem dX4_digest_17 : decode cX4_digest 17 = .ok (.aload_n 0, 1) := by decide +kernel
theorem dX4_digest_18 : decode cX4_digest 18 = .ok (.iload_n 3, 1) := by decide +kernel
theorem dX4_digest_19 : decode cX4_digest 19 = .ok (.invokevirtual 148, 3) := by decide +kernel
theorem dX4_digest_22 : decode cX4_digest 22 = .ok (.i2l, 1) := by decide +kernel
theorem dX4_digest_23 : decode cX4_digest 23 = .ok (.ladd, 1) := by decide +kernel
theorem dX4_digest_24 : decode cX4_digest 24 = .ok (.lstore_n 1, 1) := by decide +kernel
theorem dX4_digest_25 : decode cX4_digest 25 = .ok (.iinc 3 1, 3) := by decide +kernel
theorem dX4_digest_28 : decode cX4_digest 28 = .ok (.goto (-22), 3) := by decide +kernel
theorem dX4_digest_31 : decode cX4_digest 31 = .ok (.iconst 0, 1) := by decide +kernel
theorem dX4_digest_32 : decode cX4_digest 32 = .ok (.istore_n 3, 1) := by decide +kernel
theorem dX4_digest_33 : decode cX4_digest 33 = .ok (.iload_n 3, 1) := by decide +kernel
theorem dX4_digest_34 : decode cX4_digest 34 = .ok (.iconst 4, 1) := by decide +kernel
theorem dX4_digest_35 : decode cX4_digest 35 = .ok (.if_icmp .ge 26, 3) := by decide +kernel
theorem dX4_digest_38 : decode cX4_digest 38 = .ok (.ldc2_w 173, 3) := by decide +kernel
theorem dX4_digest_41 : decode cX4_digest 41 = .ok (.lload_n 1, 1) := by decide +kernel
theorem dX4_digest_42 : decode cX4_digest 42 = .ok (.lmul, 1) := by decide +kernel
theorem dX4_digest_43 : decode cX4_digest 43 = .ok (.aload_n 0, 1) := by decide +kernel
theorem dX4_digest_44 : decode cX4_digest 44 = .ok (.getfield 10, 3) := by decide +kernel
theorem dX4_digest_47 : decode cX4_digest 47 = .ok (.getfield 104, 3) := by decide +kernel
theorem dX4_digest_50 : decode cX4_digest 50 = .ok (.iload_n 3, 1) := by decide +kernel
theorem dX4_digest_51 : decode cX4_digest 51 = .ok (.iaload, 1) := by decide +kernel
theorem dX4_digest_52 : decode cX4_digest 52 = .ok (.i2l, 1) := by decide +kernel
theorem dX4_digest_53 : decode cX4_digest 53 = .ok (.ladd, 1) := by decide +kernel
theorem dX4_digest_54 : decode cX4_digest 54 = .ok (.lstore_n 1, 1) := by decide +kernel
theorem dX4_digest_55 : decode cX4_digest 55 = .ok (.iinc 3 1, 3) := by decide +kernel
theorem dX4_digest_58 : decode cX4_digest 58 = .ok (.goto (-25), 3) := by decide +kernel
theorem dX4_digest_61 : decode cX4_digest 61 = .ok (.aload_n 0, 1) := by decide +kernel
theorem dX4_digest_62 : decode cX4_digest 62 = .ok (.lload_n 1, 1) := by decide +kernel
theorem dX4_digest_63 : decode cX4_digest 63 = .ok (.invokevirtual 175, 3) := by decide +kernel
theorem dX4_digest_66 : decode cX4_digest 66 = .ok (.lstore_n 1, 1) := by decide +kernel
theorem dX4_digest_67 : decode cX4_digest 67 = .ok (.aload_n 0, 1) := by decide +kernel
theorem dX4_digest_68 : decode cX4_digest 68 = .ok (.lload_n 1, 1) := by decide +kernel
theorem dX4_digest_69 : decode cX4_digest 69 = .ok (.invokevirtual 179, 3) := by decide +kernel
theorem dX4_digest_72 : decode cX4_digest 72 = .ok (.lstore_n 1, 1) := by decide +kernel
theorem dX4_digest_73 : decode cX4_digest 73 = .ok (.aload_n 0, 1) := by decide +kernel
theorem dX4_digest_74 : decode cX4_digest 74 = .ok (.lload_n 1, 1) := by decide +kernel
theorem dX4_digest_75 : decode cX4_digest 75 = .ok (.invokevirtual 182, 3) := by decide +kernel
theorem dX4_digest_78 : decode cX4_digest 78 = .ok (.lstore_n 1, 1) := by decide +kernel
theorem dX4_digest_79 : decode cX4_digest 79 = .ok (.ldc2_w 173, 3) := by decide +kernel
theorem dX4_digest_82 : decode cX4_digest 82 = .ok (.lload_n 1, 1) := by decide +kernel
theorem dX4_digest_83 : decode cX4_digest 83 = .ok (.lmul, 1) := by decide +kernel
theorem dX4_digest_84 : decode cX4_digest 84 = .ok (.aload_n 0, 1) := by decide +kernel
theorem dX4_digest_85 : decode cX4_digest 85 = .ok (.iconst 0, 1) := by decide +kernel
theorem dX4_digest_86 : decode cX4_digest 86 = .ok (.bipush 20, 2) := by decide +kernel
theorem dX4_digest_88 : decode cX4_digest 88 = .ok (.invokevirtual 151, 3) := by decide +kernel
theorem dX4_digest_91 : decode cX4_digest 91 = .ok (.i2l, 1) := by decide +kernel
theorem dX4_digest_92 : decode cX4_digest 92 = .ok (.ladd, 1) := by decide +kernel
theorem dX4_digest_93 : decode cX4_digest 93 = .ok (.lstore_n 1, 1) := by decide +kernel
theorem dX4_digest_94 : decode cX4_digest 94 = .ok (.ldc2_w 173, 3) := by decide +kernel
theorem dX4_digest_97 : decode cX4_digest 97 = .ok (.lload_n 1, 1) := by decide +kernel
theorem dX4_digest_98 : decode cX4_digest 98 = .ok (.lmul, 1) := by decide +kernel
theorem dX4_digest_99 : decode cX4_digest 99 = .ok (.aload_n 0, 1) := by decide +kernel
theorem dX4_digest_100 : decode cX4_digest 100 = .ok (.iconst 4, 1) := by decide +kernel
theorem dX4_digest_101 : decode cX4_digest 101 = .ok (.invokevirtual 154, 3) := by decide +kernel
theorem dX4_digest_104 : decode cX4_digest 104 = .ok (.i2l, 1) := by decide +kernel
theorem dX4_digest_105 : decode cX4_digest 105 = .ok (.ladd, 1) := by decide +kernel
theorem dX4_digest_106 : decode cX4_digest 106 = .ok (.lstore_n 1, 1) := by decide +kernel
theorem dX4_digest_107 : decode cX4_digest 107 = .ok (.ldc2_w 173, 3) := by decide +kernel
theorem dX4_digest_110 : decode cX4_digest 110 = .ok (.lload_n 1, 1) := by decide +kernel
theorem dX4_digest_111 : decode cX4_digest 111 = .ok (.lmul, 1) := by decide +kernel
theorem dX4_digest_112 : decode cX4_digest 112 = .ok (.aload_n 0, 1) := by decide +kernel
theorem dX4_digest_113 : decode cX4_digest 113 = .ok (.invokevirtual 160, 3) := by decide +kernel
theorem dX4_digest_116 : decode cX4_digest 116 = .ok (.i2l, 1) := by decide +kernel
theorem dX4_digest_117 : decode cX4_digest 117 = .ok (.ladd, 1) := by decide +kernel
theorem dX4_digest_118 : decode cX4_digest 118 = .ok (.lstore_n 1, 1) := by decide +kernel
theorem dX4_digest_119 : decode cX4_digest 119 = .ok (.ldc2_w 173, 3) := by decide +kernel
theorem dX4_digest_122 : decode cX4_digest 122 = .ok (.lload_n 1, 1) := by decide +kernel
theorem dX4_digest_123 : decode cX4_digest 123 = .ok (.lmul, 1) := by decide +kernel
theorem dX4_digest_124 : decode cX4_digest 124 = .ok (.aload_n 0, 1) := by decide +kernel
theorem dX4_digest_125 : decode cX4_digest 125 = .ok (.invokevirtual 164, 3) := by decide +kernel
theorem dX4_digest_128 : decode cX4_digest 128 = .ok (.i2l, 1) := by decide +kernel
theorem dX4_digest_129 : decode cX4_digest 129 = .ok (.ladd, 1) := by decide +kernel
theorem dX4_digest_130 : decode cX4_digest 130 = .ok (.lstore_n 1, 1) := by decide +kernel
theorem dX4_digest_131 : decode cX4_digest 131 = .ok (.ldc2_w 173, 3) := by decide +kernel
theorem dX4_digest_134 : decode cX4_digest 134 = .ok (.lload_n 1, 1) := by decide +kernel
theorem dX4_digest_135 : decode cX4_digest 135 = .ok (.lmul, 1) := by decide +kernel
theorem dX4_digest_136 : decode cX4_digest 136 = .ok (.aload_n 0, 1) := by decide +kernel
theorem dX4_digest_137 : decode cX4_digest 137 = .ok (.invokevirtual 167, 3) := by decide +kernel
theorem dX4_digest_140 : decode cX4_digest 140 = .ok (.invokestatic 185, 3) := by decide +kernel
theorem dX4_digest_143 : decode cX4_digest 143 = .ok (.ladd, 1) := by decide +kernel
theorem dX4_digest_144 : decode cX4_digest 144 = .ok (.lstore_n 1, 1) := by decide +kernel
theorem dX4_digest_145 : decode cX4_digest 145 = .ok (.aload_n 0, 1) := by decide +kernel
theorem dX4_digest_146 : decode cX4_digest 146 = .ok (.lload_n 1, 1) := by decide +kernel
theorem dX4_digest_147 : decode cX4_digest 147 = .ok (.invokevirtual 191, 3) := by decide +kernel
theorem dX4_digest_150 : decode cX4_digest 150 = .ok (.lreturn, 1) := by decide +kernel
theorem dX4_needHolder_0 : decode cX4_needHolder 0 = .ok (.iload_n 0, 1) := by decide +kernel
theorem dX4_needHolder_1 : decode cX4_needHolder 1 = .ok (.ifCond .lt 9, 3) := by decide +kernel
theorem dX4_needHolder_4 : decode cX4_needHolder 4 = .ok (.iload_n 0, 1) := by decide +kernel
theorem dX4_needHolder_5 : decode cX4_needHolder 5 = .ok (.bipush 8, 2) := by decide +kernel
theorem dX4_needHolder_7 : decode cX4_needHolder 7 = .ok (.if_icmp .lt 11, 3) := by decide +kernel
theorem dX4_needHolder_10 : decode cX4_needHolder 10 = .ok (.new 194, 3) := by decide +kernel
theorem dX4_needHolder_13 : decode cX4_needHolder 13 = .ok (.dup, 1) := by decide +kernel
theorem dX4_needHolder_14 : decode cX4_needHolder 14 = .ok (.invokespecial 196, 3) := by decide +kernel
theorem dX4_needHolder_17 : decode cX4_needHolder 17 = .ok (.athrow, 1) := by decide +kernel
theorem dX4_needHolder_18 : decode cX4_needHolder 18 = .ok (.return_, 1) := by decide +kernel
theorem dX4_needNumber_0 : decode cX4_needNumber 0 = .ok (.aload_n 0, 1) := by decide +kernel
theorem dX4_needNumber_1 : decode cX4_needNumber 1 = .ok (.getfield 10, 3) := by decide +kernel
theorem dX4_needNumber_4 : decode cX4_needNumber 4 = .ok (.iload_n 1, 1) := by decide +kernel
theorem dX4_needNumber_5 : decode cX4_needNumber 5 = .ok (.invokevirtual 197, 3) := by decide +kernel
theorem dX4_needNumber_8 : decode cX4_needNumber 8 = .ok (.ifCond .ne 11, 3) := by decide +kernel
theorem dX4_needNumber_11 : decode cX4_needNumber 11 = .ok (.new 194, 3) := by decide +kernel
theorem dX4_needNumber_14 : decode cX4_needNumber 14 = .ok (.dup, 1) := by decide +kernel
theorem dX4_needNumber_15 : decode cX4_needNumber 15 = .ok (.invokespecial 196, 3) := by decide +kernel
theorem dX4_needNumber_18 : decode cX4_needNumber 18 = .ok (.athrow, 1) := by decide +kernel
theorem dX4_needNumber_19 : decode cX4_needNumber 19 = .ok (.return_, 1) := by decide +kernel
theorem dX4_needSetting_0 : decode cX4_needSetting 0 = .ok (.iload_n 0, 1) := by decide +kernel
theorem dX4_needSetting_1 : decode cX4_needSetting 1 = .ok (.ifCond .lt 8, 3) := by decide +kernel
theorem dX4_needSetting_4 : decode cX4_needSetting 4 = .ok (.iload_n 0, 1) := by decide +kernel
theorem dX4_needSetting_5 : decode cX4_needSetting 5 = .ok (.iconst 4, 1) := by decide +kernel
theorem dX4_needSetting_6 : decode cX4_needSetting 6 = .ok (.if_icmp .lt 11, 3) := by decide +kernel
theorem dX4_needSetting_9 : decode cX4_needSetting 9 = .ok (.new 194, 3) := by decide +kernel
theorem dX4_needSetting_12 : decode cX4_needSetting 12 = .ok (.dup, 1) := by decide +kernel
theorem dX4_needSetting_13 : decode cX4_needSetting 13 = .ok (.invokespecial 196, 3) := by decide +kernel
theorem dX4_needSetting_16 : decode cX4_needSetting 16 = .ok (.athrow, 1) := by decide +kernel
theorem dX4_needSetting_17 : decode cX4_needSetting 17 = .ok (.return_, 1) := by decide +kernel
theorem dX4_needRange_0 : decode cX4_needRange 0 = .ok (.iload_n 0, 1) := by decide +kernel
theorem dX4_needRange_1 : decode cX4_needRange 1 = .ok (.iload_n 1, 1) := by decide +kernel
theorem dX4_needRange_2 : decode cX4_needRange 2 = .ok (.if_icmp .lt 8, 3) := by decide +kernel
theorem dX4_needRange_5 : decode cX4_needRange 5 = .ok (.iload_n 0, 1) := by decide +kernel
theorem dX4_needRange_6 : decode cX4_needRange 6 = .ok (.iload_n 2, 1) := by decide +kernel
theorem dX4_needRange_7 : decode cX4_needRange 7 = .ok (.if_icmp .le 11, 3) := by decide +kernel
theorem dX4_needRange_10 : decode cX4_needRange 10 = .ok (.new 121, 3) := by decide +kernel
theorem dX4_needRange_13 : decode cX4_needRange 13 = .ok (.dup, 1) := by decide +kernel
theorem dX4_needRange_14 : decode cX4_needRange 14 = .ok (.invokespecial 123, 3) := by decide +kernel
theorem dX4_needRange_17 : decode cX4_needRange 17 = .ok (.athrow, 1) := by decide +kernel
theorem dX4_needRange_18 : decode cX4_needRange 18 = .ok (.return_, 1) := by decide +kernel
theorem dX4_needState_0 : decode cX4_needState 0 = .ok (.iload_n 0, 1) := by decide +kernel
theorem dX4_needState_1 : decode cX4_needState 1 = .ok (.ifCond .ne 11, 3) := by decide +kernel
theorem dX4_needState_4 : decode cX4_needState 4 = .ok (.new 200, 3) := by decide +kernel
theorem dX4_needState_7 : decode cX4_needState 7 = .ok (.dup, 1) := by decide +kernel
theorem dX4_needState_8 : decode cX4_needState 8 = .ok (.invokespecial 202, 3) := by decide +kernel
theorem dX4_needState_11 : decode cX4_needState 11 = .ok (.athrow, 1) := by decide +kernel
theorem dX4_needState_12 : decode cX4_needState 12 = .ok (.return_, 1) := by decide +kernel
theorem dX4_leaseLowest_0 : decode cX4_leaseLowest 0 = .ok (.iload_n 1, 1) := by decide +kernel
theorem dX4_leaseLowest_1 : decode cX4_leaseLowest 1 = .ok (.invokestatic 37, 3) := by decide +kernel
theorem dX4_leaseLowest_4 : decode cX4_leaseLowest 4 = .ok (.iload_n 2, 1) := by decide +kernel
theorem dX4_leaseLowest_5 : decode cX4_leaseLowest 5 = .ok (.iconst 1, 1) := by decide +kernel
theorem dX4_leaseLowest_6 : decode cX4_leaseLowest 6 = .ok (.bipush 64, 2) := by decide +kernel
theorem dX4_leaseLowest_8 : decode cX4_leaseLowest 8 = .ok (.invokestatic 44, 3) := by decide +kernel
theorem dX4_leaseLowest_11 : decode cX4_leaseLowest 11 = .ok (.iload_n 3, 1) := by decide +kernel
theorem dX4_leaseLowest_12 : decode cX4_leaseLowest 12 = .ok (.iconst 1, 1) := by decide +kernel
theorem dX4_leaseLowest_13 : decode cX4_leaseLowest 13 = .ok (.sipush 999, 3) := by decide +kernel
theorem dX4_leaseLowest_16 : decode cX4_leaseLowest 16 = .ok (.invokestatic 44, 3) := by decide +kernel
theorem dX4_leaseLowest_19 : decode cX4_leaseLowest 19 = .ok (.aload_n 0, 1) := by decide +kernel
theorem dX4_leaseLowest_20 : decode cX4_leaseLowest 20 = .ok (.getfield 10, 3) := by decide +kernel
theorem dX4_leaseLowest_23 : decode cX4_leaseLowest 23 = .ok (.iload_n 1, 1) := by decide +kernel
theorem dX4_leaseLowest_24 : decode cX4_leaseLowest 24 = .ok (.iload_n 2, 1) := by decide +kernel
theorem dX4_leaseLowest_25 : decode cX4_leaseLowest 25 = .ok (.invokevirtual 203, 3) := by decide +kernel
theorem dX4_leaseLowest_28 : decode cX4_leaseLowest 28 = .ok (.invokestatic 52, 3) := by decide +kernel
theorem dX4_leaseLowest_31 : decode cX4_leaseLowest 31 = .ok (.aload_n 0, 1) := by decide +kernel
theorem dX4_leaseLowest_32 : decode cX4_leaseLowest 32 = .ok (.getfield 22, 3) := by decide +kernel
theorem dX4_leaseLowest_35 : decode cX4_leaseLowest 35 = .ok (.aload_n 0, 1) := by decide +kernel
theorem dX4_leaseLowest_36 : decode cX4_leaseLowest 36 = .ok (.getfield 10, 3) := by decide +kernel
theorem dX4_leaseLowest_39 : decode cX4_leaseLowest 39 = .ok (.invokevirtual 56, 3) := by decide +kernel
theorem dX4_leaseLowest_42 : decode cX4_leaseLowest 42 = .ok (.aload_n 0, 1) := by decide +kernel
theorem dX4_leaseLowest_43 : decode cX4_leaseLowest 43 = .ok (.getfield 10, 3) := by decide +kernel
theorem dX4_leaseLowest_46 : decode cX4_leaseLowest 46 = .ok (.iload_n 1, 1) := by decide +kernel
theorem dX4_leaseLowest_47 : decode cX4_leaseLowest 47 = .ok (.iload_n 2, 1) := by decide +kernel
theorem dX4_leaseLowest_48 : decode cX4_leaseLowest 48 = .ok (.iload_n 3, 1) := by decide +kernel
theorem dX4_leaseLowest_49 : decode cX4_leaseLowest 49 = .ok (.invokevirtual 206, 3) := by decide +kernel
theorem dX4_leaseLowest_52 : decode cX4_leaseLowest 52 = .ok (.ireturn, 1) := by decide +kernel
theorem dX4_carryOut_0 : decode cX4_carryOut 0 = .ok (.aload_n 0, 1) := by decide +kernel
theorem dX4_carryOut_1 : decode cX4_carryOut 1 = .ok (.getfield 29, 3) := by decide +kernel
theorem dX4_carryOut_4 : decode cX4_carryOut 4 = .ok (.getfield 209, 3) := by decide +kernel
theorem dX4_carryOut_7 : decode cX4_carryOut 7 = .ok (.istore_n 1, 1) := by decide +kernel
theorem dX4_carryOut_8 : decode cX4_carryOut 8 = .ok (.aload_n 0, 1) := by decide +kernel
theorem dX4_carryOut_9 : decode cX4_carryOut 9 = .ok (.getfield 29, 3) := by decide +kernel
theorem dX4_carryOut_12 : decode cX4_carryOut 12 = .ok (.getfield 212, 3) := by decide +kernel
theorem dX4_carryOut_15 : decode cX4_carryOut 15 = .ok (.istore_n 2, 1) := by decide +kernel
theorem dX4_carryOut_16 : decode cX4_carryOut 16 = .ok (.aload_n 0, 1) := by decide +kernel
theorem dX4_carryOut_17 : decode cX4_carryOut 17 = .ok (.getfield 29, 3) := by decide +kernel
theorem dX4_carryOut_20 : decode cX4_carryOut 20 = .ok (.getfield 215, 3) := by decide +kernel
theorem dX4_carryOut_23 : decode cX4_carryOut 23 = .ok (.istore_n 3, 1) := by decide +kernel
theorem dX4_carryOut_24 : decode cX4_carryOut 24 = .ok (.aload_n 0, 1) := by decide +kernel
theorem dX4_carryOut_25 : decode cX4_carryOut 25 = .ok (.getfield 29, 3) := by decide +kernel
theorem dX4_carryOut_28 : decode cX4_carryOut 28 = .ok (.getfield 218, 3) := by decide +kernel
theorem dX4_carryOut_31 : decode cX4_carryOut 31 = .ok (.lookupswitch 135 #[(103, 98), (116, 33), (119, 60)], 33) := by decide +kernel
theorem dX4_carryOut_64 : decode cX4_carryOut 64 = .ok (.aload_n 0, 1) := by decide +kernel
theorem dX4_carryOut_65 : decode cX4_carryOut 65 = .ok (.getfield 10, 3) := by decide +kernel
theorem dX4_carryOut_68 : decode cX4_carryOut 68 = .ok (.iload_n 1, 1) := by decide +kernel
theorem dX4_carryOut_69 : decode cX4_carryOut 69 = .ok (.iconst 1, 1) := by decide +kernel
theorem dX4_carryOut_70 : decode cX4_carryOut 70 = .ok (.invokevirtual 203, 3) := by decide +kernel
theorem dX4_carryOut_73 : decode cX4_carryOut 73 = .ok (.ifCond .ne 5, 3) := by decide +kernel
theorem dX4_carryOut_76 : decode cX4_carryOut 76 = .ok (.iconst 0, 1) := by decide +kernel
theorem dX4_carryOut_77 : decode cX4_carryOut 77 = .ok (.ireturn, 1) := by decide +kernel
theorem dX4_carryOut_78 : decode cX4_carryOut 78 = .ok (.aload_n 0, 1) := by decide +kernel
theorem dX4_carryOut_79 : decode cX4_carryOut 79 = .ok (.getfield 10, 3) := by decide +kernel
theorem dX4_carryOut_82 : decode cX4_carryOut 82 = .ok (.iload_n 1, 1) := by decide +kernel
theorem dX4_carryOut_83 : decode cX4_carryOut 83 = .ok (.iconst 1, 1) := by decide +kernel
theorem dX4_carryOut_84 : decode cX4_carryOut 84 = .ok (.iload_n 3, 1) := by decide +kernel
theorem dX4_carryOut_85 : decode cX4_carryOut 85 = .ok (.invokevirtual 206, 3) := by decide +kernel
theorem dX4_carryOut_88 : decode cX4_carryOut 88 = .ok (.pop, 1) := by decide +kernel
theorem dX4_carryOut_89 : decode cX4_carryOut 89 = .ok (.iconst 1, 1) := by decide +kernel
theorem dX4_carryOut_90 : decode cX4_carryOut 90 = .ok (.ireturn, 1) := by decide +kernel
theorem dX4_carryOut_91 : decode cX4_carryOut 91 = .ok (.aload_n 0, 1) := by decide +kernel
theorem dX4_carryOut_92 : decode cX4_carryOut 92 = .ok (.getfield 10, 3) := by decide +kernel
theorem dX4_carryOut_95 : decode cX4_carryOut 95 = .ok (.iload_n 2, 1) := by decide +kernel
theorem dX4_carryOut_96 : decode cX4_carryOut 96 = .ok (.invokevirtual 197, 3) := by decide +kernel
theorem dX4_carryOut_99 : decode cX4_carryOut 99 = .ok (.ifCond .eq 15, 3) := by decide +kernel
theorem dX4_carryOut_102 : decode cX4_carryOut 102 = .ok (.aload_n 0, 1) := by decide +kernel
theorem dX4_carryOut_103 : decode cX4_carryOut 103 = .ok (.getfield 10, 3) := by decide +kernel
theorem dX4_carryOut_106 : decode cX4_carryOut 106 = .ok (.iload_n 1, 1) := by decide +kernel
theorem dX4_carryOut_107 : decode cX4_carryOut 107 = .ok (.iload_n 2, 1) := by decide +kernel
theorem dX4_carryOut_108 : decode cX4_carryOut 108 = .ok (.invokevirtual 48, 3) := by decide +kernel
theorem dX4_carryOut_111 : decode cX4_carryOut 111 = .ok (.ifCond .ne 5, 3) := by decide +kernel
theorem dX4_carryOut_114 : decode cX4_carryOut 114 = .ok (.iconst 0, 1) := by decide +kernel
theorem dX4_carryOut_115 : decode cX4_carryOut 115 = .ok (.ireturn, 1) := by decide +kernel
theorem dX4_carryOut_116 : decode cX4_carryOut 116 = .ok (.aload_n 0, 1) := by decide +kernel
theorem dX4_carryOut_117 : decode cX4_carryOut 117 = .ok (.getfield 10, 3) := by decide +kernel
theorem dX4_carryOut_120 : decode cX4_carryOut 120 = .ok (.iload_n 1, 1) := by decide +kernel
theorem dX4_carryOut_121 : decode cX4_carryOut 121 = .ok (.iload_n 2, 1) := by decide +kernel
theorem dX4_carryOut_122 : decode cX4_carryOut 122 = .ok (.iload_n 3, 1) := by decide +kernel
theorem dX4_carryOut_123 : decode cX4_carryOut 123 = .ok (.invokevirtual 60, 3) := by decide +kernel
theorem dX4_carryOut_126 : decode cX4_carryOut 126 = .ok (.pop, 1) := by decide +kernel
theorem dX4_carryOut_127 : decode cX4_carryOut 127 = .ok (.iconst 1, 1) := by decide +kernel
theorem dX4_carryOut_128 : decode cX4_carryOut 128 = .ok (.ireturn, 1) := by decide +kernel
theorem dX4_carryOut_129 : decode cX4_carryOut 129 = .ok (.aload_n 0, 1) := by decide +kernel
theorem dX4_carryOut_130 : decode cX4_carryOut 130 = .ok (.getfield 10, 3) := by decide +kernel
theorem dX4_carryOut_133 : decode cX4_carryOut 133 = .ok (.iload_n 2, 1) := by decide +kernel
theorem dX4_carryOut_134 : decode cX4_carryOut 134 = .ok (.invokevirtual 197, 3) := by decide +kernel
theorem dX4_carryOut_137 : decode cX4_carryOut 137 = .ok (.ifCond .eq 14, 3) := by decide +kernel
theorem dX4_carryOut_140 : decode cX4_carryOut 140 = .ok (.aload_n 0, 1) := by decide +kernel
theorem dX4_carryOut_141 : decode cX4_carryOut 141 = .ok (.getfield 10, 3) := by decide +kernel
theorem dX4_carryOut_144 : decode cX4_carryOut 144 = .ok (.iload_n 3, 1) := by decide +kernel
theorem dX4_carryOut_145 : decode cX4_carryOut 145 = .ok (.invokevirtual 197, 3) := by decide +kernel
theorem dX4_carryOut_148 : decode cX4_carryOut 148 = .ok (.ifCond .ne 5, 3) := by decide +kernel
theorem dX4_carryOut_151 : decode cX4_carryOut 151 = .ok (.iconst 0, 1) := by decide +kernel
theorem dX4_carryOut_152 : decode cX4_carryOut 152 = .ok (.ireturn, 1) := by decide +kernel
theorem dX4_carryOut_153 : decode cX4_carryOut 153 = .ok (.aload_n 0, 1) := by decide +kernel
theorem dX4_carryOut_154 : decode cX4_carryOut 154 = .ok (.getfield 10, 3) := by decide +kernel
theorem dX4_carryOut_157 : decode cX4_carryOut 157 = .ok (.iload_n 1, 1) := by decide +kernel
theorem dX4_carryOut_158 : decode cX4_carryOut 158 = .ok (.iload_n 2, 1) := by decide +kernel
theorem dX4_carryOut_159 : decode cX4_carryOut 159 = .ok (.iload_n 3, 1) := by decide +kernel
theorem dX4_carryOut_160 : decode cX4_carryOut 160 = .ok (.invokevirtual 81, 3) := by decide +kernel
theorem dX4_carryOut_163 : decode cX4_carryOut 163 = .ok (.pop, 1) := by decide +kernel
theorem dX4_carryOut_164 : decode cX4_carryOut 164 = .ok (.iconst 1, 1) := by decide +kernel
theorem dX4_carryOut_165 : decode cX4_carryOut 165 = .ok (.ireturn, 1) := by decide +kernel
theorem dX4_carryOut_166 : decode cX4_carryOut 166 = .ok (.aload_n 0, 1) := by decide +kernel
theorem dX4_carryOut_167 : decode cX4_carryOut 167 = .ok (.getfield 10, 3) := by decide +kernel
theorem dX4_carryOut_170 : decode cX4_carryOut 170 = .ok (.iload_n 3, 1) := by decide +kernel
theorem dX4_carryOut_171 : decode cX4_carryOut 171 = .ok (.invokevirtual 84, 3) := by decide +kernel
theorem dX4_carryOut_174 : decode cX4_carryOut 174 = .ok (.ifCond .ne 5, 3) := by decide +kernel
theorem dX4_carryOut_177 : decode cX4_carryOut 177 = .ok (.iconst 0, 1) := by decide +kernel
theorem dX4_carryOut_178 : decode cX4_carryOut 178 = .ok (.ireturn, 1) := by decide +kernel
theorem dX4_carryOut_179 : decode cX4_carryOut 179 = .ok (.aload_n 0, 1) := by decide +kernel
theorem dX4_carryOut_180 : decode cX4_carryOut 180 = .ok (.getfield 10, 3) := by decide +kernel
theorem dX4_carryOut_183 : decode cX4_carryOut 183 = .ok (.iload_n 3, 1) := by decide +kernel
theorem dX4_carryOut_184 : decode cX4_carryOut 184 = .ok (.invokevirtual 88, 3) := by decide +kernel
theorem dX4_carryOut_187 : decode cX4_carryOut 187 = .ok (.pop, 1) := by decide +kernel
theorem dX4_carryOut_188 : decode cX4_carryOut 188 = .ok (.iconst 1, 1) := by decide +kernel
theorem dX4_carryOut_189 : decode cX4_carryOut 189 = .ok (.ireturn, 1) := by decide +kernel
theorem dX4_countOf_0 : decode cX4_countOf 0 = .ok (.iload_n 1, 1) := by decide +kernel
theorem dX4_countOf_1 : decode cX4_countOf 1 = .ok (.bipush 12, 2) := by decide +kernel
theorem dX4_countOf_3 : decode cX4_countOf 3 = .ok (.if_icmp .ne 13, 3) := by decide +kernel
theorem dX4_countOf_6 : decode cX4_countOf 6 = .ok (.aload_n 0, 1) := by decide +kernel
theorem dX4_countOf_7 : decode cX4_countOf 7 = .ok (.getfield 22, 3) := by decide +kernel
theorem dX4_countOf_10 : decode cX4_countOf 10 = .ok (.getfield 133, 3) := by decide +kernel
theorem dX4_countOf_13 : decode cX4_countOf 13 = .ok (.goto 11, 3) := by decide +kernel
theorem dX4_countOf_16 : decode cX4_countOf 16 = .ok (.aload_n 0, 1) := by decide +kernel
theorem dX4_countOf_17 : decode cX4_countOf 17 = .ok (.getfield 10, 3) := by decide +kernel
theorem dX4_countOf_20 : decode cX4_countOf 20 = .ok (.iload_n 1, 1) := by decide +kernel
theorem dX4_countOf_21 : decode cX4_countOf 21 = .ok (.invokevirtual 221, 3) := by decide +kernel
theorem dX4_countOf_24 : decode cX4_countOf 24 = .ok (.ireturn, 1) := by decide +kernel
theorem dX4_holderAfter_0 : decode cX4_holderAfter 0 = .ok (.aload_n 0, 1) := by decide +kernel
theorem dX4_holderAfter_1 : decode cX4_holderAfter 1 = .ok (.getfield 16, 3) := by decide +kernel
theorem dX4_holderAfter_4 : decode cX4_holderAfter 4 = .ok (.aload_n 0, 1) := by decide +kernel
theorem dX4_holderAfter_5 : decode cX4_holderAfter 5 = .ok (.getfield 10, 3) := by decide +kernel
theorem dX4_holderAfter_8 : decode cX4_holderAfter 8 = .ok (.invokevirtual 224, 3) := by decide +kernel
theorem dX4_holderAfter_11 : decode cX4_holderAfter 11 = .ok (.aload_n 0, 1) := by decide +kernel
theorem dX4_holderAfter_12 : decode cX4_holderAfter 12 = .ok (.getfield 16, 3) := by decide +kernel
theorem dX4_holderAfter_15 : decode cX4_holderAfter 15 = .ok (.getfield 227, 3) := by decide +kernel
theorem dX4_holderAfter_18 : decode cX4_holderAfter 18 = .ok (.iload_n 2, 1) := by decide +kernel
theorem dX4_holderAfter_19 : decode cX4_holderAfter 19 = .ok (.iadd, 1) := by decide +kernel
theorem dX4_holderAfter_20 : decode cX4_holderAfter 20 = .ok (.istore_n 3, 1) := by decide +kernel
theorem dX4_holderAfter_21 : decode cX4_holderAfter 21 = .ok (.iconst 1, 1) := by decide +kernel
theorem dX4_holderAfter_22 : decode cX4_holderAfter 22 = .ok (.istore 4, 2) := by decide +kernel
theorem dX4_holderAfter_24 : decode cX4_holderAfter 24 = .ok (.iconst 0, 1) := by decide +kernel
theorem dX4_holderAfter_25 : decode cX4_holderAfter 25 = .ok (.istore 5, 2) := by decide +kernel
theorem dX4_holderAfter_27 : decode cX4_holderAfter 27 = .ok (.iload 5, 2) := by decide +kernel
theorem dX4_holderAfter_29 : decode cX4_holderAfter 29 = .ok (.iload_n 2, 1) := by decide +kernel
theorem dX4_holderAfter_30 : decode cX4_holderAfter 30 = .ok (.if_icmp .ge 24, 3) := by decide +kernel
theorem dX4_holderAfter_33 : decode cX4_holderAfter 33 = .ok (.iload 4, 2) := by decide +kernel
theorem dX4_holderAfter_35 : decode cX4_holderAfter 35 = .ok (.ifCond .eq 19, 3) := by decide +kernel
theorem dX4_holderAfter_38 : decode cX4_holderAfter 38 = .ok (.aload_n 0, 1) := by decide +kernel
theorem dX4_holderAfter_39 : decode cX4_holderAfter 39 = .ok (.getfield 16, 3) := by decide +kernel
theorem dX4_holderAfter_42 : decode cX4_holderAfter 42 = .ok (.iload_n 3, 1) := by decide +kernel
theorem dX4_holderAfter_43 : decode cX4_holderAfter 43 = .ok (.invokevirtual 230, 3) := by decide +kernel
theorem dX4_holderAfter_46 : decode cX4_holderAfter 46 = .ok (.istore 4, 2) := by decide +kernel
theorem dX4_holderAfter_48 : decode cX4_holderAfter 48 = .ok (.iinc 5 1, 3) := by decide +kernel
theorem dX4_holderAfter_51 : decode cX4_holderAfter 51 = .ok (.goto (-24), 3) := by decide +kernel
theorem dX4_holderAfter_54 : decode cX4_holderAfter 54 = .ok (.aload_n 0, 1) := by decide +kernel
theorem dX4_holderAfter_55 : decode cX4_holderAfter 55 = .ok (.getfield 16, 3) := by decide +kernel
theorem dX4_holderAfter_58 : decode cX4_holderAfter 58 = .ok (.getfield 233, 3) := by decide +kernel
theorem dX4_holderAfter_61 : decode cX4_holderAfter 61 = .ok (.iload_n 1, 1) := by decide +kernel
theorem dX4_holderAfter_62 : decode cX4_holderAfter 62 = .ok (.iaload, 1) := by decide +kernel
theorem dX4_holderAfter_63 : decode cX4_holderAfter 63 = .ok (.ireturn, 1) := by decide +kernel
theorem dX4_timeToFree_0 : decode cX4_timeToFree 0 = .ok (.aload_n 0, 1) := by decide +kernel
theorem dX4_timeToFree_1 : decode cX4_timeToFree 1 = .ok (.getfield 10, 3) := by decide +kernel
theorem dX4_timeToFree_4 : decode cX4_timeToFree 4 = .ok (.invokevirtual 236, 3) := by decide +kernel
theorem dX4_timeToFree_7 : decode cX4_timeToFree 7 = .ok (.iload_n 1, 1) := by decide +kernel
theorem dX4_timeToFree_8 : decode cX4_timeToFree 8 = .ok (.if_icmp .lt 5, 3) := by decide +kernel
theorem dX4_timeToFree_11 : decode cX4_timeToFree 11 = .ok (.iconst 0, 1) := by decide +kernel
theorem dX4_timeToFree_12 : decode cX4_timeToFree 12 = .ok (.ireturn, 1) := by decide +kernel
theorem dX4_timeToFree_13 : decode cX4_timeToFree 13 = .ok (.aload_n 0, 1) := by decide +kernel
theorem dX4_timeToFree_14 : decode cX4_timeToFree 14 = .ok (.getfield 16, 3) := by decide +kernel
theorem dX4_timeToFree_17 : decode cX4_timeToFree 17 = .ok (.aload_n 0, 1) := by decide +kernel
theorem dX4_timeToFree_18 : decode cX4_timeToFree 18 = .ok (.getfield 10, 3) := by decide +kernel
theorem dX4_timeToFree_21 : decode cX4_timeToFree 21 = .ok (.invokevirtual 224, 3) := by decide +kernel
theorem dX4_timeToFree_24 : decode cX4_timeToFree 24 = .ok (.aload_n 0, 1) := by decide +kernel
theorem dX4_timeToFree_25 : decode cX4_timeToFree 25 = .ok (.getfield 10, 3) := by decide +kernel
theorem dX4_timeToFree_28 : decode cX4_timeToFree 28 = .ok (.getfield 227, 3) := by decide +kernel
theorem dX4_timeToFree_31 : decode cX4_timeToFree 31 = .ok (.sipush 500, 3) := by decide +kernel
theorem dX4_timeToFree_34 : decode cX4_timeToFree 34 = .ok (.iadd, 1) := by decide +kernel
theorem dX4_timeToFree_35 : decode cX4_timeToFree 35 = .ok (.istore_n 2, 1) := by decide +kernel
theorem dX4_timeToFree_36 : decode cX4_timeToFree 36 = .ok (.iconst 0, 1) := by decide +kernel
theorem dX4_timeToFree_37 : decode cX4_timeToFree 37 = .ok (.istore_n 3, 1) := by decide +kernel
theorem dX4_timeToFree_38 : decode cX4_timeToFree 38 = .ok (.iload_n 3, 1) := by decide +kernel
theorem dX4_timeToFree_39 : decode cX4_timeToFree 39 = .ok (.sipush 500, 3) := by decide +kernel
theorem dX4_timeToFree_42 : decode cX4_timeToFree 42 = .ok (.if_icmp .ge 47, 3) := by decide +kernel
theorem dX4_timeToFree_45 : decode cX4_timeToFree 45 = .ok (.aload_n 0, 1) := by decide +kernel
theorem dX4_timeToFree_46 : decode cX4_timeToFree 46 = .ok (.getfield 16, 3) := by decide +kernel
theorem dX4_timeToFree_49 : decode cX4_timeToFree 49 = .ok (.iload_n 2, 1) := by decide +kernel
theorem dX4_timeToFree_50 : decode cX4_timeToFree 50 = .ok (.invokevirtual 230, 3) := by decide +kernel
theorem dX4_timeToFree_53 : decode cX4_timeToFree 53 = .ok (.ifCond .eq 36, 3) := by decide +kernel
theorem dX4_timeToFree_56 : decode cX4_timeToFree 56 = .ok (.aload_n 0, 1) := by decide +kernel
theorem dX4_timeToFree_57 : decode cX4_timeToFree 57 = .ok (.getfield 16, 3) := by decide +kernel
theorem dX4_timeToFree_60 : decode cX4_timeToFree 60 = .ok (.invokevirtual 236, 3) := by decide +kernel
theorem dX4_timeToFree_63 : decode cX4_timeToFree 63 = .ok (.iload_n 1, 1) := by decide +kernel
theorem dX4_timeToFree_64 : decode cX4_timeToFree 64 = .ok (.if_icmp .lt 19, 3) := by decide +kernel
theorem dX4_timeToFree_67 : decode cX4_timeToFree 67 = .ok (.aload_n 0, 1) := by decide +kernel
theorem dX4_timeToFree_68 : decode cX4_timeToFree 68 = .ok (.getfield 16, 3) := by decide +kernel
theorem dX4_timeToFree_71 : decode cX4_timeToFree 71 = .ok (.getfield 227, 3) := by decide +kernel
theorem dX4_timeToFree_74 : decode cX4_timeToFree 74 = .ok (.aload_n 0, 1) := by decide +kernel
theorem dX4_timeToFree_75 : decode cX4_timeToFree 75 = .ok (.getfield 10, 3) := by decide +kernel
theorem dX4_timeToFree_78 : decode cX4_timeToFree 78 = .ok (.getfield 227, 3) := by decide +kernel
theorem dX4_timeToFree_81 : decode cX4_timeToFree 81 = .ok (.isub, 1) := by decide +kernel
theorem dX4_timeToFree_82 : decode cX4_timeToFree 82 = .ok (.ireturn, 1) := by decide +kernel
theorem dX4_timeToFree_83 : decode cX4_timeToFree 83 = .ok (.iinc 3 1, 3) := by decide +kernel
theorem dX4_timeToFree_86 : decode cX4_timeToFree 86 = .ok (.goto (-48), 3) := by decide +kernel
theorem dX4_timeToFree_89 : decode cX4_timeToFree 89 = .ok (.iconst (-1), 1) := by decide +kernel
theorem dX4_timeToFree_90 : decode cX4_timeToFree 90 = .ok (.ireturn, 1) := by decide +kernel
theorem dX4_timeToWished_0 : decode cX4_timeToWished 0 = .ok (.aload_n 0, 1) := by decide +kernel
theorem dX4_timeToWished_1 : decode cX4_timeToWished 1 = .ok (.getfield 10, 3) := by decide +kernel
theorem dX4_timeToWished_4 : decode cX4_timeToWished 4 = .ok (.getfield 233, 3) := by decide +kernel
theorem dX4_timeToWished_7 : decode cX4_timeToWished 7 = .ok (.iload_n 2, 1) := by decide +kernel
theorem dX4_timeToWished_8 : decode cX4_timeToWished 8 = .ok (.iaload, 1) := by decide +kernel
theorem dX4_timeToWished_9 : decode cX4_timeToWished 9 = .ok (.iload_n 1, 1) := by decide +kernel
theorem dX4_timeToWished_10 : decode cX4_timeToWished 10 = .ok (.if_icmp .ne 5, 3) := by decide +kernel
theorem dX4_timeToWished_13 : decode cX4_timeToWished 13 = .ok (.iconst 0, 1) := by decide +kernel
theorem dX4_timeToWished_14 : decode cX4_timeToWished 14 = .ok (.ireturn, 1) := by decide +kernel
theorem dX4_timeToWished_15 : decode cX4_timeToWished 15 = .ok (.aload_n 0, 1) := by decide +kernel
theorem dX4_timeToWished_16 : decode cX4_timeToWished 16 = .ok (.getfield 10, 3) := by decide +kernel
theorem dX4_timeToWished_19 : decode cX4_timeToWished 19 = .ok (.iload_n 1, 1) := by decide +kernel
theorem dX4_timeToWished_20 : decode cX4_timeToWished 20 = .ok (.iload_n 2, 1) := by decide +kernel
theorem dX4_timeToWished_21 : decode cX4_timeToWished 21 = .ok (.invokevirtual 48, 3) := by decide +kernel
theorem dX4_timeToWished_24 : decode cX4_timeToWished 24 = .ok (.ifCond .ne 5, 3) := by decide +kernel
theorem dX4_timeToWished_27 : decode cX4_timeToWished 27 = .ok (.iconst (-1), 1) := by decide +kernel
theorem dX4_timeToWished_28 : decode cX4_timeToWished 28 = .ok (.ireturn, 1) := by decide +kernel
theorem dX4_timeToWished_29 : decode cX4_timeToWished 29 = .ok (.aload_n 0, 1) := by decide +kernel
theorem dX4_timeToWished_30 : decode cX4_timeToWished 30 = .ok (.getfield 16, 3) := by decide +kernel
theorem dX4_timeToWished_33 : decode cX4_timeToWished 33 = .ok (.aload_n 0, 1) := by decide +kernel
theorem dX4_timeToWished_34 : decode cX4_timeToWished 34 = .ok (.getfield 10, 3) := by decide +kernel
theorem dX4_timeToWished_37 : decode cX4_timeToWished 37 = .ok (.invokevirtual 224, 3) := by decide +kernel
theorem dX4_timeToWished_40 : decode cX4_timeToWished 40 = .ok (.aload_n 0, 1) := by decide +kernel
theorem dX4_timeToWished_41 : decode cX4_timeToWished 41 = .ok (.getfield 16, 3) := by decide +kernel
theorem dX4_timeToWished_44 : decode cX4_timeToWished 44 = .ok (.iload_n 1, 1) := by decide +kernel
theorem dX4_timeToWished_45 : decode cX4_timeToWished 45 = .ok (.iload_n 2, 1) := by decide +kernel
theorem dX4_timeToWished_46 : decode cX4_timeToWished 46 = .ok (.iconst 1, 1) := by decide +kernel
theorem dX4_timeToWished_47 : decode cX4_timeToWished 47 = .ok (.invokevirtual 60, 3) := by decide +kernel
theorem dX4_timeToWished_50 : decode cX4_timeToWished 50 = .ok (.ifCond .ne 5, 3) := by decide +kernel
theorem dX4_timeToWished_53 : decode cX4_timeToWished 53 = .ok (.iconst 0, 1) := by decide +kernel
theorem dX4_timeToWished_54 : decode cX4_timeToWished 54 = .ok (.ireturn, 1) := by decide +kernel
theorem dX4_timeToWished_55 : decode cX4_timeToWished 55 = .ok (.aload_n 0, 1) := by decide +kernel
theorem dX4_timeToWished_56 : decode cX4_timeToWished 56 = .ok (.getfield 10, 3) := by decide +kernel
theorem dX4_timeToWished_59 : decode cX4_timeToWished 59 = .ok (.getfield 227, 3) := by decide +kernel
theorem dX4_timeToWished_62 : decode cX4_timeToWished 62 = .ok (.sipush 500, 3) := by decide +kernel
theorem dX4_timeToWished_65 : decode cX4_timeToWished 65 = .ok (.iadd, 1) := by decide +kernel
theorem dX4_timeToWished_66 : decode cX4_timeToWished 66 = .ok (.istore_n 3, 1) := by decide +kernel
theorem dX4_timeToWished_67 : decode cX4_timeToWished 67 = .ok (.iconst 0, 1) := by decide +kernel
theorem dX4_timeToWished_68 : decode cX4_timeToWished 68 = .ok (.istore 4, 2) := by decide +kernel
theorem dX4_timeToWished_70 : decode cX4_timeToWished 70 = .ok (.iload 4, 2) := by decide +kernel
theorem dX4_timeToWished_72 : decode cX4_timeToWished 72 = .ok (.sipush 500, 3) := by decide +kernel
theorem dX4_timeToWished_75 : decode cX4_timeToWished 75 = .ok (.if_icmp .ge 49, 3) := by decide +kernel
theorem dX4_timeToWished_78 : decode cX4_timeToWished 78 = .ok (.aload_n 0, 1) := by decide +kernel
theorem dX4_timeToWished_79 : decode cX4_timeToWished 79 = .ok (.getfield 16, 3) := by decide +kernel
theorem dX4_timeToWished_82 : decode cX4_timeToWished 82 = .ok (.iload_n 3, 1) := by decide +kernel
theorem dX4_timeToWished_83 : decode cX4_timeToWished 83 = .ok (.invokevirtual 230, 3) := by decide +kernel
theorem dX4_timeToWished_86 : decode cX4_timeToWished 86 = .ok (.ifCond .eq 38, 3) := by decide +kernel
theorem dX4_timeToWished_89 : decode cX4_timeToWished 89 = .ok (.aload_n 0, 1) := by decide +kernel
theorem dX4_timeToWished_90 : decode cX4_timeToWished 90 = .ok (.getfield 16, 3) := by decide +kernel
theorem dX4_timeToWished_93 : decode cX4_timeToWished 93 = .ok (.getfield 233, 3) := by decide +kernel
theorem dX4_timeToWished_96 : decode cX4_timeToWished 96 = .ok (.iload_n 2, 1) := by decide +kernel
theorem dX4_timeToWished_97 : decode cX4_timeToWished 97 = .ok (.iaload, 1) := by decide +kernel
theorem dX4_timeToWished_98 : decode cX4_timeToWished 98 = .ok (.iload_n 1, 1) := by decide +kernel
theorem dX4_timeToWished_99 : decode cX4_timeToWished 99 = .ok (.if_icmp .ne 19, 3) := by decide +kernel
theorem dX4_timeToWished_102 : decode cX4_timeToWished 102 = .ok (.aload_n 0, 1) := by decide +kernel
theorem dX4_timeToWished_103 : decode cX4_timeToWished 103 = .ok (.getfield 16, 3) := by decide +kernel
theorem dX4_timeToWished_106 : decode cX4_timeToWished 106 = .ok (.getfield 227, 3) := by decide +kernel
theorem dX4_timeToWished_109 : decode cX4_timeToWished 109 = .ok (.aload_n 0, 1) := by decide +kernel
theorem dX4_timeToWished_110 : decode cX4_timeToWished 110 = .ok (.getfield 10, 3) := by decide +kernel
theorem dX4_timeToWished_113 : decode cX4_timeToWished 113 = .ok (.getfield 227, 3) := by decide +kernel
theorem dX4_timeToWished_116 : decode cX4_timeToWished 116 = .ok (.isub, 1) := by decide +kernel
theorem dX4_timeToWished_117 : decode cX4_timeToWished 117 = .ok (.ireturn, 1) := by decide +kernel
theorem dX4_timeToWished_118 : decode cX4_timeToWished 118 = .ok (.iinc 4 1, 3) := by decide +kernel
theorem dX4_timeToWished_121 : decode cX4_timeToWished 121 = .ok (.goto (-51), 3) := by decide +kernel
theorem dX4_timeToWished_124 : decode cX4_timeToWished 124 = .ok (.iconst (-1), 1) := by decide +kernel
theorem dX4_timeToWished_125 : decode cX4_timeToWished 125 = .ok (.ireturn, 1) := by decide +kernel
theorem dX4_fullnessBits_0 : decode cX4_fullnessBits 0 = .ok (.aload_n 0, 1) := by decide +kernel
theorem dX4_fullnessBits_1 : decode cX4_fullnessBits 1 = .ok (.getfield 10, 3) := by decide +kernel
theorem dX4_fullnessBits_4 : decode cX4_fullnessBits 4 = .ok (.getfield 104, 3) := by decide +kernel
theorem dX4_fullnessBits_7 : decode cX4_fullnessBits 7 = .ok (.iconst 3, 1) := by decide +kernel
theorem dX4_fullnessBits_8 : decode cX4_fullnessBits 8 = .ok (.iaload, 1) := by decide +kernel
theorem dX4_fullnessBits_9 : decode cX4_fullnessBits 9 = .ok (.istore_n 1, 1) := by decide +kernel
theorem dX4_fullnessBits_10 : decode cX4_fullnessBits 10 = .ok (.iload_n 1, 1) := by decide +kernel
theorem dX4_fullnessBits_11 : decode cX4_fullnessBits 11 = .ok (.ifCond .gt 5, 3) := by decide +kernel
theorem dX4_fullnessBits_14 : decode cX4_fullnessBits 14 = .ok (.iconst 0, 1) := by decide +kernel
theorem dX4_fullnessBits_15 : decode cX4_fullnessBits 15 = .ok (.ireturn, 1) := by decide +kernel
theorem dX4_fullnessBits_16 : decode cX4_fullnessBits 16 = .ok (.iload_n 1, 1) := by decide +kernel
theorem dX4_fullnessBits_17 : decode cX4_fullnessBits 17 = .ok (.aload_n 0, 1) := by decide +kernel
theorem dX4_fullnessBits_18 : decode cX4_fullnessBits 18 = .ok (.getfield 10, 3) := by decide +kernel
theorem dX4_fullnessBits_21 : decode cX4_fullnessBits 21 = .ok (.invokevirtual 236, 3) := by decide +kernel
theorem dX4_fullnessBits_24 : decode cX4_fullnessBits 24 = .ok (.isub, 1) := by decide +kernel
theorem dX4_fullnessBits_25 : decode cX4_fullnessBits 25 = .ok (.i2f, 1) := by decide +kernel
theorem dX4_fullnessBits_26 : decode cX4_fullnessBits 26 = .ok (.iload_n 1, 1) := by decide +kernel
theorem dX4_fullnessBits_27 : decode cX4_fullnessBits 27 = .ok (.i2f, 1) := by decide +kernel
theorem dX4_fullnessBits_28 : decode cX4_fullnessBits 28 = .ok (.fdiv, 1) := by decide +kernel
theorem dX4_fullnessBits_29 : decode cX4_fullnessBits 29 = .ok (.invokestatic 239, 3) := by decide +kernel
theorem dX4_fullnessBits_32 : decode cX4_fullnessBits 32 = .ok (.ireturn, 1) := by decide +kernel
theorem dX4_scatterBits_0 : decode cX4_scatterBits 0 = .ok (.aload_n 0, 1) := by decide +kernel
theorem dX4_scatterBits_1 : decode cX4_scatterBits 1 = .ok (.getfield 10, 3) := by decide +kernel
theorem dX4_scatterBits_4 : decode cX4_scatterBits 4 = .ok (.invokevirtual 236, 3) := by decide +kernel
theorem dX4_scatterBits_7 : decode cX4_scatterBits 7 = .ok (.istore_n 1, 1) := by decide +kernel
theorem dX4_scatterBits_8 : decode cX4_scatterBits 8 = .ok (.iload_n 1, 1) := by decide +kernel
theorem dX4_scatterBits_9 : decode cX4_scatterBits 9 = .ok (.ifCond .gt 8, 3) := by decide +kernel
theorem dX4_scatterBits_12 : decode cX4_scatterBits 12 = .ok (.fconst 0, 1) := by decide +kernel
theorem dX4_scatterBits_13 : decode cX4_scatterBits 13 = .ok (.invokestatic 239, 3) := by decide +kernel
theorem dX4_scatterBits_16 : decode cX4_scatterBits 16 = .ok (.ireturn, 1) := by decide +kernel
theorem dX4_scatterBits_17 : decode cX4_scatterBits 17 = .ok (.fconst 1, 1) := by decide +kernel
theorem dX4_scatterBits_18 : decode cX4_scatterBits 18 = .ok (.aload_n 0, 1) := by decide +kernel
theorem dX4_scatterBits_19 : decode cX4_scatterBits 19 = .ok (.getfield 10, 3) := by decide +kernel
theorem dX4_scatterBits_22 : decode cX4_scatterBits 22 = .ok (.invokevirtual 243, 3) := by decide +kernel
theorem dX4_scatterBits_25 : decode cX4_scatterBits 25 = .ok (.i2f, 1) := by decide +kernel
theorem dX4_scatterBits_26 : decode cX4_scatterBits 26 = .ok (.iload_n 1, 1) := by decide +kernel
theorem dX4_scatterBits_27 : decode cX4_scatterBits 27 = .ok (.i2f, 1) := by decide +kernel
theorem dX4_scatterBits_28 : decode cX4_scatterBits 28 = .ok (.fdiv, 1) := by decide +kernel
theorem dX4_scatterBits_29 : decode cX4_scatterBits 29 = .ok (.fsub, 1) := by decide +kernel
theorem dX4_scatterBits_30 : decode cX4_scatterBits 30 = .ok (.invokestatic 239, 3) := by decide +kernel
theorem dX4_scatterBits_33 : decode cX4_scatterBits 33 = .ok (.ireturn, 1) := by decide +kernel
theorem dX4_meanUnits_0 : decode cX4_meanUnits 0 = .ok (.aload_n 0, 1) := by decide +kernel
theorem dX4_meanUnits_1 : decode cX4_meanUnits 1 = .ok (.getfield 10, 3) := by decide +kernel
theorem dX4_meanUnits_4 : decode cX4_meanUnits 4 = .ok (.getfield 246, 3) := by decide +kernel
theorem dX4_meanUnits_7 : decode cX4_meanUnits 7 = .ok (.invokestatic 249, 3) := by decide +kernel
theorem dX4_meanUnits_10 : decode cX4_meanUnits 10 = .ok (.istore_n 1, 1) := by decide +kernel
theorem dX4_meanUnits_11 : decode cX4_meanUnits 11 = .ok (.iload_n 1, 1) := by decide +kernel
theorem dX4_meanUnits_12 : decode cX4_meanUnits 12 = .ok (.ifCond .ne 5, 3) := by decide +kernel
theorem dX4_meanUnits_15 : decode cX4_meanUnits 15 = .ok (.dconst 0, 1) := by decide +kernel
theorem dX4_meanUnits_16 : decode cX4_meanUnits 16 = .ok (.dreturn, 1) := by decide +kernel
theorem dX4_meanUnits_17 : decode cX4_meanUnits 17 = .ok (.aload_n 0, 1) := by decide +kernel
theorem dX4_meanUnits_18 : decode cX4_meanUnits 18 = .ok (.getfield 10, 3) := by decide +kernel
theorem dX4_meanUnits_21 : decode cX4_meanUnits 21 = .ok (.getfield 253, 3) := by decide +kernel
theorem dX4_meanUnits_24 : decode cX4_meanUnits 24 = .ok (.invokestatic 249, 3) := by decide +kernel
theorem dX4_meanUnits_27 : decode cX4_meanUnits 27 = .ok (.i2d, 1) := by decide +kernel
theorem dX4_meanUnits_28 : decode cX4_meanUnits 28 = .ok (.iload_n 1, 1) := by decide +kernel
theorem dX4_meanUnits_29 : decode cX4_meanUnits 29 = .ok (.i2d, 1) := by decide +kernel
theorem dX4_meanUnits_30 : decode cX4_meanUnits 30 = .ok (.ddiv, 1) := by decide +kernel
theorem dX4_meanUnits_31 : decode cX4_meanUnits 31 = .ok (.dreturn, 1) := by decide +kernel
theorem dX4_addNumbers_0 : decode cX4_addNumbers 0 = .ok (.lload_n 1, 1) := by decide +kernel
theorem dX4_addNumbers_1 : decode cX4_addNumbers 1 = .ok (.lstore_n 3, 1) := by decide +kernel
theorem dX4_addNumbers_2 : decode cX4_addNumbers 2 = .ok (.iconst 0, 1) := by decide +kernel
theorem dX4_addNumbers_3 : decode cX4_addNumbers 3 = .ok (.istore 5, 2) := by decide +kernel
theorem dX4_addNumbers_5 : decode cX4_addNumbers 5 = .ok (.iload 5, 2) := by decide +kernel
theorem dX4_addNumbers_7 : decode cX4_addNumbers 7 = .ok (.aload_n 0, 1) := by decide +kernel
theorem dX4_addNumbers_8 : decode cX4_addNumbers 8 = .ok (.getfield 10, 3) := by decide +kernel
theorem dX4_addNumbers_11 : decode cX4_addNumbers 11 = .ok (.getfield 104, 3) := by decide +kernel
theorem dX4_addNumbers_14 : decode cX4_addNumbers 14 = .ok (.iconst 3, 1) := by decide +kernel
theorem dX4_addNumbers_15 : decode cX4_addNumbers 15 = .ok (.iaload, 1) := by decide +kernel
theorem dX4_addNumbers_16 : decode cX4_addNumbers 16 = .ok (.if_icmp .ge 44, 3) := by decide +kernel
theorem dX4_addNumbers_19 : decode cX4_addNumbers 19 = .ok (.iconst 0, 1) := by decide +kernel
theorem dX4_addNumbers_20 : decode cX4_addNumbers 20 = .ok (.istore 6, 2) := by decide +kernel
theorem dX4_addNumbers_22 : decode cX4_addNumbers 22 = .ok (.iload 6, 2) := by decide +kernel
theorem dX4_addNumbers_24 : decode cX4_addNumbers 24 = .ok (.bipush 8, 2) := by decide +kernel
theorem dX4_addNumbers_26 : decode cX4_addNumbers 26 = .ok (.if_icmp .gt 28, 3) := by decide +kernel
theorem dX4_addNumbers_29 : decode cX4_addNumbers 29 = .ok (.ldc2_w 173, 3) := by decide +kernel
theorem dX4_addNumbers_32 : decode cX4_addNumbers 32 = .ok (.lload_n 3, 1) := by decide +kernel
theorem dX4_addNumbers_33 : decode cX4_addNumbers 33 = .ok (.lmul, 1) := by decide +kernel
theorem dX4_addNumbers_34 : decode cX4_addNumbers 34 = .ok (.aload_n 0, 1) := by decide +kernel
theorem dX4_addNumbers_35 : decode cX4_addNumbers 35 = .ok (.getfield 10, 3) := by decide +kernel
theorem dX4_addNumbers_38 : decode cX4_addNumbers 38 = .ok (.iload 5, 2) := by decide +kernel
theorem dX4_addNumbers_40 : decode cX4_addNumbers 40 = .ok (.iload 6, 2) := by decide +kernel
theorem dX4_addNumbers_42 : decode cX4_addNumbers 42 = .ok (.invokevirtual 139, 3) := by decide +kernel
theorem dX4_addNumbers_45 : decode cX4_addNumbers 45 = .ok (.i2l, 1) := by decide +kernel
theorem dX4_addNumbers_46 : decode cX4_addNumbers 46 = .ok (.ladd, 1) := by decide +kernel
theorem dX4_addNumbers_47 : decode cX4_addNumbers 47 = .ok (.lstore_n 3, 1) := by decide +kernel
theorem dX4_addNumbers_48 : decode cX4_addNumbers 48 = .ok (.iinc 6 1, 3) := by decide +kernel
theorem dX4_addNumbers_51 : decode cX4_addNumbers 51 = .ok (.goto (-29), 3) := by decide +kernel
theorem dX4_addNumbers_54 : decode cX4_addNumbers 54 = .ok (.iinc 5 1, 3) := by decide +kernel
theorem dX4_addNumbers_57 : decode cX4_addNumbers 57 = .ok (.goto (-52), 3) := by decide +kernel
theorem dX4_addNumbers_60 : decode cX4_addNumbers 60 = .ok (.lload_n 3, 1) := by decide +kernel
theorem dX4_addNumbers_61 : decode cX4_addNumbers 61 = .ok (.lreturn, 1) := by decide +kernel
theorem dX4_addHolders_0 : decode cX4_addHolders 0 = .ok (.lload_n 1, 1) := by decide +kernel
theorem dX4_addHolders_1 : decode cX4_addHolders 1 = .ok (.lstore_n 3, 1) := by decide +kernel
theorem dX4_addHolders_2 : decode cX4_addHolders 2 = .ok (.iconst 0, 1) := by decide +kernel
theorem dX4_addHolders_3 : decode cX4_addHolders 3 = .ok (.istore 5, 2) := by decide +kernel
theorem dX4_addHolders_5 : decode cX4_addHolders 5 = .ok (.iload 5, 2) := by decide +kernel
theorem dX4_addHolders_7 : decode cX4_addHolders 7 = .ok (.bipush 8, 2) := by decide +kernel
theorem dX4_addHolders_9 : decode cX4_addHolders 9 = .ok (.if_icmp .ge 59, 3) := by decide +kernel
theorem dX4_addHolders_12 : decode cX4_addHolders 12 = .ok (.iconst 0, 1) := by decide +kernel
theorem dX4_addHolders_13 : decode cX4_addHolders 13 = .ok (.istore 6, 2) := by decide +kernel
theorem dX4_addHolders_15 : decode cX4_addHolders 15 = .ok (.iload 6, 2) := by decide +kernel
theorem dX4_addHolders_17 : decode cX4_addHolders 17 = .ok (.bipush 7, 2) := by decide +kernel
theorem dX4_addHolders_19 : decode cX4_addHolders 19 = .ok (.if_icmp .gt 28, 3) := by decide +kernel
theorem dX4_addHolders_22 : decode cX4_addHolders 22 = .ok (.ldc2_w 173, 3) := by decide +kernel
theorem dX4_addHolders_25 : decode cX4_addHolders 25 = .ok (.lload_n 3, 1) := by decide +kernel
theorem dX4_addHolders_26 : decode cX4_addHolders 26 = .ok (.lmul, 1) := by decide +kernel
theorem dX4_addHolders_27 : decode cX4_addHolders 27 = .ok (.aload_n 0, 1) := by decide +kernel
theorem dX4_addHolders_28 : decode cX4_addHolders 28 = .ok (.getfield 10, 3) := by decide +kernel
theorem dX4_addHolders_31 : decode cX4_addHolders 31 = .ok (.iload 5, 2) := by decide +kernel
theorem dX4_addHolders_33 : decode cX4_addHolders 33 = .ok (.iload 6, 2) := by decide +kernel
theorem dX4_addHolders_35 : decode cX4_addHolders 35 = .ok (.invokevirtual 142, 3) := by decide +kernel
theorem dX4_addHolders_38 : decode cX4_addHolders 38 = .ok (.i2l, 1) := by decide +kernel
theorem dX4_addHolders_39 : decode cX4_addHolders 39 = .ok (.ladd, 1) := by decide +kernel
theorem dX4_addHolders_40 : decode cX4_addHolders 40 = .ok (.lstore_n 3, 1) := by decide +kernel
theorem dX4_addHolders_41 : decode cX4_addHolders 41 = .ok (.iinc 6 1, 3) := by decide +kernel
theorem dX4_addHolders_44 : decode cX4_addHolders 44 = .ok (.goto (-29), 3) := by decide +kernel
theorem dX4_addHolders_47 : decode cX4_addHolders 47 = .ok (.ldc2_w 173, 3) := by decide +kernel
theorem dX4_addHolders_50 : decode cX4_addHolders 50 = .ok (.lload_n 3, 1) := by decide +kernel
theorem dX4_addHolders_51 : decode cX4_addHolders 51 = .ok (.lmul, 1) := by decide +kernel
theorem dX4_addHolders_52 : decode cX4_addHolders 52 = .ok (.aload_n 0, 1) := by decide +kernel
theorem dX4_addHolders_53 : decode cX4_addHolders 53 = .ok (.iload 5, 2) := by decide +kernel
theorem dX4_addHolders_55 : decode cX4_addHolders 55 = .ok (.iconst 0, 1) := by decide +kernel
theorem dX4_addHolders_56 : decode cX4_addHolders 56 = .ok (.invokevirtual 157, 3) := by decide +kernel
theorem dX4_addHolders_59 : decode cX4_addHolders 59 = .ok (.i2l, 1) := by decide +kernel
theorem dX4_addHolders_60 : decode cX4_addHolders 60 = .ok (.ladd, 1) := by decide +kernel
theorem dX4_addHolders_61 : decode cX4_addHolders 61 = .ok (.lstore_n 3, 1) := by decide +kernel
theorem dX4_addHolders_62 : decode cX4_addHolders 62 = .ok (.iinc 5 1, 3) := by decide +kernel
theorem dX4_addHolders_65 : decode cX4_addHolders 65 = .ok (.goto (-60), 3) := by decide +kernel
theorem dX4_addHolders_68 : decode cX4_addHolders 68 = .ok (.lload_n 3, 1) := by decide +kernel
theorem dX4_addHolders_69 : decode cX4_addHolders 69 = .ok (.lreturn, 1) := by decide +kernel
theorem dX4_addSpans_0 : decode cX4_addSpans 0 = .ok (.lload_n 1, 1) := by decide +kernel
theorem dX4_addSpans_1 : decode cX4_addSpans 1 = .ok (.lstore_n 3, 1) := by decide +kernel
theorem dX4_addSpans_2 : decode cX4_addSpans 2 = .ok (.aload_n 0, 1) := by decide +kernel
theorem dX4_addSpans_3 : decode cX4_addSpans 3 = .ok (.getfield 10, 3) := by decide +kernel
theorem dX4_addSpans_6 : decode cX4_addSpans 6 = .ok (.invokevirtual 256, 3) := by decide +kernel
theorem dX4_addSpans_9 : decode cX4_addSpans 9 = .ok (.istore 5, 2) := by decide +kernel
theorem dX4_addSpans_11 : decode cX4_addSpans 11 = .ok (.iconst 0, 1) := by decide +kernel
theorem dX4_addSpans_12 : decode cX4_addSpans 12 = .ok (.istore 6, 2) := by decide +kernel
theorem dX4_addSpans_14 : decode cX4_addSpans 14 = .ok (.iload 6, 2) := by decide +kernel
theorem dX4_addSpans_16 : decode cX4_addSpans 16 = .ok (.iload 5, 2) := by decide +kernel
theorem dX4_addSpans_18 : decode cX4_addSpans 18 = .ok (.if_icmp .ge 45, 3) := by decide +kernel
theorem dX4_addSpans_21 : decode cX4_addSpans 21 = .ok (.ldc2_w 173, 3) := by decide +kernel
theorem dX4_addSpans_24 : decode cX4_addSpans 24 = .ok (.lload_n 3, 1) := by decide +kernel
theorem dX4_addSpans_25 : decode cX4_addSpans 25 = .ok (.lmul, 1) := by decide +kernel
theorem dX4_addSpans_26 : decode cX4_addSpans 26 = .ok (.aload_n 0, 1) := by decide +kernel
theorem dX4_addSpans_27 : decode cX4_addSpans 27 = .ok (.getfield 10, 3) := by decide +kernel
theorem dX4_addSpans_30 : decode cX4_addSpans 30 = .ok (.iload 6, 2) := by decide +kernel
theorem dX4_addSpans_32 : decode cX4_addSpans 32 = .ok (.iconst 0, 1) := by decide +kernel
theorem dX4_addSpans_33 : decode cX4_addSpans 33 = .ok (.invokevirtual 145, 3) := by decide +kernel
theorem dX4_addSpans_36 : decode cX4_addSpans 36 = .ok (.i2l, 1) := by decide +kernel
theorem dX4_addSpans_37 : decode cX4_addSpans 37 = .ok (.ladd, 1) := by decide +kernel
theorem dX4_addSpans_38 : decode cX4_addSpans 38 = .ok (.lstore_n 3, 1) := by decide +kernel
theorem dX4_addSpans_39 : decode cX4_addSpans 39 = .ok (.ldc2_w 173, 3) := by decide +kernel
theorem dX4_addSpans_42 : decode cX4_addSpans 42 = .ok (.lload_n 3, 1) := by decide +kernel
theorem dX4_addSpans_43 : decode cX4_addSpans 43 = .ok (.lmul, 1) := by decide +kernel
theorem dX4_addSpans_44 : decode cX4_addSpans 44 = .ok (.aload_n 0, 1) := by decide +kernel
theorem dX4_addSpans_45 : decode cX4_addSpans 45 = .ok (.getfield 10, 3) := by decide +kernel
theorem dX4_addSpans_48 : decode cX4_addSpans 48 = .ok (.iload 6, 2) := by decide +kernel
theorem dX4_addSpans_50 : decode cX4_addSpans 50 = .ok (.iconst 1, 1) := by decide +kernel
theorem dX4_addSpans_51 : decode cX4_addSpans 51 = .ok (.invokevirtual 145, 3) := by decide +kernel
theorem dX4_addSpans_54 : decode cX4_addSpans 54 = .ok (.i2l, 1) := by decide +kernel
theorem dX4_addSpans_55 : decode cX4_addSpans 55 = .ok (.ladd, 1) := by decide +kernel
theorem dX4_addSpans_56 : decode cX4_addSpans 56 = .ok (.lstore_n 3, 1) := by decide +kernel
theorem dX4_addSpans_57 : decode cX4_addSpans 57 = .ok (.iinc 6 1, 3) := by decide +kernel
theorem dX4_addSpans_60 : decode cX4_addSpans 60 = .ok (.goto (-46), 3) := by decide +kernel
theorem dX4_addSpans_63 : decode cX4_addSpans 63 = .ok (.lload_n 3, 1) := by decide +kernel
theorem dX4_addSpans_64 : decode cX4_addSpans 64 = .ok (.lreturn, 1) := by decide +kernel
theorem dX4_addBuffer_0 : decode cX4_addBuffer 0 = .ok (.ldc2_w 173, 3) := by decide +kernel
theorem dX4_addBuffer_3 : decode cX4_addBuffer 3 = .ok (.lload_n 1, 1) := by decide +kernel
theorem dX4_addBuffer_4 : decode cX4_addBuffer 4 = .ok (.lmul, 1) := by decide +kernel
theorem dX4_addBuffer_5 : decode cX4_addBuffer 5 = .ok (.aload_n 0, 1) := by decide +kernel
theorem dX4_addBuffer_6 : decode cX4_addBuffer 6 = .ok (.getfield 29, 3) := by decide +kernel
theorem dX4_addBuffer_9 : decode cX4_addBuffer 9 = .ok (.getfield 107, 3) := by decide +kernel
theorem dX4_addBuffer_12 : decode cX4_addBuffer 12 = .ok (.i2l, 1) := by decide +kernel
theorem dX4_addBuffer_13 : decode cX4_addBuffer 13 = .ok (.ladd, 1) := by decide +kernel
theorem dX4_addBuffer_14 : decode cX4_addBuffer 14 = .ok (.lstore_n 3, 1) := by decide +kernel
theorem dX4_addBuffer_15 : decode cX4_addBuffer 15 = .ok (.iconst 0, 1) := by decide +kernel
theorem dX4_addBuffer_16 : decode cX4_addBuffer 16 = .ok (.istore 5, 2) := by decide +kernel
theorem dX4_addBuffer_18 : decode cX4_addBuffer 18 = .ok (.iload 5, 2) := by decide +kernel
theorem dX4_addBuffer_20 : decode cX4_addBuffer 20 = .ok (.aload_n 0, 1) := by decide +kernel
theorem dX4_addBuffer_21 : decode cX4_addBuffer 21 = .ok (.getfield 29, 3) := by decide +kernel
theorem dX4_addBuffer_24 : decode cX4_addBuffer 24 = .ok (.getfield 107, 3) := by decide +kernel
theorem dX4_addBuffer_27 : decode cX4_addBuffer 27 = .ok (.if_icmp .ge 26, 3) := by decide +kernel
theorem dX4_addBuffer_30 : decode cX4_addBuffer 30 = .ok (.ldc2_w 173, 3) := by decide +kernel
theorem dX4_addBuffer_33 : decode cX4_addBuffer 33 = .ok (.lload_n 3, 1) := by decide +kernel
theorem dX4_addBuffer_34 : decode cX4_addBuffer 34 = .ok (.lmul, 1) := by decide +kernel
theorem dX4_addBuffer_35 : decode cX4_addBuffer 35 = .ok (.aload_n 0, 1) := by decide +kernel
theorem dX4_addBuffer_36 : decode cX4_addBuffer 36 = .ok (.getfield 29, 3) := by decide +kernel
theorem dX4_addBuffer_39 : decode cX4_addBuffer 39 = .ok (.iload 5, 2) := by decide +kernel
theorem dX4_addBuffer_41 : decode cX4_addBuffer 41 = .ok (.invokevirtual 259, 3) := by decide +kernel
theorem dX4_addBuffer_44 : decode cX4_addBuffer 44 = .ok (.i2l, 1) := by decide +kernel
theorem dX4_addBuffer_45 : decode cX4_addBuffer 45 = .ok (.ladd, 1) := by decide +kernel
theorem dX4_addBuffer_46 : decode cX4_addBuffer 46 = .ok (.lstore_n 3, 1) := by decide +kernel
theorem dX4_addBuffer_47 : decode cX4_addBuffer 47 = .ok (.iinc 5 1, 3) := by decide +kernel
theorem dX4_addBuffer_50 : decode cX4_addBuffer 50 = .ok (.goto (-32), 3) := by decide +kernel
theorem dX4_addBuffer_53 : decode cX4_addBuffer 53 = .ok (.lload_n 3, 1) := by decide +kernel
theorem dX4_addBuffer_54 : decode cX4_addBuffer 54 = .ok (.lreturn, 1) := by decide +kernel
theorem dX4_sum_0 : decode cX4_sum 0 = .ok (.iconst 0, 1) := by decide +kernel
theorem dX4_sum_1 : decode cX4_sum 1 = .ok (.istore_n 1, 1) := by decide +kernel
theorem dX4_sum_2 : decode cX4_sum 2 = .ok (.aload_n 0, 1) := by decide +kernel
theorem dX4_sum_3 : decode cX4_sum 3 = .ok (.astore_n 2, 1) := by decide +kernel
theorem dX4_sum_4 : decode cX4_sum 4 = .ok (.aload_n 2, 1) := by decide +kernel
theorem dX4_sum_5 : decode cX4_sum 5 = .ok (.arraylength, 1) := by decide +kernel
theorem dX4_sum_6 : decode cX4_sum 6 = .ok (.istore_n 3, 1) := by decide +kernel
theorem dX4_sum_7 : decode cX4_sum 7 = .ok (.iconst 0, 1) := by decide +kernel
theorem dX4_sum_8 : decode cX4_sum 8 = .ok (.istore 4, 2) := by decide +kernel
theorem dX4_sum_10 : decode cX4_sum 10 = .ok (.iload 4, 2) := by decide +kernel
theorem dX4_sum_12 : decode cX4_sum 12 = .ok (.iload_n 3, 1) := by decide +kernel
theorem dX4_sum_13 : decode cX4_sum 13 = .ok (.if_icmp .ge 20, 3) := by decide +kernel
theorem dX4_sum_16 : decode cX4_sum 16 = .ok (.aload_n 2, 1) := by decide +kernel
theorem dX4_sum_17 : decode cX4_sum 17 = .ok (.iload 4, 2) := by decide +kernel
theorem dX4_sum_19 : decode cX4_sum 19 = .ok (.iaload, 1) := by decide +kernel
theorem dX4_sum_20 : decode cX4_sum 20 = .ok (.istore 5, 2) := by decide +kernel
theorem dX4_sum_22 : decode cX4_sum 22 = .ok (.iload_n 1, 1) := by decide +kernel
theorem dX4_sum_23 : decode cX4_sum 23 = .ok (.iload 5, 2) := by decide +kernel
theorem dX4_sum_25 : decode cX4_sum 25 = .ok (.iadd, 1) := by decide +kernel
theorem dX4_sum_26 : decode cX4_sum 26 = .ok (.istore_n 1, 1) := by decide +kernel
theorem dX4_sum_27 : decode cX4_sum 27 = .ok (.iinc 4 1, 3) := by decide +kernel
theorem dX4_sum_30 : decode cX4_sum 30 = .ok (.goto (-20), 3) := by decide +kernel
theorem dX4_sum_33 : decode cX4_sum 33 = .ok (.iload_n 1, 1) := by decide +kernel
theorem dX4_sum_34 : decode cX4_sum 34 = .ok (.ireturn, 1) := by decide +kernel
theorem dX5_init_0 : decode cX5_init 0 = .ok (.aload_n 0, 1) := by decide +kernel
theorem dX5_init_1 : decode cX5_init 1 = .ok (.invokespecial 1, 3) := by decide +kernel
theorem dX5_init_4 : decode cX5_init 4 = .ok (.aload_n 0, 1) := by decide +kernel
theorem dX5_init_5 : decode cX5_init 5 = .ok (.sipush 800, 3) := by decide +kernel
theorem dX5_init_8 : decode cX5_init 8 = .ok (.newarray .int, 2) := by decide +kernel
theorem dX5_init_10 : decode cX5_init 10 = .ok (.putfield 7, 3) := by decide +kernel
theorem dX5_init_13 : decode cX5_init 13 = .ok (.aload_n 0, 1) := by decide +kernel
theorem dX5_init_14 : decode cX5_init 14 = .ok (.sipush 800, 3) := by decide +kernel
theorem dX5_init_17 : decode cX5_init 17 = .ok (.newarray .int, 2) := by decide +kernel
theorem dX5_init_19 : decode cX5_init 19 = .ok (.putfield 13, 3) := by decide +kernel
theorem dX5_init_22 : decode cX5_init 22 = .ok (.aload_n 0, 1) := by decide +kernel
theorem dX5_init_23 : decode cX5_init 23 = .ok (.sipush 4800, 3) := by decide +kernel
theorem dX5_init_26 : decode cX5_init 26 = .ok (.newarray .int, 2) := by decide +kernel
theorem dX5_init_28 : decode cX5_init 28 = .ok (.putfield 16, 3) := by decide +kernel
theorem dX5_init_31 : decode cX5_init 31 = .ok (.aload_n 0, 1) := by decide +kernel
theorem dX5_init_32 : decode cX5_init 32 = .ok (.bipush 60, 2) := by decide +kernel
theorem dX5_init_34 : decode cX5_init 34 = .ok (.newarray .int, 2) := by decide +kernel
theorem dX5_init_36 : decode cX5_init 36 = .ok (.putfield 19, 3) := by decide +kernel
theorem dX5_init_39 : decode cX5_init 39 = .ok (.aload_n 0, 1) := by decide +kernel
theorem dX5_init_40 : decode cX5_init 40 = .ok (.bipush 124, 2) := by decide +kernel
theorem dX5_init_42 : decode cX5_init 42 = .ok (.newarray .int, 2) := by decide +kernel
theorem dX5_init_44 : decode cX5_init 44 = .ok (.putfield 22, 3) := by decide +kernel
theorem dX5_init_47 : decode cX5_init 47 = .ok (.aload_n 0, 1) := by decide +kernel
theorem dX5_init_48 : decode cX5_init 48 = .ok (.getfield 7, 3) := by decide +kernel
theorem dX5_init_51 : decode cX5_init 51 = .ok (.iconst 1, 1) := by decide +kernel
theorem dX5_init_52 : decode cX5_init 52 = .ok (.iconst 5, 1) := by decide +kernel
theorem dX5_init_53 : decode cX5_init 53 = .ok (.iastore, 1) := by decide +kernel
theorem dX5_init_54 : decode cX5_init 54 = .ok (.aload_n 0, 1) := by decide +kernel
theorem dX5_init_55 : decode cX5_init 55 = .ok (.getfield 7, 3) := by decide +kernel
theorem dX5_init_58 : decode cX5_init 58 = .ok (.iconst 2, 1) := by decide +kernel
theorem dX5_init_59 : decode cX5_init 59 = .ok (.bipush 16, 2) := by decide +kernel
theorem dX5_init_61 : decode cX5_init 61 = .ok (.iastore, 1) := by decide +kernel
theorem dX5_init_62 : decode cX5_init 62 = .ok (.aload_n 0, 1) := by decide +kernel
theorem dX5_init_63 : decode cX5_init 63 = .ok (.getfield 7, 3) := by decide +kernel
theorem dX5_init_66 : decode cX5_init 66 = .ok (.iconst 4, 1) := by decide +kernel
theorem dX5_init_67 : decode cX5_init 67 = .ok (.bipush 32, 2) := by decide +kernel
theorem dX5_init_69 : decode cX5_init 69 = .ok (.iastore, 1) := by decide +kernel
theorem dX5_init_70 : decode cX5_init 70 = .ok (.iconst 0, 1) := by decide +kernel
theorem dX5_init_71 : decode cX5_init 71 = .ok (.istore_n 1, 1) := by decide +kernel
theorem dX5_init_72 : decode cX5_init 72 = .ok (.iload_n 1, 1) := by decide +kernel
theorem dX5_init_73 : decode cX5_init 73 = .ok (.bipush 64, 2) := by decide +kernel
theorem dX5_init_75 : decode cX5_init 75 = .ok (.if_icmp .ge 22, 3) := by decide +kernel
theorem dX5_init_78 : decode cX5_init 78 = .ok (.aload_n 0, 1) := by decide +kernel
theorem dX5_init_79 : decode cX5_init 79 = .ok (.getfield 7, 3) := by decide +kernel
theorem dX5_init_82 : decode cX5_init 82 = .ok (.bipush 32, 2) := by decide +kernel
theorem dX5_init_84 : decode cX5_init 84 = .ok (.bipush 12, 2) := by decide +kernel
theorem dX5_init_86 : decode cX5_init 86 = .ok (.iload_n 1, 1) := by decide +kernel
theorem dX5_init_87 : decode cX5_init 87 = .ok (.imul, 1) := by decide +kernel
theorem dX5_init_88 : decode cX5_init 88 = .ok (.iadd, 1) := by decide +kernel
theorem dX5_init_89 : decode cX5_init 89 = .ok (.iconst (-1), 1) := by decide +kernel
theorem dX5_init_90 : decode cX5_init 90 = .ok (.iastore, 1) := by decide +kernel
theorem dX5_init_91 : decode cX5_init 91 = .ok (.iinc 1 1, 3) := by decide +kernel
theorem dX5_init_94 : decode cX5_init 94 = .ok (.goto (-22), 3) := by decide +kernel
theorem dX5_init_97 : decode cX5_init 97 = .ok (.return_, 1) := by decide +kernel
theorem dX5_thrown_0 : decode cX5_thrown 0 = .ok (.aload_n 0, 1) := by decide +kernel
theorem dX5_thrown_1 : decode cX5_thrown 1 = .ok (.getfield 25, 3) := by decide +kernel
theorem dX5_thrown_4 : decode cX5_thrown 4 = .ok (.ireturn, 1) := by decide +kernel
theorem dX5_fails_0 : decode cX5_fails 0 = .ok (.aload_n 0, 1) := by decide +kernel
theorem dX5_fails_1 : decode cX5_fails 1 = .ok (.iload_n 1, 1) := by decide +kernel
theorem dX5_fails_2 : decode cX5_fails 2 = .ok (.putfield 25, 3) := by decide +kernel
theorem dX5_fails_5 : decode cX5_fails 5 = .ok (.iconst 0, 1) := by decide +kernel
theorem dX5_fails_6 : decode cX5_fails 6 = .ok (.ireturn, 1) := by decide +kernel
theorem dX5_in_0 : decode cX5_in 0 = .ok (.iload_n 0, 1) := by decide +kernel
theorem dX5_in_1 : decode cX5_in 1 = .ok (.iload_n 1, 1) := by decide +kernel
theorem dX5_in_2 : decode cX5_in 2 = .ok (.if_icmp .lt 12, 3) := by decide +kernel
theorem dX5_in_5 : decode cX5_in 5 = .ok (.iload_n 0, 1) := by decide +kernel
theorem dX5_in_6 : decode cX5_in 6 = .ok (.iload_n 2, 1) := by decide +kernel
theorem dX5_in_7 : decode cX5_in 7 = .ok (.if_icmp .gt 7, 3) := by decide +kernel
theorem dX5_in_10 : decode cX5_in 10 = .ok (.iconst 1, 1) := by decide +kernel
theorem dX5_in_11 : decode cX5_in 11 = .ok (.goto 4, 3) := by decide +kernel
theorem dX5_in_14 : decode cX5_in 14 = .ok (.iconst 0, 1) := by decide +kernel
theorem dX5_in_15 : decode cX5_in 15 = .ok (.ireturn, 1) := by decide +kernel
theorem dX5_isHolder_0 : decode cX5_isHolder 0 = .ok (.iload_n 0, 1) := by decide +kernel
theorem dX5_isHolder_1 : decode cX5_isHolder 1 = .ok (.iconst 0, 1) := by decide +kernel
theorem dX5_isHolder_2 : decode cX5_isHolder 2 = .ok (.bipush 7, 2) := by decide +kernel
theorem dX5_isHolder_4 : decode cX5_isHolder 4 = .ok (.invokestatic 29, 3) := by decide +kernel
theorem dX5_isHolder_7 : decode cX5_isHolder 7 = .ok (.ireturn, 1) := by decide +kernel
theorem dX5_isNumber_0 : decode cX5_isNumber 0 = .ok (.iload_n 1, 1) := by decide +kernel
theorem dX5_isNumber_1 : decode cX5_isNumber 1 = .ok (.iconst 0, 1) := by decide +kernel
theorem dX5_isNumber_2 : decode cX5_isNumber 2 = .ok (.aload_n 0, 1) := by decide +kernel
theorem dX5_isNumber_3 : decode cX5_isNumber 3 = .ok (.getfield 7, 3) := by decide +kernel
theorem dX5_isNumber_6 : decode cX5_isNumber 6 = .ok (.iconst 4, 1) := by decide +kernel
theorem dX5_isNumber_7 : decode cX5_isNumber 7 = .ok (.iaload, 1) := by decide +kernel
theorem dX5_isNumber_8 : decode cX5_isNumber 8 = .ok (.iconst 1, 1) := by decide +kernel
theorem dX5_isNumber_9 : decode cX5_isNumber 9 = .ok (.isub, 1) := by decide +kernel
theorem dX5_isNumber_10 : decode cX5_isNumber 10 = .ok (.invokestatic 29, 3) := by decide +kernel
theorem dX5_isNumber_13 : decode cX5_isNumber 13 = .ok (.ireturn, 1) := by decide +kernel
theorem dX5_isTerm_0 : decode cX5_isTerm 0 = .ok (.iload_n 0, 1) := by decide +kernel
theorem dX5_isTerm_1 : decode cX5_isTerm 1 = .ok (.iconst 1, 1) := by decide +kernel
theorem dX5_isTerm_2 : decode cX5_isTerm 2 = .ok (.sipush 999, 3) := by decide +kernel
theorem dX5_isTerm_5 : decode cX5_isTerm 5 = .ok (.invokestatic 29, 3) := by decide +kernel
theorem dX5_isTerm_8 : decode cX5_isTerm 8 = .ok (.ireturn, 1) := by decide +kernel
theorem dX5_saves_0 : decode cX5_saves 0 = .ok (.aload_n 0, 1) := by decide +kernel
theorem dX5_saves_1 : decode cX5_saves 1 = .ok (.getfield 33, 3) := by decide +kernel
theorem dX5_saves_4 : decode cX5_saves 4 = .ok (.bipush 6, 2) := by decide +kernel
theorem dX5_saves_6 : decode cX5_saves 6 = .ok (.if_icmp .ne 44, 3) := by decide +kernel
theorem dX5_saves_9 : decode cX5_saves 9 = .ok (.iconst 0, 1) := by decide +kernel
theorem dX5_saves_10 : decode cX5_saves 10 = .ok (.istore_n 1, 1) := by decide +kernel
theorem dX5_saves_11 : decode cX5_saves 11 = .ok (.iload_n 1, 1) := by decide +kernel
theorem dX5_saves_12 : decode cX5_saves 12 = .ok (.sipush 4000, 3) := by decide +kernel
theorem dX5_saves_15 : decode cX5_saves 15 = .ok (.if_icmp .ge 25, 3) := by decide +kernel
theorem dX5_saves_18 : decode cX5_saves 18 = .ok (.aload_n 0, 1) := by decide +kernel
theorem dX5_saves_19 : decode cX5_saves 19 = .ok (.getfield 16, 3) := by decide +kernel
theorem dX5_saves_22 : decode cX5_saves 22 = .ok (.iload_n 1, 1) := by decide +kernel
theorem dX5_saves_23 : decode cX5_saves 23 = .ok (.aload_n 0, 1) := by decide +kernel
theorem dX5_saves_24 : decode cX5_saves 24 = .ok (.getfield 16, 3) := by decide +kernel
theorem dX5_saves_27 : decode cX5_saves 27 = .ok (.iload_n 1, 1) := by decide +kernel
theorem dX5_saves_28 : decode cX5_saves 28 = .ok (.sipush 800, 3) := by decide +kernel
theorem dX5_saves_31 : decode cX5_saves 31 = .ok (.iadd, 1) := by decide +kernel
theorem dX5_saves_32 : decode cX5_saves 32 = .ok (.iaload, 1) := by decide +kernel
theorem dX5_saves_33 : decode cX5_saves 33 = .ok (.iastore, 1) := by decide +kernel
theorem dX5_saves_34 : decode cX5_saves 34 = .ok (.iinc 1 1, 3) := by decide +kernel
theorem dX5_saves_37 : decode cX5_saves 37 = .ok (.goto (-26), 3) := by decide +kernel
theorem dX5_saves_40 : decode cX5_saves 40 = .ok (.aload_n 0, 1) := by decide +kernel
theorem dX5_saves_41 : decode cX5_saves 41 = .ok (.dup, 1) := by decide +kernel
theorem dX5_saves_42 : decode cX5_saves 42 = .ok (.getfield 33, 3) := by decide +kernel
theorem dX5_saves_45 : decode cX5_saves 45 = .ok (.iconst 1, 1) := by decide +kernel
theorem dX5_saves_46 : decode cX5_saves 46 = .ok (.isub, 1) := by decide +kernel
theorem dX5_saves_47 : decode cX5_saves 47 = .ok (.putfield 33, 3) := by decide +kernel
theorem dX5_saves_50 : decode cX5_saves 50 = .ok (.iconst 0, 1) := by decide +kernel
theorem dX5_saves_51 : decode cX5_saves 51 = .ok (.istore_n 1, 1) := by decide +kernel
theorem dX5_saves_52 : decode cX5_saves 52 = .ok (.iload_n 1, 1) := by decide +kernel
theorem dX5_saves_53 : decode cX5_saves 53 = .ok (.sipush 800, 3) := by decide +kernel
theorem dX5_saves_56 : decode cX5_saves 56 = .ok (.if_icmp .ge 30, 3) := by decide +kernel
theorem dX5_saves_59 : decode cX5_saves 59 = .ok (.aload_n 0, 1) := by decide +kernel
theorem dX5_saves_60 : decode cX5_saves 60 = .ok (.getfield 16, 3) := by decide +kernel
theorem dX5_saves_63 : decode cX5_saves 63 = .ok (.sipush 800, 3) := by decide +kernel
theorem dX5_saves_66 : decode cX5_saves 66 = .ok (.aload_n 0, 1) := by decide +kernel
theorem dX5_saves_67 : decode cX5_saves 67 = .ok (.getfield 33, 3) := by decide +kernel
theorem dX5_saves_70 : decode cX5_saves 70 = .ok (.imul, 1) := by decide +kernel
theorem dX5_saves_71 : decode cX5_saves 71 = .ok (.iload_n 1, 1) := by decide +kernel
theorem dX5_saves_72 : decode cX5_saves 72 = .ok (.iadd, 1) := by decide +kernel
theorem dX5_saves_73 : decode cX5_saves 73 = .ok (.aload_n 0, 1) := by decide +kernel
theorem dX5_saves_74 : decode cX5_saves 74 = .ok (.getfield 7, 3) := by decide +kernel
theorem dX5_saves_77 : decode cX5_saves 77 = .ok (.iload_n 1, 1) := by decide +kernel
theorem dX5_saves_78 : decode cX5_saves 78 = .ok (.iaload, 1) := by decide +kernel
theorem dX5_saves_79 : decode cX5_saves 79 = .ok (.iastore, 1) := by decide +kernel
theorem dX5_saves_80 : decode cX5_saves 80 = .ok (.iinc 1 1, 3) := by decide +kernel
theorem dX5_saves_83 : decode cX5_saves 83 = .ok (.goto (-31), 3) := by decide +kernel
theorem dX5_saves_86 : decode cX5_saves 86 = .ok (.aload_n 0, 1) := by decide +kernel
theorem dX5_saves_87 : decode cX5_saves 87 = .ok (.dup, 1) := by decide +kernel
theorem dX5_saves_88 : decode cX5_saves 88 = .ok (.getfield 33, 3) := by decide +kernel
theorem dX5_saves_91 : decode cX5_saves 91 = .ok (.iconst 1, 1) := by decide +kernel
theorem dX5_saves_92 : decode cX5_saves 92 = .ok (.iadd, 1) := by decide +kernel
theorem dX5_saves_93 : decode cX5_saves 93 = .ok (.putfield 33, 3) := by decide +kernel
theorem dX5_saves_96 : decode cX5_saves 96 = .ok (.return_, 1) := by decide +kernel
theorem dX5_undo_0 : decode cX5_undo 0 = .ok (.aload_n 0, 1) := by decide +kernel
theorem dX5_undo_1 : decode cX5_undo 1 = .ok (.iconst 0, 1) := by decide +kernel
theorem dX5_undo_2 : decode cX5_undo 2 = .ok (.putfield 25, 3) := by decide +kernel
theorem dX5_undo_5 : decode cX5_undo 5 = .ok (.aload_n 0, 1) := by decide +kernel
theorem dX5_undo_6 : decode cX5_undo 6 = .ok (.getfield 33, 3) := by decide +kernel
theorem dX5_undo_9 : decode cX5_undo 9 = .ok (.ifCond .ne 9, 3) := by decide +kernel
theorem dX5_undo_12 : decode cX5_undo 12 = .ok (.aload_n 0, 1) := by decide +kernel
theorem dX5_undo_13 : decode cX5_undo 13 = .ok (.iconst 1, 1) := by decide +kernel
theorem dX5_undo_14 : decode cX5_undo 14 = .ok (.invokevirtual 36, 3) := by decide +kernel
theorem dX5_undo_17 : decode cX5_undo 17 = .ok (.ireturn, 1) := by decide +kernel
theorem dX5_undo_18 : decode cX5_undo 18 = .ok (.aload_n 0, 1) := by decide +kernel
theorem dX5_undo_19 : decode cX5_undo 19 = .ok (.dup, 1) := by decide +kernel
theorem dX5_undo_20 : decode cX5_undo 20 = .ok (.getfield 33, 3) := by decide +kernel
theorem dX5_undo_23 : decode cX5_undo 23 = .ok (.iconst 1, 1) := by decide +kernel
theorem dX5_undo_24 : decode cX5_undo 24 = .ok (.isub, 1) := by decide +kernel
theorem dX5_undo_25 : decode cX5_undo 25 = .ok (.putfield 33, 3) := by decide +kernel
theorem dX5_undo_28 : decode cX5_undo 28 = .ok (.iconst 0, 1) := by decide +kernel
theorem dX5_undo_29 : decode cX5_undo 29 = .ok (.istore_n 1, 1) := by decide +kernel
theorem dX5_undo_30 : decode cX5_undo 30 = .ok (.iload_n 1, 1) := by decide +kernel
theorem dX5_undo_31 : decode cX5_undo 31 = .ok (.sipush 800, 3) := by decide +kernel
theorem dX5_undo_34 : decode cX5_undo 34 = .ok (.if_icmp .ge 30, 3) := by decide +kernel
theorem dX5_undo_37 : decode cX5_undo 37 = .ok (.aload_n 0, 1) := by decide +kernel
theorem dX5_undo_38 : decode cX5_undo 38 = .ok (.getfield 7, 3) := by decide +kernel
theorem dX5_undo_41 : decode cX5_undo 41 = .ok (.iload_n 1, 1) := by decide +kernel
theorem dX5_undo_42 : decode cX5_undo 42 = .ok (.aload_n 0, 1) := by decide +kernel
theorem dX5_undo_43 : decode cX5_undo 43 = .ok (.getfield 16, 3) := by decide +kernel
theorem dX5_undo_46 : decode cX5_undo 46 = .ok (.sipush 800, 3) := by decide +kernel
theorem dX5_undo_49 : decode cX5_undo 49 = .ok (.aload_n 0, 1) := by decide +kernel
theorem dX5_undo_50 : decode cX5_undo 50 = .ok (.getfield 33, 3) := by decide +kernel
theorem dX5_undo_53 : decode cX5_undo 53 = .ok (.imul, 1) := by decide +kernel
theorem dX5_undo_54 : decode cX5_undo 54 = .ok (.iload_n 1, 1) := by decide +kernel
theorem dX5_undo_55 : decode cX5_undo 55 = .ok (.iadd, 1) := by decide +kernel
theorem dX5_undo_56 : decode cX5_undo 56 = .ok (.iaload, 1) := by decide +kernel
theorem dX5_undo_57 : decode cX5_undo 57 = .ok (.iastore, 1) := by decide +kernel
theorem dX5_undo_58 : decode cX5_undo 58 = .ok (.iinc 1 1, 3) := by decide +kernel
theorem dX5_undo_61 : decode cX5_undo 61 = .ok (.goto (-31), 3) := by decide +kernel
theorem dX5_undo_64 : decode cX5_undo 64 = .ok (.aload_n 0, 1) := by decide +kernel
theorem dX5_undo_65 : decode cX5_undo 65 = .ok (.getfield 33, 3) := by decide +kernel
theorem dX5_undo_68 : decode cX5_undo 68 = .ok (.ireturn, 1) := by decide +kernel
theorem dX5_tries_0 : decode cX5_tries 0 = .ok (.iconst 0, 1) := by decide +kernel
theorem dX5_tries_1 : decode cX5_tries 1 = .ok (.istore_n 1, 1) := by decide +kernel
theorem dX5_tries_2 : decode cX5_tries 2 = .ok (.iload_n 1, 1) := by decide +kernel
theorem dX5_tries_3 : decode cX5_tries 3 = .ok (.sipush 800, 3) := by decide +kernel
theorem dX5_tries_6 : decode cX5_tries 6 = .ok (.if_icmp .ge 21, 3) := by decide +kernel
theorem dX5_tries_9 : decode cX5_tries 9 = .ok (.aload_n 0, 1) := by decide +kernel
theorem dX5_tries_10 : decode cX5_tries 10 = .ok (.getfield 13, 3) := by decide +kernel
theorem dX5_tries_13 : decode cX5_tries 13 = .ok (.iload_n 1, 1) := by decide +kernel
theorem dX5_tries_14 : decode cX5_tries 14 = .ok (.aload_n 0, 1) := by decide +kernel
theorem dX5_tries_15 : decode cX5_tries 15 = .ok (.getfield 7, 3) := by decide +kernel
theorem dX5_tries_18 : decode cX5_tries 18 = .ok (.iload_n 1, 1) := by decide +kernel
theorem dX5_tries_19 : decode cX5_tries 19 = .ok (.iaload, 1) := by decide +kernel
theorem dX5_tries_20 : decode cX5_tries 20 = .ok (.iastore, 1) := by decide +kernel
theorem dX5_tries_21 : decode cX5_tries 21 = .ok (.iinc 1 1, 3) := by decide +kernel
theorem dX5_tries_24 : decode cX5_tries 24 = .ok (.goto (-22), 3) := by decide +kernel
theorem dX5_tries_27 : decode cX5_tries 27 = .ok (.return_, 1) := by decide +kernel
theorem dX5_row_0 : decode cX5_row 0 = .ok (.bipush 32, 2) := by decide +kernel
theorem dX5_row_2 : decode cX5_row 2 = .ok (.bipush 12, 2) := by decide +kernel
theorem dX5_row_4 : decode cX5_row 4 = .ok (.iload_n 0, 1) := by decide +kernel
theorem dX5_row_5 : decode cX5_row 5 = .ok (.imul, 1) := by decide +kernel
theorem dX5_row_6 : decode cX5_row 6 = .ok (.iadd, 1) := by decide +kernel
theorem dX5_row_7 : decode cX5_row 7 = .ok (.ireturn, 1) := by decide +kernel
theorem dX5_isFree_0 : decode cX5_isFree 0 = .ok (.aload_n 0, 1) := by decide +kernel
theorem dX5_isFree_1 : decode cX5_isFree 1 = .ok (.iload_n 1, 1) := by decide +kernel
theorem dX5_isFree_2 : decode cX5_isFree 2 = .ok (.invokestatic 40, 3) := by decide +kernel
theorem dX5_isFree_5 : decode cX5_isFree 5 = .ok (.iaload, 1) := by decide +kernel
theorem dX5_isFree_6 : decode cX5_isFree 6 = .ok (.iconst (-1), 1) := by decide +kernel
theorem dX5_isFree_7 : decode cX5_isFree 7 = .ok (.if_icmp .ne 7, 3) := by decide +kernel
theorem dX5_isFree_10 : decode cX5_isFree 10 = .ok (.iconst 1, 1) := by decide +kernel
theorem dX5_isFree_11 : decode cX5_isFree 11 = .ok (.goto 4, 3) := by decide +kernel
theorem dX5_isFree_14 : decode cX5_isFree 14 = .ok (.iconst 0, 1) := by decide +kernel
theorem dX5_isFree_15 : decode cX5_isFree 15 = .ok (.ireturn, 1) := by decide +kernel
theorem dX5_stageOf_0 : decode cX5_stageOf 0 = .ok (.aload_n 0, 1) := by decide +kernel
theorem dX5_stageOf_1 : decode cX5_stageOf 1 = .ok (.iload_n 1, 1) := by decide +kernel
theorem dX5_stageOf_2 : decode cX5_stageOf 2 = .ok (.invokestatic 43, 3) := by decide +kernel
theorem dX5_stageOf_5 : decode cX5_stageOf 5 = .ok (.ifCond .eq 7, 3) := by decide +kernel
theorem dX5_stageOf_8 : decode cX5_stageOf 8 = .ok (.iconst 0, 1) := by decide +kernel
theorem dX5_stageOf_9 : decode cX5_stageOf 9 = .ok (.goto 22, 3) := by decide +kernel
theorem dX5_stageOf_12 : decode cX5_stageOf 12 = .ok (.aload_n 0, 1) := by decide +kernel
theorem dX5_stageOf_13 : decode cX5_stageOf 13 = .ok (.iconst 0, 1) := by decide +kernel
theorem dX5_stageOf_14 : decode cX5_stageOf 14 = .ok (.iaload, 1) := by decide +kernel
theorem dX5_stageOf_15 : decode cX5_stageOf 15 = .ok (.aload_n 0, 1) := by decide +kernel
theorem dX5_stageOf_16 : decode cX5_stageOf 16 = .ok (.iload_n 1, 1) := by decide +kernel
theorem dX5_stageOf_17 : decode cX5_stageOf 17 = .ok (.invokestatic 40, 3) := by decide +kernel
theorem dX5_stageOf_20 : decode cX5_stageOf 20 = .ok (.iconst 2, 1) := by decide +kernel
theorem dX5_stageOf_21 : decode cX5_stageOf 21 = .ok (.iadd, 1) := by decide +kernel
theorem dX5_stageOf_22 : decode cX5_stageOf 22 = .ok (.iaload, 1) := by decide +kernel
theorem dX5_stageOf_23 : decode cX5_stageOf 23 = .ok (.if_icmp .ge 7, 3) := by decide +kernel
theorem dX5_stageOf_26 : decode cX5_stageOf 26 = .ok (.iconst 1, 1) := by decide +kernel
theorem dX5_stageOf_27 : decode cX5_stageOf 27 = .ok (.goto 4, 3) := by decide +kernel
theorem dX5_stageOf_30 : decode cX5_stageOf 30 = .ok (.iconst 2, 1) := by decide +kernel
theorem dX5_stageOf_31 : decode cX5_stageOf 31 = .ok (.ireturn, 1) := by decide +kernel
theorem dX5_has_0 : decode cX5_has 0 = .ok (.iconst 0, 1) := by decide +kernel
theorem dX5_has_1 : decode cX5_has 1 = .ok (.istore_n 2, 1) := by decide +kernel
theorem dX5_has_2 : decode cX5_has 2 = .ok (.iconst 0, 1) := by decide +kernel
theorem dX5_has_3 : decode cX5_has 3 = .ok (.istore_n 3, 1) := by decide +kernel
theorem dX5_has_4 : decode cX5_has 4 = .ok (.iload_n 3, 1) := by decide +kernel
theorem dX5_has_5 : decode cX5_has 5 = .ok (.aload_n 0, 1) := by decide +kernel
theorem dX5_has_6 : decode cX5_has 6 = .ok (.iconst 4, 1) := by decide +kernel
theorem dX5_has_7 : decode cX5_has 7 = .ok (.iaload, 1) := by decide +kernel
theorem dX5_has_8 : decode cX5_has 8 = .ok (.if_icmp .ge 27, 3) := by decide +kernel
theorem dX5_has_11 : decode cX5_has 11 = .ok (.iload_n 2, 1) := by decide +kernel
theorem dX5_has_12 : decode cX5_has 12 = .ok (.aload_n 0, 1) := by decide +kernel
theorem dX5_has_13 : decode cX5_has 13 = .ok (.iload_n 3, 1) := by decide +kernel
theorem dX5_has_14 : decode cX5_has 14 = .ok (.invokestatic 40, 3) := by decide +kernel
theorem dX5_has_17 : decode cX5_has 17 = .ok (.iaload, 1) := by decide +kernel
theorem dX5_has_18 : decode cX5_has 18 = .ok (.iload_n 1, 1) := by decide +kernel
theorem dX5_has_19 : decode cX5_has 19 = .ok (.if_icmp .ne 7, 3) := by decide +kernel
theorem dX5_has_22 : decode cX5_has 22 = .ok (.iconst 1, 1) := by decide +kernel
theorem dX5_has_23 : decode cX5_has 23 = .ok (.goto 4, 3) := by decide +kernel
theorem dX5_has_26 : decode cX5_has 26 = .ok (.iconst 0, 1) := by decide +kernel
theorem dX5_has_27 : decode cX5_has 27 = .ok (.iadd, 1) := by decide +kernel
theorem dX5_has_28 : decode cX5_has 28 = .ok (.istore_n 2, 1) := by decide +kernel
theorem dX5_has_29 : decode cX5_has 29 = .ok (.iinc 3 1, 3) := by decide +kernel
theorem dX5_has_32 : decode cX5_has 32 = .ok (.goto (-28), 3) := by decide +kernel
theorem dX5_has_35 : decode cX5_has 35 = .ok (.iload_n 2, 1) := by decide +kernel
theorem dX5_has_36 : decode cX5_has 36 = .ok (.ireturn, 1) := by decide +kernel
theorem dX5_hasRoom_0 : decode cX5_hasRoom 0 = .ok (.aload_n 0, 1) := by decide +kernel
theorem dX5_hasRoom_1 : decode cX5_hasRoom 1 = .ok (.iload_n 1, 1) := by decide +kernel
theorem dX5_hasRoom_2 : decode cX5_hasRoom 2 = .ok (.invokestatic 47, 3) := by decide +kernel
theorem dX5_hasRoom_5 : decode cX5_hasRoom 5 = .ok (.iload_n 2, 1) := by decide +kernel
theorem dX5_hasRoom_6 : decode cX5_hasRoom 6 = .ok (.iadd, 1) := by decide +kernel
theorem dX5_hasRoom_7 : decode cX5_hasRoom 7 = .ok (.aload_n 0, 1) := by decide +kernel
theorem dX5_hasRoom_8 : decode cX5_hasRoom 8 = .ok (.iconst 2, 1) := by decide +kernel
theorem dX5_hasRoom_9 : decode cX5_hasRoom 9 = .ok (.iaload, 1) := by decide +kernel
theorem dX5_hasRoom_10 : decode cX5_hasRoom 10 = .ok (.if_icmp .gt 7, 3) := by decide +kernel
theorem dX5_hasRoom_13 : decode cX5_hasRoom 13 = .ok (.iconst 1, 1) := by decide +kernel
theorem dX5_hasRoom_14 : decode cX5_hasRoom 14 = .ok (.goto 4, 3) := by decide +kernel
theorem dX5_hasRoom_17 : decode cX5_hasRoom 17 = .ok (.iconst 0, 1) := by decide +kernel
theorem dX5_hasRoom_18 : decode cX5_hasRoom 18 = .ok (.ireturn, 1) := by decide +kernel
theorem dX5_atStage_0 : decode cX5_atStage 0 = .ok (.iconst 0, 1) := by decide +kernel
theorem dX5_atStage_1 : decode cX5_atStage 1 = .ok (.istore_n 2, 1) := by decide +kernel
theorem dX5_atStage_2 : decode cX5_atStage 2 = .ok (.iconst 0, 1) := by decide +kernel
theorem dX5_atStage_3 : decode cX5_atStage 3 = .ok (.istore_n 3, 1) := by decide +kernel
theorem dX5_atStage_4 : decode cX5_atStage 4 = .ok (.iload_n 3, 1) := by decide +kernel
theorem dX5_atStage_5 : decode cX5_atStage 5 = .ok (.aload_n 0, 1) := by decide +kernel
theorem dX5_atStage_6 : decode cX5_atStage 6 = .ok (.iconst 4, 1) := by decide +kernel
theorem dX5_atStage_7 : decode cX5_atStage 7 = .ok (.iaload, 1) := by decide +kernel
theorem dX5_atStage_8 : decode cX5_atStage 8 = .ok (.if_icmp .ge 26, 3) := by decide +kernel
theorem dX5_atStage_11 : decode cX5_atStage 11 = .ok (.iload_n 2, 1) := by decide +kernel
theorem dX5_atStage_12 : decode cX5_atStage 12 = .ok (.aload_n 0, 1) := by decide +kernel
theorem dX5_atStage_13 : decode cX5_atStage 13 = .ok (.iload_n 3, 1) := by decide +kernel
theorem dX5_atStage_14 : decode cX5_atStage 14 = .ok (.invokestatic 51, 3) := by decide +kernel
theorem dX5_atStage_17 : decode cX5_atStage 17 = .ok (.iload_n 1, 1) := by decide +kernel
theorem dX5_atStage_18 : decode cX5_atStage 18 = .ok (.if_icmp .ne 7, 3) := by decide +kernel
theorem dX5_atStage_21 : decode cX5_atStage 21 = .ok (.iconst 1, 1) := by decide +kernel
theorem dX5_atStage_22 : decode cX5_atStage 22 = .ok (.goto 4, 3) := by decide +kernel
theorem dX5_atStage_25 : decode cX5_atStage 25 = .ok (.iconst 0, 1) := by decide +kernel
theorem dX5_atStage_26 : decode cX5_atStage 26 = .ok (.iadd, 1) := by decide +kernel
theorem dX5_atStage_27 : decode cX5_atStage 27 = .ok (.istore_n 2, 1) := by decide +kernel
theorem dX5_atStage_28 : decode cX5_atStage 28 = .ok (.iinc 3 1, 3) := by decide +kernel
theorem dX5_atStage_31 : decode cX5_atStage 31 = .ok (.goto (-27), 3) := by decide +kernel
theorem dX5_atStage_34 : decode cX5_atStage 34 = .ok (.iload_n 2, 1) := by decide +kernel
theorem dX5_atStage_35 : decode cX5_atStage 35 = .ok (.ireturn, 1) := by decide +kernel
theorem dX5_gives_0 : decode cX5_gives 0 = .ok (.iload_n 1, 1) := by decide +kernel
theorem dX5_gives_1 : decode cX5_gives 1 = .ok (.invokestatic 40, 3) := by decide +kernel
theorem dX5_gives_4 : decode cX5_gives 4 = .ok (.istore 4, 2) := by decide +kernel
theorem dX5_gives_6 : decode cX5_gives 6 = .ok (.aload_n 0, 1) := by decide +kernel
theorem dX5_gives_7 : decode cX5_gives 7 = .ok (.iload 4, 2) := by decide +kernel
theorem dX5_gives_9 : decode cX5_gives 9 = .ok (.iload_n 2, 1) := by decide +kernel
theorem dX5_gives_10 : decode cX5_gives 10 = .ok (.iastore, 1) := by decide +kernel
theorem dX5_gives_11 : decode cX5_gives 11 = .ok (.aload_n 0, 1) := by decide +kernel
theorem dX5_gives_12 : decode cX5_gives 12 = .ok (.iload 4, 2) := by decide +kernel
theorem dX5_gives_14 : decode cX5_gives 14 = .ok (.iconst 1, 1) := by decide +kernel
theorem dX5_gives_15 : decode cX5_gives 15 = .ok (.iadd, 1) := by decide +kernel
theorem dX5_gives_16 : decode cX5_gives 16 = .ok (.aload_n 0, 1) := by decide +kernel
theorem dX5_gives_17 : decode cX5_gives 17 = .ok (.iconst 0, 1) := by decide +kernel
theorem dX5_gives_18 : decode cX5_gives 18 = .ok (.iaload, 1) := by decide +kernel
theorem dX5_gives_19 : decode cX5_gives 19 = .ok (.iastore, 1) := by decide +kernel
theorem dX5_gives_20 : decode cX5_gives 20 = .ok (.aload_n 0, 1) := by decide +kernel
theorem dX5_gives_21 : decode cX5_gives 21 = .ok (.iload 4, 2) := by decide +kernel
theorem dX5_gives_23 : decode cX5_gives 23 = .ok (.iconst 2, 1) := by decide +kernel
theorem dX5_gives_24 : decode cX5_gives 24 = .ok (.iadd, 1) := by decide +kernel
theorem dX5_gives_25 : decode cX5_gives 25 = .ok (.aload_n 0, 1) := by decide +kernel
theorem dX5_gives_26 : decode cX5_gives 26 = .ok (.iconst 0, 1) := by decide +kernel
theorem dX5_gives_27 : decode cX5_gives 27 = .ok (.iaload, 1) := by decide +kernel
theorem dX5_gives_28 : decode cX5_gives 28 = .ok (.iload_n 3, 1) := by decide +kernel
theorem dX5_gives_29 : decode cX5_gives 29 = .ok (.iadd, 1) := by decide +kernel
theorem dX5_gives_30 : decode cX5_gives 30 = .ok (.iastore, 1) := by decide +kernel
theorem dX5_gives_31 : decode cX5_gives 31 = .ok (.aload_n 0, 1) := by decide +kernel
theorem dX5_gives_32 : decode cX5_gives 32 = .ok (.iload 4, 2) := by decide +kernel
theorem dX5_gives_34 : decode cX5_gives 34 = .ok (.iconst 3, 1) := by decide +kernel
theorem dX5_gives_35 : decode cX5_gives 35 = .ok (.iadd, 1) := by decide +kernel
theorem dX5_gives_36 : decode cX5_gives 36 = .ok (.aload_n 0, 1) := by decide +kernel
theorem dX5_gives_37 : decode cX5_gives 37 = .ok (.iconst 0, 1) := by decide +kernel
theorem dX5_gives_38 : decode cX5_gives 38 = .ok (.iaload, 1) := by decide +kernel
theorem dX5_gives_39 : decode cX5_gives 39 = .ok (.iload_n 3, 1) := by decide +kernel
theorem dX5_gives_40 : decode cX5_gives 40 = .ok (.iadd, 1) := by decide +kernel
theorem dX5_gives_41 : decode cX5_gives 41 = .ok (.aload_n 0, 1) := by decide +kernel
theorem dX5_gives_42 : decode cX5_gives 42 = .ok (.iconst 1, 1) := by decide +kernel
theorem dX5_gives_43 : decode cX5_gives 43 = .ok (.iaload, 1) := by decide +kernel
theorem dX5_gives_44 : decode cX5_gives 44 = .ok (.iadd, 1) := by decide +kernel
theorem dX5_gives_45 : decode cX5_gives 45 = .ok (.iastore, 1) := by decide +kernel
theorem dX5_gives_46 : decode cX5_gives 46 = .ok (.aload_n 0, 1) := by decide +kernel
theorem dX5_gives_47 : decode cX5_gives 47 = .ok (.iload 4, 2) := by decide +kernel
theorem dX5_gives_49 : decode cX5_gives 49 = .ok (.iconst 4, 1) := by decide +kernel
theorem dX5_gives_50 : decode cX5_gives 50 = .ok (.iadd, 1) := by decide +kernel
theorem dX5_gives_51 : decode cX5_gives 51 = .ok (.dup2, 1) := by decide +kernel
theorem dX5_gives_52 : decode cX5_gives 52 = .ok (.iaload, 1) := by decide +kernel
theorem dX5_gives_53 : decode cX5_gives 53 = .ok (.iconst 1, 1) := by decide +kernel
theorem dX5_gives_54 : decode cX5_gives 54 = .ok (.iadd, 1) := by decide +kernel
theorem dX5_gives_55 : decode cX5_gives 55 = .ok (.iastore, 1) := by decide +kernel
theorem dX5_gives_56 : decode cX5_gives 56 = .ok (.aload_n 0, 1) := by decide +kernel
theorem dX5_gives_57 : decode cX5_gives 57 = .ok (.bipush 8, 2) := by decide +kernel
theorem dX5_gives_59 : decode cX5_gives 59 = .ok (.iload_n 2, 1) := by decide +kernel
theorem dX5_gives_60 : decode cX5_gives 60 = .ok (.iadd, 1) := by decide +kernel
theorem dX5_gives_61 : decode cX5_gives 61 = .ok (.dup2, 1) := by decide +kernel
theorem dX5_gives_62 : decode cX5_gives 62 = .ok (.iaload, 1) := by decide +kernel
theorem dX5_gives_63 : decode cX5_gives 63 = .ok (.iconst 1, 1) := by decide +kernel
theorem dX5_gives_64 : decode cX5_gives 64 = .ok (.iadd, 1) := by decide +kernel
theorem dX5_gives_65 : decode cX5_gives 65 = .ok (.iastore, 1) := by decide +kernel
theorem dX5_gives_66 : decode cX5_gives 66 = .ok (.return_, 1) := by decide +kernel
theorem dX5_drops_0 : decode cX5_drops 0 = .ok (.iload_n 1, 1) := by decide +kernel
theorem dX5_drops_1 : decode cX5_drops 1 = .ok (.invokestatic 40, 3) := by decide +kernel
theorem dX5_drops_4 : decode cX5_drops 4 = .ok (.istore_n 3, 1) := by decide +kernel
theorem dX5_drops_5 : decode cX5_drops 5 = .ok (.iload_n 2, 1) := by decide +kernel
theorem dX5_drops_6 : decode cX5_drops 6 = .ok (.istore 4, 2) := by decide +kernel
theorem dX5_drops_8 : decode cX5_drops 8 = .ok (.iload 4, 2) := by decide +kernel
theorem dX5_drops_10 : decode cX5_drops 10 = .ok (.iconst 2, 1) := by decide +kernel
theorem dX5_drops_11 : decode cX5_drops 11 = .ok (.if_icmp .ge 59, 3) := by decide +kernel
theorem dX5_drops_14 : decode cX5_drops 14 = .ok (.aload_n 0, 1) := by decide +kernel
theorem dX5_drops_15 : decode cX5_drops 15 = .ok (.iload_n 3, 1) := by decide +kernel
theorem dX5_drops_16 : decode cX5_drops 16 = .ok (.bipush 6, 2) := by decide +kernel
theorem dX5_drops_18 : decode cX5_drops 18 = .ok (.iadd, 1) := by decide +kernel
theorem dX5_drops_19 : decode cX5_drops 19 = .ok (.iconst 2, 1) := by decide +kernel
theorem dX5_drops_20 : decode cX5_drops 20 = .ok (.iload 4, 2) := by decide +kernel
theorem dX5_drops_22 : decode cX5_drops 22 = .ok (.imul, 1) := by decide +kernel
theorem dX5_drops_23 : decode cX5_drops 23 = .ok (.iadd, 1) := by decide +kernel
theorem dX5_drops_24 : decode cX5_drops 24 = .ok (.aload_n 0, 1) := by decide +kernel
theorem dX5_drops_25 : decode cX5_drops 25 = .ok (.iload_n 3, 1) := by decide +kernel
theorem dX5_drops_26 : decode cX5_drops 26 = .ok (.bipush 6, 2) := by decide +kernel
theorem dX5_drops_28 : decode cX5_drops 28 = .ok (.iadd, 1) := by decide +kernel
theorem dX5_drops_29 : decode cX5_drops 29 = .ok (.iconst 2, 1) := by decide +kernel
theorem dX5_drops_30 : decode cX5_drops 30 = .ok (.iload 4, 2) := by decide +kernel
theorem dX5_drops_32 : decode cX5_drops 32 = .ok (.imul, 1) := by decide +kernel
theorem dX5_drops_33 : decode cX5_drops 33 = .ok (.iadd, 1) := by decide +kernel
theorem dX5_drops_34 : decode cX5_drops 34 = .ok (.iconst 2, 1) := by decide +kernel
theorem dX5_drops_35 : decode cX5_drops 35 = .ok (.iadd, 1) := by decide +kernel
theorem dX5_drops_36 : decode cX5_drops 36 = .ok (.iaload, 1) := by decide +kernel
theorem dX5_drops_37 : decode cX5_drops 37 = .ok (.iastore, 1) := by decide +kernel
theorem dX5_drops_38 : decode cX5_drops 38 = .ok (.aload_n 0, 1) := by decide +kernel
theorem dX5_drops_39 : decode cX5_drops 39 = .ok (.iload_n 3, 1) := by decide +kernel
theorem dX5_drops_40 : decode cX5_drops 40 = .ok (.bipush 6, 2) := by decide +kernel
theorem dX5_drops_42 : decode cX5_drops 42 = .ok (.iadd, 1) := by decide +kernel
theorem dX5_drops_43 : decode cX5_drops 43 = .ok (.iconst 2, 1) := by decide +kernel
theorem dX5_drops_44 : decode cX5_drops 44 = .ok (.iload 4, 2) := by decide +kernel
theorem dX5_drops_46 : decode cX5_drops 46 = .ok (.imul, 1) := by decide +kernel
theorem dX5_drops_47 : decode cX5_drops 47 = .ok (.iadd, 1) := by decide +kernel
theorem dX5_drops_48 : decode cX5_drops 48 = .ok (.iconst 1, 1) := by decide +kernel
theorem dX5_drops_49 : decode cX5_drops 49 = .ok (.iadd, 1) := by decide +kernel
theorem dX5_drops_50 : decode cX5_drops 50 = .ok (.aload_n 0, 1) := by decide +kernel
theorem dX5_drops_51 : decode cX5_drops 51 = .ok (.iload_n 3, 1) := by decide +kernel
theorem dX5_drops_52 : decode cX5_drops 52 = .ok (.bipush 6, 2) := by decide +kernel
theorem dX5_drops_54 : decode cX5_drops 54 = .ok (.iadd, 1) := by decide +kernel
theorem dX5_drops_55 : decode cX5_drops 55 = .ok (.iconst 2, 1) := by decide +kernel
theorem dX5_drops_56 : decode cX5_drops 56 = .ok (.iload 4, 2) := by decide +kernel
theorem dX5_drops_58 : decode cX5_drops 58 = .ok (.imul, 1) := by decide +kernel
theorem dX5_drops_59 : decode cX5_drops 59 = .ok (.iadd, 1) := by decide +kernel
theorem dX5_drops_60 : decode cX5_drops 60 = .ok (.iconst 3, 1) := by decide +kernel
theorem dX5_drops_61 : decode cX5_drops 61 = .ok (.iadd, 1) := by decide +kernel
theorem dX5_drops_62 : decode cX5_drops 62 = .ok (.iaload, 1) := by decide +kernel
theorem dX5_drops_63 : decode cX5_drops 63 = .ok (.iastore, 1) := by decide +kernel
theorem dX5_drops_64 : decode cX5_drops 64 = .ok (.iinc 4 1, 3) := by decide +kernel
theorem dX5_drops_67 : decode cX5_drops 67 = .ok (.goto (-59), 3) := by decide +kernel
theorem dX5_drops_70 : decode cX5_drops 70 = .ok (.aload_n 0, 1) := by decide +kernel
theorem dX5_drops_71 : decode cX5_drops 71 = .ok (.iload_n 3, 1) := by decide +kernel
theorem dX5_drops_72 : decode cX5_drops 72 = .ok (.iconst 5, 1) := by decide +kernel
theorem dX5_drops_73 : decode cX5_drops 73 = .ok (.iadd, 1) := by decide +kernel
theorem dX5_drops_74 : decode cX5_drops 74 = .ok (.dup2, 1) := by decide +kernel
theorem dX5_drops_75 : decode cX5_drops 75 = .ok (.iaload, 1) := by decide +kernel
theorem dX5_drops_76 : decode cX5_drops 76 = .ok (.iconst 1, 1) := by decide +kernel
theorem dX5_drops_77 : decode cX5_drops 77 = .ok (.isub, 1) := by decide +kernel
theorem dX5_drops_78 : decode cX5_drops 78 = .ok (.iastore, 1) := by decide +kernel
theorem dX5_drops_79 : decode cX5_drops 79 = .ok (.return_, 1) := by decide +kernel
theorem dX5_frees_0 : decode cX5_frees 0 = .ok (.iload_n 1, 1) := by decide +kernel
theorem dX5_frees_1 : decode cX5_frees 1 = .ok (.invokestatic 40, 3) := by decide +kernel
theorem dX5_frees_4 : decode cX5_frees 4 = .ok (.istore_n 2, 1) := by decide +kernel
theorem dX5_frees_5 : decode cX5_frees 5 = .ok (.aload_n 0, 1) := by decide +kernel
theorem dX5_frees_6 : decode cX5_frees 6 = .ok (.iload_n 2, 1) := by decide +kernel
theorem dX5_frees_7 : decode cX5_frees 7 = .ok (.iconst (-1), 1) := by decide +kernel
theorem dX5_frees_8 : decode cX5_frees 8 = .ok (.iastore, 1) := by decide +kernel
theorem dX5_frees_9 : decode cX5_frees 9 = .ok (.aload_n 0, 1) := by decide +kernel
theorem dX5_frees_10 : decode cX5_frees 10 = .ok (.bipush 7, 2) := by decide +kernel
theorem dX5_frees_12 : decode cX5_frees 12 = .ok (.dup2, 1) := by decide +kernel
theorem dX5_frees_13 : decode cX5_frees 13 = .ok (.iaload, 1) := by decide +kernel
theorem dX5_frees_14 : decode cX5_frees 14 = .ok (.iconst 1, 1) := by decide +kernel
theorem dX5_frees_15 : decode cX5_frees 15 = .ok (.iadd, 1) := by decide +kernel
theorem dX5_frees_16 : decode cX5_frees 16 = .ok (.iastore, 1) := by decide +kernel
theorem dX5_frees_17 : decode cX5_frees 17 = .ok (.aload_n 0, 1) := by decide +kernel
theorem dX5_frees_18 : decode cX5_frees 18 = .ok (.iload_n 2, 1) := by decide +kernel
theorem dX5_frees_19 : decode cX5_frees 19 = .ok (.iaload, 1) := by decide +kernel
theorem dX5_frees_20 : decode cX5_frees 20 = .ok (.iconst (-1), 1) := by decide +kernel
theorem dX5_frees_21 : decode cX5_frees 21 = .ok (.if_icmp .ne 67, 3) := by decide +kernel
theorem dX5_frees_24 : decode cX5_frees 24 = .ok (.aload_n 0, 1) := by decide +kernel
theorem dX5_frees_25 : decode cX5_frees 25 = .ok (.iload_n 2, 1) := by decide +kernel
theorem dX5_frees_26 : decode cX5_frees 26 = .ok (.iconst 5, 1) := by decide +kernel
theorem dX5_frees_27 : decode cX5_frees 27 = .ok (.iadd, 1) := by decide +kernel
theorem dX5_frees_28 : decode cX5_frees 28 = .ok (.iaload, 1) := by decide +kernel
theorem dX5_frees_29 : decode cX5_frees 29 = .ok (.ifCond .le 59, 3) := by decide +kernel
theorem dX5_frees_32 : decode cX5_frees 32 = .ok (.aload_n 0, 1) := by decide +kernel
theorem dX5_frees_33 : decode cX5_frees 33 = .ok (.iload_n 2, 1) := by decide +kernel
theorem dX5_frees_34 : decode cX5_frees 34 = .ok (.bipush 6, 2) := by decide +kernel
theorem dX5_frees_36 : decode cX5_frees 36 = .ok (.iadd, 1) := by decide +kernel
theorem dX5_frees_37 : decode cX5_frees 37 = .ok (.iaload, 1) := by decide +kernel
theorem dX5_frees_38 : decode cX5_frees 38 = .ok (.istore_n 3, 1) := by decide +kernel
theorem dX5_frees_39 : decode cX5_frees 39 = .ok (.aload_n 0, 1) := by decide +kernel
theorem dX5_frees_40 : decode cX5_frees 40 = .ok (.iload_n 2, 1) := by decide +kernel
theorem dX5_frees_41 : decode cX5_frees 41 = .ok (.bipush 6, 2) := by decide +kernel
theorem dX5_frees_43 : decode cX5_frees 43 = .ok (.iadd, 1) := by decide +kernel
theorem dX5_frees_44 : decode cX5_frees 44 = .ok (.iconst 1, 1) := by decide +kernel
theorem dX5_frees_45 : decode cX5_frees 45 = .ok (.iadd, 1) := by decide +kernel
theorem dX5_frees_46 : decode cX5_frees 46 = .ok (.iaload, 1) := by decide +kernel
theorem dX5_frees_47 : decode cX5_frees 47 = .ok (.istore 4, 2) := by decide +kernel
theorem dX5_frees_49 : decode cX5_frees 49 = .ok (.aload_n 0, 1) := by decide +kernel
theorem dX5_frees_50 : decode cX5_frees 50 = .ok (.iload_n 1, 1) := by decide +kernel
theorem dX5_frees_51 : decode cX5_frees 51 = .ok (.iconst 0, 1) := by decide +kernel
theorem dX5_frees_52 : decode cX5_frees 52 = .ok (.invokestatic 54, 3) := by decide +kernel
theorem dX5_frees_55 : decode cX5_frees 55 = .ok (.aload_n 0, 1) := by decide +kernel
theorem dX5_frees_56 : decode cX5_frees 56 = .ok (.iload_n 3, 1) := by decide +kernel
theorem dX5_frees_57 : decode cX5_frees 57 = .ok (.iconst 1, 1) := by decide +kernel
theorem dX5_frees_58 : decode cX5_frees 58 = .ok (.invokestatic 58, 3) := by decide +kernel
theorem dX5_frees_61 : decode cX5_frees 61 = .ok (.ifCond .eq 14, 3) := by decide +kernel
theorem dX5_frees_64 : decode cX5_frees 64 = .ok (.aload_n 0, 1) := by decide +kernel
theorem dX5_frees_65 : decode cX5_frees 65 = .ok (.iload_n 1, 1) := by decide +kernel
theorem dX5_frees_66 : decode cX5_frees 66 = .ok (.iload_n 3, 1) := by decide +kernel
theorem dX5_frees_67 : decode cX5_frees 67 = .ok (.iload 4, 2) := by decide +kernel
theorem dX5_frees_69 : decode cX5_frees 69 = .ok (.invokestatic 62, 3) := by decide +kernel
theorem dX5_frees_72 : decode cX5_frees 72 = .ok (.goto 13, 3) := by decide +kernel
theorem dX5_frees_75 : decode cX5_frees 75 = .ok (.aload_n 0, 1) := by decide +kernel
theorem dX5_frees_76 : decode cX5_frees 76 = .ok (.bipush 16, 2) := by decide +kernel
theorem dX5_frees_78 : decode cX5_frees 78 = .ok (.iload_n 3, 1) := by decide +kernel
theorem dX5_frees_79 : decode cX5_frees 79 = .ok (.iadd, 1) := by decide +kernel
theorem dX5_frees_80 : decode cX5_frees 80 = .ok (.dup2, 1) := by decide +kernel
theorem dX5_frees_81 : decode cX5_frees 81 = .ok (.iaload, 1) := by decide +kernel
theorem dX5_frees_82 : decode cX5_frees 82 = .ok (.iconst 1, 1) := by decide +kernel
theorem dX5_frees_83 : decode cX5_frees 83 = .ok (.iadd, 1) := by decide +kernel
theorem dX5_frees_84 : decode cX5_frees 84 = .ok (.iastore, 1) := by decide +kernel
theorem dX5_frees_85 : decode cX5_frees 85 = .ok (.goto (-68), 3) := by decide +kernel
theorem dX5_frees_88 : decode cX5_frees 88 = .ok (.return_, 1) := by decide +kernel
theorem dX5_passes_0 : decode cX5_passes 0 = .ok (.aload_n 0, 1) := by decide +kernel
theorem dX5_passes_1 : decode cX5_passes 1 = .ok (.bipush 7, 2) := by decide +kernel
theorem dX5_passes_3 : decode cX5_passes 3 = .ok (.iaload, 1) := by decide +kernel
theorem dX5_passes_4 : decode cX5_passes 4 = .ok (.istore_n 1, 1) := by decide +kernel
theorem dX5_passes_5 : decode cX5_passes 5 = .ok (.iconst 0, 1) := by decide +kernel
theorem dX5_passes_6 : decode cX5_passes 6 = .ok (.istore_n 2, 1) := by decide +kernel
theorem dX5_passes_7 : decode cX5_passes 7 = .ok (.iload_n 2, 1) := by decide +kernel
theorem dX5_passes_8 : decode cX5_passes 8 = .ok (.aload_n 0, 1) := by decide +kernel
theorem dX5_passes_9 : decode cX5_passes 9 = .ok (.iconst 4, 1) := by decide +kernel
theorem dX5_passes_10 : decode cX5_passes 10 = .ok (.iaload, 1) := by decide +kernel
theorem dX5_passes_11 : decode cX5_passes 11 = .ok (.if_icmp .ge 33, 3) := by decide +kernel
theorem dX5_passes_14 : decode cX5_passes 14 = .ok (.aload_n 0, 1) := by decide +kernel
theorem dX5_passes_15 : decode cX5_passes 15 = .ok (.iload_n 2, 1) := by decide +kernel
theorem dX5_passes_16 : decode cX5_passes 16 = .ok (.invokestatic 51, 3) := by decide +kernel
theorem dX5_passes_19 : decode cX5_passes 19 = .ok (.iconst 1, 1) := by decide +kernel
theorem dX5_passes_20 : decode cX5_passes 20 = .ok (.if_icmp .ne 18, 3) := by decide +kernel
theorem dX5_passes_23 : decode cX5_passes 23 = .ok (.aload_n 0, 1) := by decide +kernel
theorem dX5_passes_24 : decode cX5_passes 24 = .ok (.bipush 24, 2) := by decide +kernel
theorem dX5_passes_26 : decode cX5_passes 26 = .ok (.aload_n 0, 1) := by decide +kernel
theorem dX5_passes_27 : decode cX5_passes 27 = .ok (.iload_n 2, 1) := by decide +kernel
theorem dX5_passes_28 : decode cX5_passes 28 = .ok (.invokestatic 40, 3) := by decide +kernel
theorem dX5_passes_31 : decode cX5_passes 31 = .ok (.iaload, 1) := by decide +kernel
theorem dX5_passes_32 : decode cX5_passes 32 = .ok (.iadd, 1) := by decide +kernel
theorem dX5_passes_33 : decode cX5_passes 33 = .ok (.dup2, 1) := by decide +kernel
theorem dX5_passes_34 : decode cX5_passes 34 = .ok (.iaload, 1) := by decide +kernel
theorem dX5_passes_35 : decode cX5_passes 35 = .ok (.iconst 1, 1) := by decide +kernel
theorem dX5_passes_36 : decode cX5_passes 36 = .ok (.iadd, 1) := by decide +kernel
theorem dX5_passes_37 : decode cX5_passes 37 = .ok (.iastore, 1) := by decide +kernel
theorem dX5_passes_38 : decode cX5_passes 38 = .ok (.iinc 2 1, 3) := by decide +kernel
theorem dX5_passes_41 : decode cX5_passes 41 = .ok (.goto (-34), 3) := by decide +kernel
theorem dX5_passes_44 : decode cX5_passes 44 = .ok (.aload_n 0, 1) := by decide +kernel
theorem dX5_passes_45 : decode cX5_passes 45 = .ok (.iconst 0, 1) := by decide +kernel
theorem dX5_passes_46 : decode cX5_passes 46 = .ok (.dup2, 1) := by decide +kernel
theorem dX5_passes_47 : decode cX5_passes 47 = .ok (.iaload, 1) := by decide +kernel
theorem dX5_passes_48 : decode cX5_passes 48 = .ok (.iconst 1, 1) := by decide +kernel
theorem dX5_passes_49 : decode cX5_passes 49 = .ok (.iadd, 1) := by decide +kernel
theorem dX5_passes_50 : decode cX5_passes 50 = .ok (.iastore, 1) := by decide +kernel
theorem dX5_passes_51 : decode cX5_passes 51 = .ok (.iconst 0, 1) := by decide +kernel
theorem dX5_passes_52 : decode cX5_passes 52 = .ok (.istore_n 2, 1) := by decide +kernel
theorem dX5_passes_53 : decode cX5_passes 53 = .ok (.iload_n 2, 1) := by decide +kernel
theorem dX5_passes_54 : decode cX5_passes 54 = .ok (.aload_n 0, 1) := by decide +kernel
theorem dX5_passes_55 : decode cX5_passes 55 = .ok (.iconst 4, 1) := by decide +kernel
theorem dX5_passes_56 : decode cX5_passes 56 = .ok (.iaload, 1) := by decide +kernel
theorem dX5_passes_57 : decode cX5_passes 57 = .ok (.if_icmp .ge 36, 3) := by decide +kernel
theorem dX5_passes_60 : decode cX5_passes 60 = .ok (.aload_n 0, 1) := by decide +kernel
theorem dX5_passes_61 : decode cX5_passes 61 = .ok (.iload_n 2, 1) := by decide +kernel
theorem dX5_passes_62 : decode cX5_passes 62 = .ok (.invokestatic 43, 3) := by decide +kernel
theorem dX5_passes_65 : decode cX5_passes 65 = .ok (.ifCond .ne 22, 3) := by decide +kernel
theorem dX5_passes_68 : decode cX5_passes 68 = .ok (.aload_n 0, 1) := by decide +kernel
theorem dX5_passes_69 : decode cX5_passes 69 = .ok (.iload_n 2, 1) := by decide +kernel
theorem dX5_passes_70 : decode cX5_passes 70 = .ok (.invokestatic 40, 3) := by decide +kernel
theorem dX5_passes_73 : decode cX5_passes 73 = .ok (.iconst 3, 1) := by decide +kernel
theorem dX5_passes_74 : decode cX5_passes 74 = .ok (.iadd, 1) := by decide +kernel
theorem dX5_passes_75 : decode cX5_passes 75 = .ok (.iaload, 1) := by decide +kernel
theorem dX5_passes_76 : decode cX5_passes 76 = .ok (.aload_n 0, 1) := by decide +kernel
theorem dX5_passes_77 : decode cX5_passes 77 = .ok (.iconst 0, 1) := by decide +kernel
theorem dX5_passes_78 : decode cX5_passes 78 = .ok (.iaload, 1) := by decide +kernel
theorem dX5_passes_79 : decode cX5_passes 79 = .ok (.if_icmp .ne 8, 3) := by decide +kernel
theorem dX5_passes_82 : decode cX5_passes 82 = .ok (.aload_n 0, 1) := by decide +kernel
theorem dX5_passes_83 : decode cX5_passes 83 = .ok (.iload_n 2, 1) := by decide +kernel
theorem dX5_passes_84 : decode cX5_passes 84 = .ok (.invokestatic 66, 3) := by decide +kernel
theorem dX5_passes_87 : decode cX5_passes 87 = .ok (.iinc 2 1, 3) := by decide +kernel
theorem dX5_passes_90 : decode cX5_passes 90 = .ok (.goto (-37), 3) := by decide +kernel
theorem dX5_passes_93 : decode cX5_passes 93 = .ok (.aload_n 0, 1) := by decide +kernel
theorem dX5_passes_94 : decode cX5_passes 94 = .ok (.bipush 7, 2) := by decide +kernel
theorem dX5_passes_96 : decode cX5_passes 96 = .ok (.iaload, 1) := by decide +kernel
theorem dX5_passes_97 : decode cX5_passes 97 = .ok (.iload_n 1, 1) := by decide +kernel
theorem dX5_passes_98 : decode cX5_passes 98 = .ok (.isub, 1) := by decide +kernel
theorem dX5_passes_99 : decode cX5_passes 99 = .ok (.ireturn, 1) := by decide +kernel
theorem dX5_firstFree_0 : decode cX5_firstFree 0 = .ok (.iconst 0, 1) := by decide +kernel
theorem dX5_firstFree_1 : decode cX5_firstFree 1 = .ok (.istore_n 2, 1) := by decide +kernel
theorem dX5_firstFree_2 : decode cX5_firstFree 2 = .ok (.iconst 0, 1) := by decide +kernel
theorem dX5_firstFree_3 : decode cX5_firstFree 3 = .ok (.istore_n 3, 1) := by decide +kernel
theorem dX5_firstFree_4 : decode cX5_firstFree 4 = .ok (.iload_n 3, 1) := by decide +kernel
theorem dX5_firstFree_5 : decode cX5_firstFree 5 = .ok (.aload_n 0, 1) := by decide +kernel
theorem dX5_firstFree_6 : decode cX5_firstFree 6 = .ok (.iconst 4, 1) := by decide +kernel
theorem dX5_firstFree_7 : decode cX5_firstFree 7 = .ok (.iaload, 1) := by decide +kernel
theorem dX5_firstFree_8 : decode cX5_firstFree 8 = .ok (.if_icmp .ge 36, 3) := by decide +kernel
theorem dX5_firstFree_11 : decode cX5_firstFree 11 = .ok (.aload_n 0, 1) := by decide +kernel
theorem dX5_firstFree_12 : decode cX5_firstFree 12 = .ok (.iload_n 3, 1) := by decide +kernel
theorem dX5_firstFree_13 : decode cX5_firstFree 13 = .ok (.invokestatic 43, 3) := by decide +kernel
theorem dX5_firstFree_16 : decode cX5_firstFree 16 = .ok (.ifCond .eq 9, 3) := by decide +kernel
theorem dX5_firstFree_19 : decode cX5_firstFree 19 = .ok (.iload_n 2, 1) := by decide +kernel
theorem dX5_firstFree_20 : decode cX5_firstFree 20 = .ok (.iconst 1, 1) := by decide +kernel
theorem dX5_firstFree_21 : decode cX5_firstFree 21 = .ok (.iadd, 1) := by decide +kernel
theorem dX5_firstFree_22 : decode cX5_firstFree 22 = .ok (.goto 4, 3) := by decide +kernel
theorem dX5_firstFree_25 : decode cX5_firstFree 25 = .ok (.iconst 0, 1) := by decide +kernel
theorem dX5_firstFree_26 : decode cX5_firstFree 26 = .ok (.istore_n 2, 1) := by decide +kernel
theorem dX5_firstFree_27 : decode cX5_firstFree 27 = .ok (.iload_n 2, 1) := by decide +kernel
theorem dX5_firstFree_28 : decode cX5_firstFree 28 = .ok (.iload_n 1, 1) := by decide +kernel
theorem dX5_firstFree_29 : decode cX5_firstFree 29 = .ok (.if_icmp .ne 9, 3) := by decide +kernel
theorem dX5_firstFree_32 : decode cX5_firstFree 32 = .ok (.iload_n 3, 1) := by decide +kernel
theorem dX5_firstFree_33 : decode cX5_firstFree 33 = .ok (.iload_n 1, 1) := by decide +kernel
theorem dX5_firstFree_34 : decode cX5_firstFree 34 = .ok (.isub, 1) := by decide +kernel
theorem dX5_firstFree_35 : decode cX5_firstFree 35 = .ok (.iconst 1, 1) := by decide +kernel
theorem dX5_firstFree_36 : decode cX5_firstFree 36 = .ok (.iadd, 1) := by decide +kernel
theorem dX5_firstFree_37 : decode cX5_firstFree 37 = .ok (.ireturn, 1) := by decide +kernel
theorem dX5_firstFree_38 : decode cX5_firstFree 38 = .ok (.iinc 3 1, 3) := by decide +kernel
theorem dX5_firstFree_41 : decode cX5_firstFree 41 = .ok (.goto (-37), 3) := by decide +kernel
theorem dX5_firstFree_44 : decode cX5_firstFree 44 = .ok (.iconst (-1), 1) := by decide +kernel
theorem dX5_firstFree_45 : decode cX5_firstFree 45 = .ok (.ireturn, 1) := by decide +kernel
theorem dX5_wishOf_0 : decode cX5_wishOf 0 = .ok (.iconst 0, 1) := by decide +kernel
theorem dX5_wishOf_1 : decode cX5_wishOf 1 = .ok (.istore_n 3, 1) := by decide +kernel
theorem dX5_wishOf_2 : decode cX5_wishOf 2 = .ok (.iload_n 3, 1) := by decide +kernel
theorem dX5_wishOf_3 : decode cX5_wishOf 3 = .ok (.aload_n 0, 1) := by decide +kernel
theorem dX5_wishOf_4 : decode cX5_wishOf 4 = .ok (.iload_n 1, 1) := by decide +kernel
theorem dX5_wishOf_5 : decode cX5_wishOf 5 = .ok (.invokestatic 40, 3) := by decide +kernel
theorem dX5_wishOf_8 : decode cX5_wishOf 8 = .ok (.iconst 5, 1) := by decide +kernel
theorem dX5_wishOf_9 : decode cX5_wishOf 9 = .ok (.iadd, 1) := by decide +kernel
theorem dX5_wishOf_10 : decode cX5_wishOf 10 = .ok (.iaload, 1) := by decide +kernel
theorem dX5_wishOf_11 : decode cX5_wishOf 11 = .ok (.if_icmp .ge 28, 3) := by decide +kernel
theorem dX5_wishOf_14 : decode cX5_wishOf 14 = .ok (.aload_n 0, 1) := by decide +kernel
theorem dX5_wishOf_15 : decode cX5_wishOf 15 = .ok (.iload_n 1, 1) := by decide +kernel
theorem dX5_wishOf_16 : decode cX5_wishOf 16 = .ok (.invokestatic 40, 3) := by decide +kernel
theorem dX5_wishOf_19 : decode cX5_wishOf 19 = .ok (.bipush 6, 2) := by decide +kernel
theorem dX5_wishOf_21 : decode cX5_wishOf 21 = .ok (.iadd, 1) := by decide +kernel
theorem dX5_wishOf_22 : decode cX5_wishOf 22 = .ok (.iconst 2, 1) := by decide +kernel
theorem dX5_wishOf_23 : decode cX5_wishOf 23 = .ok (.iload_n 3, 1) := by decide +kernel
theorem dX5_wishOf_24 : decode cX5_wishOf 24 = .ok (.imul, 1) := by decide +kernel
theorem dX5_wishOf_25 : decode cX5_wishOf 25 = .ok (.iadd, 1) := by decide +kernel
theorem dX5_wishOf_26 : decode cX5_wishOf 26 = .ok (.iaload, 1) := by decide +kernel
theorem dX5_wishOf_27 : decode cX5_wishOf 27 = .ok (.iload_n 2, 1) := by decide +kernel
theorem dX5_wishOf_28 : decode cX5_wishOf 28 = .ok (.if_icmp .ne 5, 3) := by decide +kernel
theorem dX5_wishOf_31 : decode cX5_wishOf 31 = .ok (.iload_n 3, 1) := by decide +kernel
theorem dX5_wishOf_32 : decode cX5_wishOf 32 = .ok (.ireturn, 1) := by decide +kernel
theorem dX5_wishOf_33 : decode cX5_wishOf 33 = .ok (.iinc 3 1, 3) := by decide +kernel
theorem dX5_wishOf_36 : decode cX5_wishOf 36 = .ok (.goto (-34), 3) := by decide +kernel
theorem dX5_wishOf_39 : decode cX5_wishOf 39 = .ok (.iconst (-1), 1) := by decide +kernel
theorem dX5_wishOf_40 : decode cX5_wishOf 40 = .ok (.ireturn, 1) := by decide +kernel
theorem dX5_waits_0 : decode cX5_waits 0 = .ok (.iload_n 1, 1) := by decide +kernel
theorem dX5_waits_1 : decode cX5_waits 1 = .ok (.invokestatic 40, 3) := by decide +kernel
theorem dX5_waits_4 : decode cX5_waits 4 = .ok (.istore 4, 2) := by decide +kernel
theorem dX5_waits_6 : decode cX5_waits 6 = .ok (.aload_n 0, 1) := by decide +kernel
theorem dX5_waits_7 : decode cX5_waits 7 = .ok (.iload 4, 2) := by decide +kernel
theorem dX5_waits_9 : decode cX5_waits 9 = .ok (.bipush 6, 2) := by decide +kernel
theorem dX5_waits_11 : decode cX5_waits 11 = .ok (.iadd, 1) := by decide +kernel
theorem dX5_waits_12 : decode cX5_waits 12 = .ok (.iconst 2, 1) := by decide +kernel
theorem dX5_waits_13 : decode cX5_waits 13 = .ok (.aload_n 0, 1) := by decide +kernel
theorem dX5_waits_14 : decode cX5_waits 14 = .ok (.iload 4, 2) := by decide +kernel
theorem dX5_waits_16 : decode cX5_waits 16 = .ok (.iconst 5, 1) := by decide +kernel
