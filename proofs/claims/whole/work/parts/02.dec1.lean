theorem dX0_init_0 : decode cX0_init 0 = .ok (.aload_n 0, 1) := by decide +kernel
theorem dX0_init_1 : decode cX0_init 1 = .ok (.invokespecial 3, 3) := by decide +kernel
theorem dX0_init_4 : decode cX0_init 4 = .ok (.aload_n 0, 1) := by decide +kernel
theorem dX0_init_5 : decode cX0_init 5 = .ok (.iconst 2, 1) := by decide +kernel
theorem dX0_init_6 : decode cX0_init 6 = .ok (.putfield 9, 3) := by decide +kernel
theorem dX0_init_9 : decode cX0_init 9 = .ok (.aload_n 0, 1) := by decide +kernel
theorem dX0_init_10 : decode cX0_init 10 = .ok (.iconst 3, 1) := by decide +kernel
theorem dX0_init_11 : decode cX0_init 11 = .ok (.putfield 15, 3) := by decide +kernel
theorem dX0_init_14 : decode cX0_init 14 = .ok (.aload_n 0, 1) := by decide +kernel
theorem dX0_init_15 : decode cX0_init 15 = .ok (.bipush 6, 2) := by decide +kernel
theorem dX0_init_17 : decode cX0_init 17 = .ok (.sipush 128, 3) := by decide +kernel
theorem dX0_init_20 : decode cX0_init 20 = .ok (.multianewarray 18 2, 4) := by decide +kernel
theorem dX0_init_24 : decode cX0_init 24 = .ok (.putfield 20, 3) := by decide +kernel
theorem dX0_init_27 : decode cX0_init 27 = .ok (.aload_n 0, 1) := by decide +kernel
theorem dX0_init_28 : decode cX0_init 28 = .ok (.bipush 6, 2) := by decide +kernel
theorem dX0_init_30 : decode cX0_init 30 = .ok (.newarray .int, 2) := by decide +kernel
theorem dX0_init_32 : decode cX0_init 32 = .ok (.putfield 23, 3) := by decide +kernel
theorem dX0_init_35 : decode cX0_init 35 = .ok (.aload_n 0, 1) := by decide +kernel
theorem dX0_init_36 : decode cX0_init 36 = .ok (.bipush 6, 2) := by decide +kernel
theorem dX0_init_38 : decode cX0_init 38 = .ok (.newarray .boolean, 2) := by decide +kernel
theorem dX0_init_40 : decode cX0_init 40 = .ok (.putfield 27, 3) := by decide +kernel
theorem dX0_init_43 : decode cX0_init 43 = .ok (.return_, 1) := by decide +kernel
theorem dX0_turnTo_0 : decode cX0_turnTo 0 = .ok (.aload_n 0, 1) := by decide +kernel
theorem dX0_turnTo_1 : decode cX0_turnTo 1 = .ok (.iload_n 1, 1) := by decide +kernel
theorem dX0_turnTo_2 : decode cX0_turnTo 2 = .ok (.putfield 9, 3) := by decide +kernel
theorem dX0_turnTo_5 : decode cX0_turnTo 5 = .ok (.aload_n 0, 1) := by decide +kernel
theorem dX0_turnTo_6 : decode cX0_turnTo 6 = .ok (.iload_n 2, 1) := by decide +kernel
theorem dX0_turnTo_7 : decode cX0_turnTo 7 = .ok (.putfield 15, 3) := by decide +kernel
theorem dX0_turnTo_10 : decode cX0_turnTo 10 = .ok (.iconst 1, 1) := by decide +kernel
theorem dX0_turnTo_11 : decode cX0_turnTo 11 = .ok (.istore_n 3, 1) := by decide +kernel
theorem dX0_turnTo_12 : decode cX0_turnTo 12 = .ok (.iload_n 3, 1) := by decide +kernel
theorem dX0_turnTo_13 : decode cX0_turnTo 13 = .ok (.iconst 5, 1) := by decide +kernel
theorem dX0_turnTo_14 : decode cX0_turnTo 14 = .ok (.if_icmp .gt 16, 3) := by decide +kernel
theorem dX0_turnTo_17 : decode cX0_turnTo 17 = .ok (.aload_n 0, 1) := by decide +kernel
theorem dX0_turnTo_18 : decode cX0_turnTo 18 = .ok (.getfield 27, 3) := by decide +kernel
theorem dX0_turnTo_21 : decode cX0_turnTo 21 = .ok (.iload_n 3, 1) := by decide +kernel
theorem dX0_turnTo_22 : decode cX0_turnTo 22 = .ok (.iconst 0, 1) := by decide +kernel
theorem dX0_turnTo_23 : decode cX0_turnTo 23 = .ok (.bastore, 1) := by decide +kernel
theorem dX0_turnTo_24 : decode cX0_turnTo 24 = .ok (.iinc 3 1, 3) := by decide +kernel
theorem dX0_turnTo_27 : decode cX0_turnTo 27 = .ok (.goto (-15), 3) := by decide +kernel
theorem dX0_turnTo_30 : decode cX0_turnTo 30 = .ok (.return_, 1) := by decide +kernel
theorem dX0_howMany_0 : decode cX0_howMany 0 = .ok (.iconst 0, 1) := by decide +kernel
theorem dX0_howMany_1 : decode cX0_howMany 1 = .ok (.istore_n 3, 1) := by decide +kernel
theorem dX0_howMany_2 : decode cX0_howMany 2 = .ok (.aload_n 0, 1) := by decide +kernel
theorem dX0_howMany_3 : decode cX0_howMany 3 = .ok (.iload_n 1, 1) := by decide +kernel
theorem dX0_howMany_4 : decode cX0_howMany 4 = .ok (.invokevirtual 31, 3) := by decide +kernel
theorem dX0_howMany_7 : decode cX0_howMany 7 = .ok (.istore 4, 2) := by decide +kernel
theorem dX0_howMany_9 : decode cX0_howMany 9 = .ok (.iconst 0, 1) := by decide +kernel
theorem dX0_howMany_10 : decode cX0_howMany 10 = .ok (.istore 5, 2) := by decide +kernel
theorem dX0_howMany_12 : decode cX0_howMany 12 = .ok (.iload 5, 2) := by decide +kernel
theorem dX0_howMany_14 : decode cX0_howMany 14 = .ok (.iload 4, 2) := by decide +kernel
theorem dX0_howMany_16 : decode cX0_howMany 16 = .ok (.if_icmp .ge 28, 3) := by decide +kernel
theorem dX0_howMany_19 : decode cX0_howMany 19 = .ok (.aload_n 0, 1) := by decide +kernel
theorem dX0_howMany_20 : decode cX0_howMany 20 = .ok (.getfield 20, 3) := by decide +kernel
theorem dX0_howMany_23 : decode cX0_howMany 23 = .ok (.iload_n 1, 1) := by decide +kernel
theorem dX0_howMany_24 : decode cX0_howMany 24 = .ok (.aaload, 1) := by decide +kernel
theorem dX0_howMany_25 : decode cX0_howMany 25 = .ok (.iload 5, 2) := by decide +kernel
theorem dX0_howMany_27 : decode cX0_howMany 27 = .ok (.iaload, 1) := by decide +kernel
theorem dX0_howMany_28 : decode cX0_howMany 28 = .ok (.invokestatic 35, 3) := by decide +kernel
theorem dX0_howMany_31 : decode cX0_howMany 31 = .ok (.iload_n 2, 1) := by decide +kernel
theorem dX0_howMany_32 : decode cX0_howMany 32 = .ok (.if_icmp .gt 6, 3) := by decide +kernel
theorem dX0_howMany_35 : decode cX0_howMany 35 = .ok (.iinc 3 1, 3) := by decide +kernel
theorem dX0_howMany_38 : decode cX0_howMany 38 = .ok (.iinc 5 1, 3) := by decide +kernel
theorem dX0_howMany_41 : decode cX0_howMany 41 = .ok (.goto (-29), 3) := by decide +kernel
theorem dX0_howMany_44 : decode cX0_howMany 44 = .ok (.iload_n 3, 1) := by decide +kernel
theorem dX0_howMany_45 : decode cX0_howMany 45 = .ok (.ireturn, 1) := by decide +kernel
theorem dX0_numberOf_0 : decode cX0_numberOf 0 = .ok (.aload_n 0, 1) := by decide +kernel
theorem dX0_numberOf_1 : decode cX0_numberOf 1 = .ok (.iload_n 1, 1) := by decide +kernel
theorem dX0_numberOf_2 : decode cX0_numberOf 2 = .ok (.iload_n 2, 1) := by decide +kernel
theorem dX0_numberOf_3 : decode cX0_numberOf 3 = .ok (.iload_n 3, 1) := by decide +kernel
theorem dX0_numberOf_4 : decode cX0_numberOf 4 = .ok (.invokevirtual 38, 3) := by decide +kernel
theorem dX0_numberOf_7 : decode cX0_numberOf 7 = .ok (.istore 5, 2) := by decide +kernel
theorem dX0_numberOf_9 : decode cX0_numberOf 9 = .ok (.iload 5, 2) := by decide +kernel
theorem dX0_numberOf_11 : decode cX0_numberOf 11 = .ok (.bipush (-9), 2) := by decide +kernel
theorem dX0_numberOf_13 : decode cX0_numberOf 13 = .ok (.if_icmp .eq 14, 3) := by decide +kernel
theorem dX0_numberOf_16 : decode cX0_numberOf 16 = .ok (.iload 4, 2) := by decide +kernel
theorem dX0_numberOf_18 : decode cX0_numberOf 18 = .ok (.ifCond .lt 9, 3) := by decide +kernel
theorem dX0_numberOf_21 : decode cX0_numberOf 21 = .ok (.iload 4, 2) := by decide +kernel
theorem dX0_numberOf_23 : decode cX0_numberOf 23 = .ok (.iload_n 1, 1) := by decide +kernel
theorem dX0_numberOf_24 : decode cX0_numberOf 24 = .ok (.if_icmp .lt 8, 3) := by decide +kernel
theorem dX0_numberOf_27 : decode cX0_numberOf 27 = .ok (.bipush (-9), 2) := by decide +kernel
theorem dX0_numberOf_29 : decode cX0_numberOf 29 = .ok (.goto 11, 3) := by decide +kernel
theorem dX0_numberOf_32 : decode cX0_numberOf 32 = .ok (.iload 5, 2) := by decide +kernel
theorem dX0_numberOf_34 : decode cX0_numberOf 34 = .ok (.iload_n 1, 1) := by decide +kernel
theorem dX0_numberOf_35 : decode cX0_numberOf 35 = .ok (.iload 4, 2) := by decide +kernel
theorem dX0_numberOf_37 : decode cX0_numberOf 37 = .ok (.invokestatic 42, 3) := by decide +kernel
theorem dX0_numberOf_40 : decode cX0_numberOf 40 = .ok (.ireturn, 1) := by decide +kernel
theorem dX0_leastLength_0 : decode cX0_leastLength 0 = .ok (.iconst 1, 1) := by decide +kernel
theorem dX0_leastLength_1 : decode cX0_leastLength 1 = .ok (.istore_n 2, 1) := by decide +kernel
theorem dX0_leastLength_2 : decode cX0_leastLength 2 = .ok (.iload_n 2, 1) := by decide +kernel
theorem dX0_leastLength_3 : decode cX0_leastLength 3 = .ok (.iconst 5, 1) := by decide +kernel
theorem dX0_leastLength_4 : decode cX0_leastLength 4 = .ok (.if_icmp .gt 20, 3) := by decide +kernel
theorem dX0_leastLength_7 : decode cX0_leastLength 7 = .ok (.aload_n 0, 1) := by decide +kernel
theorem dX0_leastLength_8 : decode cX0_leastLength 8 = .ok (.iload_n 2, 1) := by decide +kernel
theorem dX0_leastLength_9 : decode cX0_leastLength 9 = .ok (.iload_n 1, 1) := by decide +kernel
theorem dX0_leastLength_10 : decode cX0_leastLength 10 = .ok (.invokevirtual 45, 3) := by decide +kernel
theorem dX0_leastLength_13 : decode cX0_leastLength 13 = .ok (.ifCond .le 5, 3) := by decide +kernel
theorem dX0_leastLength_16 : decode cX0_leastLength 16 = .ok (.iload_n 2, 1) := by decide +kernel
theorem dX0_leastLength_17 : decode cX0_leastLength 17 = .ok (.ireturn, 1) := by decide +kernel
theorem dX0_leastLength_18 : decode cX0_leastLength 18 = .ok (.iinc 2 1, 3) := by decide +kernel
theorem dX0_leastLength_21 : decode cX0_leastLength 21 = .ok (.goto (-19), 3) := by decide +kernel
theorem dX0_leastLength_24 : decode cX0_leastLength 24 = .ok (.bipush (-9), 2) := by decide +kernel
theorem dX0_leastLength_26 : decode cX0_leastLength 26 = .ok (.ireturn, 1) := by decide +kernel
theorem dX0_leastBound_0 : decode cX0_leastBound 0 = .ok (.bipush (-9), 2) := by decide +kernel
theorem dX0_leastBound_2 : decode cX0_leastBound 2 = .ok (.istore_n 2, 1) := by decide +kernel
theorem dX0_leastBound_3 : decode cX0_leastBound 3 = .ok (.aload_n 0, 1) := by decide +kernel
theorem dX0_leastBound_4 : decode cX0_leastBound 4 = .ok (.iload_n 1, 1) := by decide +kernel
theorem dX0_leastBound_5 : decode cX0_leastBound 5 = .ok (.invokevirtual 31, 3) := by decide +kernel
theorem dX0_leastBound_8 : decode cX0_leastBound 8 = .ok (.istore_n 3, 1) := by decide +kernel
theorem dX0_leastBound_9 : decode cX0_leastBound 9 = .ok (.iconst 0, 1) := by decide +kernel
theorem dX0_leastBound_10 : decode cX0_leastBound 10 = .ok (.istore 4, 2) := by decide +kernel
theorem dX0_leastBound_12 : decode cX0_leastBound 12 = .ok (.iload 4, 2) := by decide +kernel
theorem dX0_leastBound_14 : decode cX0_leastBound 14 = .ok (.iload_n 3, 1) := by decide +kernel
theorem dX0_leastBound_15 : decode cX0_leastBound 15 = .ok (.if_icmp .ge 38, 3) := by decide +kernel
theorem dX0_leastBound_18 : decode cX0_leastBound 18 = .ok (.aload_n 0, 1) := by decide +kernel
theorem dX0_leastBound_19 : decode cX0_leastBound 19 = .ok (.getfield 20, 3) := by decide +kernel
theorem dX0_leastBound_22 : decode cX0_leastBound 22 = .ok (.iload_n 1, 1) := by decide +kernel
theorem dX0_leastBound_23 : decode cX0_leastBound 23 = .ok (.aaload, 1) := by decide +kernel
theorem dX0_leastBound_24 : decode cX0_leastBound 24 = .ok (.iload 4, 2) := by decide +kernel
theorem dX0_leastBound_26 : decode cX0_leastBound 26 = .ok (.iaload, 1) := by decide +kernel
theorem dX0_leastBound_27 : decode cX0_leastBound 27 = .ok (.invokestatic 35, 3) := by decide +kernel
theorem dX0_leastBound_30 : decode cX0_leastBound 30 = .ok (.istore 5, 2) := by decide +kernel
theorem dX0_leastBound_32 : decode cX0_leastBound 32 = .ok (.iload_n 2, 1) := by decide +kernel
theorem dX0_leastBound_33 : decode cX0_leastBound 33 = .ok (.bipush (-9), 2) := by decide +kernel
theorem dX0_leastBound_35 : decode cX0_leastBound 35 = .ok (.if_icmp .eq 9, 3) := by decide +kernel
theorem dX0_leastBound_38 : decode cX0_leastBound 38 = .ok (.iload 5, 2) := by decide +kernel
theorem dX0_leastBound_40 : decode cX0_leastBound 40 = .ok (.iload_n 2, 1) := by decide +kernel
theorem dX0_leastBound_41 : decode cX0_leastBound 41 = .ok (.if_icmp .ge 6, 3) := by decide +kernel
theorem dX0_leastBound_44 : decode cX0_leastBound 44 = .ok (.iload 5, 2) := by decide +kernel
theorem dX0_leastBound_46 : decode cX0_leastBound 46 = .ok (.istore_n 2, 1) := by decide +kernel
theorem dX0_leastBound_47 : decode cX0_leastBound 47 = .ok (.iinc 4 1, 3) := by decide +kernel
theorem dX0_leastBound_50 : decode cX0_leastBound 50 = .ok (.goto (-38), 3) := by decide +kernel
theorem dX0_leastBound_53 : decode cX0_leastBound 53 = .ok (.iload_n 2, 1) := by decide +kernel
theorem dX0_leastBound_54 : decode cX0_leastBound 54 = .ok (.ireturn, 1) := by decide +kernel
theorem dX0_lengthOfLeastBound_0 : decode cX0_lengthOfLeastBound 0 = .ok (.bipush (-9), 2) := by decide +kernel
theorem dX0_lengthOfLeastBound_2 : decode cX0_lengthOfLeastBound 2 = .ok (.istore_n 1, 1) := by decide +kernel
theorem dX0_lengthOfLeastBound_3 : decode cX0_lengthOfLeastBound 3 = .ok (.bipush 61, 2) := by decide +kernel
theorem dX0_lengthOfLeastBound_5 : decode cX0_lengthOfLeastBound 5 = .ok (.istore_n 2, 1) := by decide +kernel
theorem dX0_lengthOfLeastBound_6 : decode cX0_lengthOfLeastBound 6 = .ok (.iconst 1, 1) := by decide +kernel
theorem dX0_lengthOfLeastBound_7 : decode cX0_lengthOfLeastBound 7 = .ok (.istore_n 3, 1) := by decide +kernel
theorem dX0_lengthOfLeastBound_8 : decode cX0_lengthOfLeastBound 8 = .ok (.iload_n 3, 1) := by decide +kernel
theorem dX0_lengthOfLeastBound_9 : decode cX0_lengthOfLeastBound 9 = .ok (.iconst 5, 1) := by decide +kernel
theorem dX0_lengthOfLeastBound_10 : decode cX0_lengthOfLeastBound 10 = .ok (.if_icmp .gt 34, 3) := by decide +kernel
theorem dX0_lengthOfLeastBound_13 : decode cX0_lengthOfLeastBound 13 = .ok (.aload_n 0, 1) := by decide +kernel
theorem dX0_lengthOfLeastBound_14 : decode cX0_lengthOfLeastBound 14 = .ok (.iload_n 3, 1) := by decide +kernel
theorem dX0_lengthOfLeastBound_15 : decode cX0_lengthOfLeastBound 15 = .ok (.invokevirtual 49, 3) := by decide +kernel
theorem dX0_lengthOfLeastBound_18 : decode cX0_lengthOfLeastBound 18 = .ok (.istore 4, 2) := by decide +kernel
theorem dX0_lengthOfLeastBound_20 : decode cX0_lengthOfLeastBound 20 = .ok (.iload 4, 2) := by decide +kernel
theorem dX0_lengthOfLeastBound_22 : decode cX0_lengthOfLeastBound 22 = .ok (.bipush (-9), 2) := by decide +kernel
theorem dX0_lengthOfLeastBound_24 : decode cX0_lengthOfLeastBound 24 = .ok (.if_icmp .eq 14, 3) := by decide +kernel
theorem dX0_lengthOfLeastBound_27 : decode cX0_lengthOfLeastBound 27 = .ok (.iload 4, 2) := by decide +kernel
theorem dX0_lengthOfLeastBound_29 : decode cX0_lengthOfLeastBound 29 = .ok (.iload_n 2, 1) := by decide +kernel
theorem dX0_lengthOfLeastBound_30 : decode cX0_lengthOfLeastBound 30 = .ok (.if_icmp .ge 8, 3) := by decide +kernel
theorem dX0_lengthOfLeastBound_33 : decode cX0_lengthOfLeastBound 33 = .ok (.iload 4, 2) := by decide +kernel
theorem dX0_lengthOfLeastBound_35 : decode cX0_lengthOfLeastBound 35 = .ok (.istore_n 2, 1) := by decide +kernel
theorem dX0_lengthOfLeastBound_36 : decode cX0_lengthOfLeastBound 36 = .ok (.iload_n 3, 1) := by decide +kernel
theorem dX0_lengthOfLeastBound_37 : decode cX0_lengthOfLeastBound 37 = .ok (.istore_n 1, 1) := by decide +kernel
theorem dX0_lengthOfLeastBound_38 : decode cX0_lengthOfLeastBound 38 = .ok (.iinc 3 1, 3) := by decide +kernel
theorem dX0_lengthOfLeastBound_41 : decode cX0_lengthOfLeastBound 41 = .ok (.goto (-33), 3) := by decide +kernel
theorem dX0_lengthOfLeastBound_44 : decode cX0_lengthOfLeastBound 44 = .ok (.iload_n 1, 1) := by decide +kernel
theorem dX0_lengthOfLeastBound_45 : decode cX0_lengthOfLeastBound 45 = .ok (.ireturn, 1) := by decide +kernel
theorem dX0_copyFirst_0 : decode cX0_copyFirst 0 = .ok (.aload_n 0, 1) := by decide +kernel
theorem dX0_copyFirst_1 : decode cX0_copyFirst 1 = .ok (.iload_n 1, 1) := by decide +kernel
theorem dX0_copyFirst_2 : decode cX0_copyFirst 2 = .ok (.iload_n 2, 1) := by decide +kernel
theorem dX0_copyFirst_3 : decode cX0_copyFirst 3 = .ok (.iconst 0, 1) := by decide +kernel
theorem dX0_copyFirst_4 : decode cX0_copyFirst 4 = .ok (.invokevirtual 38, 3) := by decide +kernel
theorem dX0_copyFirst_7 : decode cX0_copyFirst 7 = .ok (.istore 4, 2) := by decide +kernel
theorem dX0_copyFirst_9 : decode cX0_copyFirst 9 = .ok (.iload 4, 2) := by decide +kernel
theorem dX0_copyFirst_11 : decode cX0_copyFirst 11 = .ok (.bipush (-9), 2) := by decide +kernel
theorem dX0_copyFirst_13 : decode cX0_copyFirst 13 = .ok (.if_icmp .ne 5, 3) := by decide +kernel
theorem dX0_copyFirst_16 : decode cX0_copyFirst 16 = .ok (.iconst 0, 1) := by decide +kernel
theorem dX0_copyFirst_17 : decode cX0_copyFirst 17 = .ok (.ireturn, 1) := by decide +kernel
theorem dX0_copyFirst_18 : decode cX0_copyFirst 18 = .ok (.aload_n 3, 1) := by decide +kernel
theorem dX0_copyFirst_19 : decode cX0_copyFirst 19 = .ok (.invokevirtual 52, 3) := by decide +kernel
theorem dX0_copyFirst_22 : decode cX0_copyFirst 22 = .ok (.iconst 0, 1) := by decide +kernel
theorem dX0_copyFirst_23 : decode cX0_copyFirst 23 = .ok (.istore 5, 2) := by decide +kernel
theorem dX0_copyFirst_25 : decode cX0_copyFirst 25 = .ok (.iload 5, 2) := by decide +kernel
theorem dX0_copyFirst_27 : decode cX0_copyFirst 27 = .ok (.iload_n 1, 1) := by decide +kernel
theorem dX0_copyFirst_28 : decode cX0_copyFirst 28 = .ok (.if_icmp .ge 23, 3) := by decide +kernel
theorem dX0_copyFirst_31 : decode cX0_copyFirst 31 = .ok (.aload_n 3, 1) := by decide +kernel
theorem dX0_copyFirst_32 : decode cX0_copyFirst 32 = .ok (.iload 4, 2) := by decide +kernel
theorem dX0_copyFirst_34 : decode cX0_copyFirst 34 = .ok (.iload_n 1, 1) := by decide +kernel
theorem dX0_copyFirst_35 : decode cX0_copyFirst 35 = .ok (.iload 5, 2) := by decide +kernel
theorem dX0_copyFirst_37 : decode cX0_copyFirst 37 = .ok (.invokestatic 42, 3) := by decide +kernel
theorem dX0_copyFirst_40 : decode cX0_copyFirst 40 = .ok (.i2l, 1) := by decide +kernel
theorem dX0_copyFirst_41 : decode cX0_copyFirst 41 = .ok (.invokevirtual 57, 3) := by decide +kernel
theorem dX0_copyFirst_44 : decode cX0_copyFirst 44 = .ok (.pop, 1) := by decide +kernel
theorem dX0_copyFirst_45 : decode cX0_copyFirst 45 = .ok (.iinc 5 1, 3) := by decide +kernel
theorem dX0_copyFirst_48 : decode cX0_copyFirst 48 = .ok (.goto (-23), 3) := by decide +kernel
theorem dX0_copyFirst_51 : decode cX0_copyFirst 51 = .ok (.iconst 1, 1) := by decide +kernel
theorem dX0_copyFirst_52 : decode cX0_copyFirst 52 = .ok (.ireturn, 1) := by decide +kernel
theorem dX0_pick_0 : decode cX0_pick 0 = .ok (.iconst 0, 1) := by decide +kernel
theorem dX0_pick_1 : decode cX0_pick 1 = .ok (.istore 4, 2) := by decide +kernel
theorem dX0_pick_3 : decode cX0_pick 3 = .ok (.aload_n 0, 1) := by decide +kernel
theorem dX0_pick_4 : decode cX0_pick 4 = .ok (.iload_n 1, 1) := by decide +kernel
theorem dX0_pick_5 : decode cX0_pick 5 = .ok (.invokevirtual 31, 3) := by decide +kernel
theorem dX0_pick_8 : decode cX0_pick 8 = .ok (.istore 5, 2) := by decide +kernel
theorem dX0_pick_10 : decode cX0_pick 10 = .ok (.iconst 0, 1) := by decide +kernel
theorem dX0_pick_11 : decode cX0_pick 11 = .ok (.istore 6, 2) := by decide +kernel
theorem dX0_pick_13 : decode cX0_pick 13 = .ok (.iload 6, 2) := by decide +kernel
theorem dX0_pick_15 : decode cX0_pick 15 = .ok (.iload 5, 2) := by decide +kernel
theorem dX0_pick_17 : decode cX0_pick 17 = .ok (.if_icmp .ge 44, 3) := by decide +kernel
theorem dX0_pick_20 : decode cX0_pick 20 = .ok (.aload_n 0, 1) := by decide +kernel
theorem dX0_pick_21 : decode cX0_pick 21 = .ok (.getfield 20, 3) := by decide +kernel
theorem dX0_pick_24 : decode cX0_pick 24 = .ok (.iload_n 1, 1) := by decide +kernel
theorem dX0_pick_25 : decode cX0_pick 25 = .ok (.aaload, 1) := by decide +kernel
theorem dX0_pick_26 : decode cX0_pick 26 = .ok (.iload 6, 2) := by decide +kernel
theorem dX0_pick_28 : decode cX0_pick 28 = .ok (.iaload, 1) := by decide +kernel
theorem dX0_pick_29 : decode cX0_pick 29 = .ok (.invokestatic 35, 3) := by decide +kernel
theorem dX0_pick_32 : decode cX0_pick 32 = .ok (.iload_n 2, 1) := by decide +kernel
theorem dX0_pick_33 : decode cX0_pick 33 = .ok (.if_icmp .gt 22, 3) := by decide +kernel
theorem dX0_pick_36 : decode cX0_pick 36 = .ok (.iload 4, 2) := by decide +kernel
theorem dX0_pick_38 : decode cX0_pick 38 = .ok (.iload_n 3, 1) := by decide +kernel
theorem dX0_pick_39 : decode cX0_pick 39 = .ok (.if_icmp .ne 13, 3) := by decide +kernel
theorem dX0_pick_42 : decode cX0_pick 42 = .ok (.aload_n 0, 1) := by decide +kernel
theorem dX0_pick_43 : decode cX0_pick 43 = .ok (.getfield 20, 3) := by decide +kernel
theorem dX0_pick_46 : decode cX0_pick 46 = .ok (.iload_n 1, 1) := by decide +kernel
theorem dX0_pick_47 : decode cX0_pick 47 = .ok (.aaload, 1) := by decide +kernel
theorem dX0_pick_48 : decode cX0_pick 48 = .ok (.iload 6, 2) := by decide +kernel
theorem dX0_pick_50 : decode cX0_pick 50 = .ok (.iaload, 1) := by decide +kernel
theorem dX0_pick_51 : decode cX0_pick 51 = .ok (.ireturn, 1) := by decide +kernel
theorem dX0_pick_52 : decode cX0_pick 52 = .ok (.iinc 4 1, 3) := by decide +kernel
theorem dX0_pick_55 : decode cX0_pick 55 = .ok (.iinc 6 1, 3) := by decide +kernel
theorem dX0_pick_58 : decode cX0_pick 58 = .ok (.goto (-45), 3) := by decide +kernel
theorem dX0_pick_61 : decode cX0_pick 61 = .ok (.bipush (-9), 2) := by decide +kernel
theorem dX0_pick_63 : decode cX0_pick 63 = .ok (.ireturn, 1) := by decide +kernel
theorem dX0_greatest_0 : decode cX0_greatest 0 = .ok (.iload_n 0, 1) := by decide +kernel
theorem dX0_greatest_1 : decode cX0_greatest 1 = .ok (.bipush 63, 2) := by decide +kernel
theorem dX0_greatest_3 : decode cX0_greatest 3 = .ok (.iand, 1) := by decide +kernel
theorem dX0_greatest_4 : decode cX0_greatest 4 = .ok (.ireturn, 1) := by decide +kernel
theorem dX0_unpack_0 : decode cX0_unpack 0 = .ok (.iload_n 0, 1) := by decide +kernel
theorem dX0_unpack_1 : decode cX0_unpack 1 = .ok (.bipush 6, 2) := by decide +kernel
theorem dX0_unpack_3 : decode cX0_unpack 3 = .ok (.iload_n 1, 1) := by decide +kernel
theorem dX0_unpack_4 : decode cX0_unpack 4 = .ok (.iconst 1, 1) := by decide +kernel
theorem dX0_unpack_5 : decode cX0_unpack 5 = .ok (.isub, 1) := by decide +kernel
theorem dX0_unpack_6 : decode cX0_unpack 6 = .ok (.iload_n 2, 1) := by decide +kernel
theorem dX0_unpack_7 : decode cX0_unpack 7 = .ok (.isub, 1) := by decide +kernel
theorem dX0_unpack_8 : decode cX0_unpack 8 = .ok (.imul, 1) := by decide +kernel
theorem dX0_unpack_9 : decode cX0_unpack 9 = .ok (.ishr, 1) := by decide +kernel
theorem dX0_unpack_10 : decode cX0_unpack 10 = .ok (.bipush 63, 2) := by decide +kernel
theorem dX0_unpack_12 : decode cX0_unpack 12 = .ok (.iand, 1) := by decide +kernel
theorem dX0_unpack_13 : decode cX0_unpack 13 = .ok (.ireturn, 1) := by decide +kernel
theorem dX0_seek_0 : decode cX0_seek 0 = .ok (.iload_n 1, 1) := by decide +kernel
theorem dX0_seek_1 : decode cX0_seek 1 = .ok (.invokestatic 61, 3) := by decide +kernel
theorem dX0_seek_4 : decode cX0_seek 4 = .ok (.ifCond .ne 5, 3) := by decide +kernel
theorem dX0_seek_7 : decode cX0_seek 7 = .ok (.iconst 0, 1) := by decide +kernel
theorem dX0_seek_8 : decode cX0_seek 8 = .ok (.ireturn, 1) := by decide +kernel
theorem dX0_seek_9 : decode cX0_seek 9 = .ok (.aload_n 0, 1) := by decide +kernel
theorem dX0_seek_10 : decode cX0_seek 10 = .ok (.getfield 27, 3) := by decide +kernel
theorem dX0_seek_13 : decode cX0_seek 13 = .ok (.iload_n 1, 1) := by decide +kernel
theorem dX0_seek_14 : decode cX0_seek 14 = .ok (.baload, 1) := by decide +kernel
theorem dX0_seek_15 : decode cX0_seek 15 = .ok (.ifCond .ne 34, 3) := by decide +kernel
theorem dX0_seek_18 : decode cX0_seek 18 = .ok (.aload_n 0, 1) := by decide +kernel
theorem dX0_seek_19 : decode cX0_seek 19 = .ok (.getfield 27, 3) := by decide +kernel
theorem dX0_seek_22 : decode cX0_seek 22 = .ok (.iload_n 1, 1) := by decide +kernel
theorem dX0_seek_23 : decode cX0_seek 23 = .ok (.iconst 1, 1) := by decide +kernel
theorem dX0_seek_24 : decode cX0_seek 24 = .ok (.bastore, 1) := by decide +kernel
theorem dX0_seek_25 : decode cX0_seek 25 = .ok (.aload_n 0, 1) := by decide +kernel
theorem dX0_seek_26 : decode cX0_seek 26 = .ok (.getfield 23, 3) := by decide +kernel
theorem dX0_seek_29 : decode cX0_seek 29 = .ok (.iload_n 1, 1) := by decide +kernel
theorem dX0_seek_30 : decode cX0_seek 30 = .ok (.iconst 0, 1) := by decide +kernel
theorem dX0_seek_31 : decode cX0_seek 31 = .ok (.iastore, 1) := by decide +kernel
theorem dX0_seek_32 : decode cX0_seek 32 = .ok (.aload_n 0, 1) := by decide +kernel
theorem dX0_seek_33 : decode cX0_seek 33 = .ok (.iload_n 1, 1) := by decide +kernel
theorem dX0_seek_34 : decode cX0_seek 34 = .ok (.iload_n 1, 1) := by decide +kernel
theorem dX0_seek_35 : decode cX0_seek 35 = .ok (.iconst 0, 1) := by decide +kernel
theorem dX0_seek_36 : decode cX0_seek 36 = .ok (.aload_n 0, 1) := by decide +kernel
theorem dX0_seek_37 : decode cX0_seek 37 = .ok (.getfield 9, 3) := by decide +kernel
theorem dX0_seek_40 : decode cX0_seek 40 = .ok (.i2l, 1) := by decide +kernel
theorem dX0_seek_41 : decode cX0_seek 41 = .ok (.aload_n 0, 1) := by decide +kernel
theorem dX0_seek_42 : decode cX0_seek 42 = .ok (.getfield 15, 3) := by decide +kernel
theorem dX0_seek_45 : decode cX0_seek 45 = .ok (.i2l, 1) := by decide +kernel
theorem dX0_seek_46 : decode cX0_seek 46 = .ok (.invokestatic 65, 3) := by decide +kernel
theorem dX0_seek_49 : decode cX0_seek 49 = .ok (.aload_n 0, 1) := by decide +kernel
theorem dX0_seek_50 : decode cX0_seek 50 = .ok (.getfield 23, 3) := by decide +kernel
theorem dX0_seek_53 : decode cX0_seek 53 = .ok (.iload_n 1, 1) := by decide +kernel
theorem dX0_seek_54 : decode cX0_seek 54 = .ok (.iaload, 1) := by decide +kernel
theorem dX0_seek_55 : decode cX0_seek 55 = .ok (.ireturn, 1) := by decide +kernel
theorem dX0_extend_0 : decode cX0_extend 0 = .ok (.lload 4, 2) := by decide +kernel
theorem dX0_extend_2 : decode cX0_extend 2 = .ok (.lconst 0, 1) := by decide +kernel
theorem dX0_extend_3 : decode cX0_extend 3 = .ok (.lcmp, 1) := by decide +kernel
theorem dX0_extend_4 : decode cX0_extend 4 = .ok (.ifCond .gt 4, 3) := by decide +kernel
theorem dX0_extend_7 : decode cX0_extend 7 = .ok (.return_, 1) := by decide +kernel
theorem dX0_extend_8 : decode cX0_extend 8 = .ok (.iload_n 3, 1) := by decide +kernel
theorem dX0_extend_9 : decode cX0_extend 9 = .ok (.invokestatic 35, 3) := by decide +kernel
theorem dX0_extend_12 : decode cX0_extend 12 = .ok (.iconst 1, 1) := by decide +kernel
theorem dX0_extend_13 : decode cX0_extend 13 = .ok (.iadd, 1) := by decide +kernel
theorem dX0_extend_14 : decode cX0_extend 14 = .ok (.istore 8, 2) := by decide +kernel
theorem dX0_extend_16 : decode cX0_extend 16 = .ok (.iload_n 2, 1) := by decide +kernel
theorem dX0_extend_17 : decode cX0_extend 17 = .ok (.iconst 1, 1) := by decide +kernel
theorem dX0_extend_18 : decode cX0_extend 18 = .ok (.if_icmp .gt 16, 3) := by decide +kernel
theorem dX0_extend_21 : decode cX0_extend 21 = .ok (.aload_n 0, 1) := by decide +kernel
theorem dX0_extend_22 : decode cX0_extend 22 = .ok (.iload_n 1, 1) := by decide +kernel
theorem dX0_extend_23 : decode cX0_extend 23 = .ok (.iload_n 3, 1) := by decide +kernel
theorem dX0_extend_24 : decode cX0_extend 24 = .ok (.iload 8, 2) := by decide +kernel
theorem dX0_extend_26 : decode cX0_extend 26 = .ok (.lload 4, 2) := by decide +kernel
theorem dX0_extend_28 : decode cX0_extend 28 = .ok (.lload 6, 2) := by decide +kernel
theorem dX0_extend_30 : decode cX0_extend 30 = .ok (.invokevirtual 69, 3) := by decide +kernel
theorem dX0_extend_33 : decode cX0_extend 33 = .ok (.return_, 1) := by decide +kernel
theorem dX0_extend_34 : decode cX0_extend 34 = .ok (.iload 8, 2) := by decide +kernel
theorem dX0_extend_36 : decode cX0_extend 36 = .ok (.i2l, 1) := by decide +kernel
theorem dX0_extend_37 : decode cX0_extend 37 = .ok (.lload 6, 2) := by decide +kernel
theorem dX0_extend_39 : decode cX0_extend 39 = .ok (.lload 4, 2) := by decide +kernel
theorem dX0_extend_41 : decode cX0_extend 41 = .ok (.ldiv, 1) := by decide +kernel
theorem dX0_extend_42 : decode cX0_extend 42 = .ok (.lconst 1, 1) := by decide +kernel
theorem dX0_extend_43 : decode cX0_extend 43 = .ok (.ladd, 1) := by decide +kernel
theorem dX0_extend_44 : decode cX0_extend 44 = .ok (.invokestatic 73, 3) := by decide +kernel
theorem dX0_extend_47 : decode cX0_extend 47 = .ok (.lstore 9, 2) := by decide +kernel
theorem dX0_extend_49 : decode cX0_extend 49 = .ok (.lload 9, 2) := by decide +kernel
theorem dX0_extend_51 : decode cX0_extend 51 = .ok (.lstore 11, 2) := by decide +kernel
theorem dX0_extend_53 : decode cX0_extend 53 = .ok (.lload 11, 2) := by decide +kernel
theorem dX0_extend_55 : decode cX0_extend 55 = .ok (.ldc2_w 79, 3) := by decide +kernel
theorem dX0_extend_58 : decode cX0_extend 58 = .ok (.lcmp, 1) := by decide +kernel
theorem dX0_extend_59 : decode cX0_extend 59 = .ok (.ifCond .gt 80, 3) := by decide +kernel
theorem dX0_extend_62 : decode cX0_extend 62 = .ok (.lload 11, 2) := by decide +kernel
theorem dX0_extend_64 : decode cX0_extend 64 = .ok (.lload 4, 2) := by decide +kernel
theorem dX0_extend_66 : decode cX0_extend 66 = .ok (.lmul, 1) := by decide +kernel
theorem dX0_extend_67 : decode cX0_extend 67 = .ok (.iload_n 2, 1) := by decide +kernel
theorem dX0_extend_68 : decode cX0_extend 68 = .ok (.i2l, 1) := by decide +kernel
theorem dX0_extend_69 : decode cX0_extend 69 = .ok (.lload 6, 2) := by decide +kernel
theorem dX0_extend_71 : decode cX0_extend 71 = .ok (.lmul, 1) := by decide +kernel
theorem dX0_extend_72 : decode cX0_extend 72 = .ok (.lcmp, 1) := by decide +kernel
theorem dX0_extend_73 : decode cX0_extend 73 = .ok (.ifCond .lt 4, 3) := by decide +kernel
theorem dX0_extend_76 : decode cX0_extend 76 = .ok (.return_, 1) := by decide +kernel
theorem dX0_extend_77 : decode cX0_extend 77 = .ok (.lload 11, 2) := by decide +kernel
theorem dX0_extend_79 : decode cX0_extend 79 = .ok (.lload 4, 2) := by decide +kernel
theorem dX0_extend_81 : decode cX0_extend 81 = .ok (.lmul, 1) := by decide +kernel
theorem dX0_extend_82 : decode cX0_extend 82 = .ok (.lload 6, 2) := by decide +kernel
theorem dX0_extend_84 : decode cX0_extend 84 = .ok (.lsub, 1) := by decide +kernel
theorem dX0_extend_85 : decode cX0_extend 85 = .ok (.lstore 13, 2) := by decide +kernel
theorem dX0_extend_87 : decode cX0_extend 87 = .ok (.lload 13, 2) := by decide +kernel
theorem dX0_extend_89 : decode cX0_extend 89 = .ok (.ldc2_w 79, 3) := by decide +kernel
theorem dX0_extend_92 : decode cX0_extend 92 = .ok (.lmul, 1) := by decide +kernel
theorem dX0_extend_93 : decode cX0_extend 93 = .ok (.iload_n 2, 1) := by decide +kernel
theorem dX0_extend_94 : decode cX0_extend 94 = .ok (.iconst 1, 1) := by decide +kernel
theorem dX0_extend_95 : decode cX0_extend 95 = .ok (.isub, 1) := by decide +kernel
theorem dX0_extend_96 : decode cX0_extend 96 = .ok (.i2l, 1) := by decide +kernel
theorem dX0_extend_97 : decode cX0_extend 97 = .ok (.lload 6, 2) := by decide +kernel
theorem dX0_extend_99 : decode cX0_extend 99 = .ok (.lmul, 1) := by decide +kernel
theorem dX0_extend_100 : decode cX0_extend 100 = .ok (.lload 11, 2) := by decide +kernel
theorem dX0_extend_102 : decode cX0_extend 102 = .ok (.lmul, 1) := by decide +kernel
theorem dX0_extend_103 : decode cX0_extend 103 = .ok (.lcmp, 1) := by decide +kernel
theorem dX0_extend_104 : decode cX0_extend 104 = .ok (.ifCond .lt 26, 3) := by decide +kernel
theorem dX0_extend_107 : decode cX0_extend 107 = .ok (.aload_n 0, 1) := by decide +kernel
theorem dX0_extend_108 : decode cX0_extend 108 = .ok (.iload_n 1, 1) := by decide +kernel
theorem dX0_extend_109 : decode cX0_extend 109 = .ok (.iload_n 2, 1) := by decide +kernel
theorem dX0_extend_110 : decode cX0_extend 110 = .ok (.iconst 1, 1) := by decide +kernel
theorem dX0_extend_111 : decode cX0_extend 111 = .ok (.isub, 1) := by decide +kernel
theorem dX0_extend_112 : decode cX0_extend 112 = .ok (.iload_n 3, 1) := by decide +kernel
theorem dX0_extend_113 : decode cX0_extend 113 = .ok (.bipush 6, 2) := by decide +kernel
theorem dX0_extend_115 : decode cX0_extend 115 = .ok (.ishl, 1) := by decide +kernel
theorem dX0_extend_116 : decode cX0_extend 116 = .ok (.lload 11, 2) := by decide +kernel
theorem dX0_extend_118 : decode cX0_extend 118 = .ok (.l2i, 1) := by decide +kernel
theorem dX0_extend_119 : decode cX0_extend 119 = .ok (.ior, 1) := by decide +kernel
theorem dX0_extend_120 : decode cX0_extend 120 = .ok (.lload 13, 2) := by decide +kernel
theorem dX0_extend_122 : decode cX0_extend 122 = .ok (.lload 6, 2) := by decide +kernel
theorem dX0_extend_124 : decode cX0_extend 124 = .ok (.lload 11, 2) := by decide +kernel
theorem dX0_extend_126 : decode cX0_extend 126 = .ok (.lmul, 1) := by decide +kernel
theorem dX0_extend_127 : decode cX0_extend 127 = .ok (.invokestatic 65, 3) := by decide +kernel
theorem dX0_extend_130 : decode cX0_extend 130 = .ok (.lload 11, 2) := by decide +kernel
theorem dX0_extend_132 : decode cX0_extend 132 = .ok (.lconst 1, 1) := by decide +kernel
theorem dX0_extend_133 : decode cX0_extend 133 = .ok (.ladd, 1) := by decide +kernel
theorem dX0_extend_134 : decode cX0_extend 134 = .ok (.lstore 11, 2) := by decide +kernel
theorem dX0_extend_136 : decode cX0_extend 136 = .ok (.goto (-83), 3) := by decide +kernel
theorem dX0_extend_139 : decode cX0_extend 139 = .ok (.return_, 1) := by decide +kernel
theorem dX0_end_0 : decode cX0_end 0 = .ok (.lload 4, 2) := by decide +kernel
theorem dX0_end_2 : decode cX0_end 2 = .ok (.lconst 0, 1) := by decide +kernel
theorem dX0_end_3 : decode cX0_end 3 = .ok (.lcmp, 1) := by decide +kernel
theorem dX0_end_4 : decode cX0_end 4 = .ok (.ifCond .le 25, 3) := by decide +kernel
theorem dX0_end_7 : decode cX0_end 7 = .ok (.lload 6, 2) := by decide +kernel
theorem dX0_end_9 : decode cX0_end 9 = .ok (.lload 4, 2) := by decide +kernel
theorem dX0_end_11 : decode cX0_end 11 = .ok (.lrem, 1) := by decide +kernel
theorem dX0_end_12 : decode cX0_end 12 = .ok (.lconst 0, 1) := by decide +kernel
theorem dX0_end_13 : decode cX0_end 13 = .ok (.lcmp, 1) := by decide +kernel
theorem dX0_end_14 : decode cX0_end 14 = .ok (.ifCond .ne 15, 3) := by decide +kernel
theorem dX0_end_17 : decode cX0_end 17 = .ok (.aload_n 0, 1) := by decide +kernel
theorem dX0_end_18 : decode cX0_end 18 = .ok (.getfield 23, 3) := by decide +kernel
theorem dX0_end_21 : decode cX0_end 21 = .ok (.iload_n 1, 1) := by decide +kernel
theorem dX0_end_22 : decode cX0_end 22 = .ok (.iaload, 1) := by decide +kernel
theorem dX0_end_23 : decode cX0_end 23 = .ok (.sipush 128, 3) := by decide +kernel
theorem dX0_end_26 : decode cX0_end 26 = .ok (.if_icmp .lt 4, 3) := by decide +kernel
theorem dX0_end_29 : decode cX0_end 29 = .ok (.return_, 1) := by decide +kernel
theorem dX0_end_30 : decode cX0_end 30 = .ok (.lload 6, 2) := by decide +kernel
theorem dX0_end_32 : decode cX0_end 32 = .ok (.lload 4, 2) := by decide +kernel
theorem dX0_end_34 : decode cX0_end 34 = .ok (.ldiv, 1) := by decide +kernel
theorem dX0_end_35 : decode cX0_end 35 = .ok (.lstore 8, 2) := by decide +kernel
theorem dX0_end_37 : decode cX0_end 37 = .ok (.lload 8, 2) := by decide +kernel
theorem dX0_end_39 : decode cX0_end 39 = .ok (.iload_n 3, 1) := by decide +kernel
theorem dX0_end_40 : decode cX0_end 40 = .ok (.i2l, 1) := by decide +kernel
theorem dX0_end_41 : decode cX0_end 41 = .ok (.lcmp, 1) := by decide +kernel
theorem dX0_end_42 : decode cX0_end 42 = .ok (.ifCond .lt 43, 3) := by decide +kernel
theorem dX0_end_45 : decode cX0_end 45 = .ok (.lload 8, 2) := by decide +kernel
theorem dX0_end_47 : decode cX0_end 47 = .ok (.ldc2_w 79, 3) := by decide +kernel
theorem dX0_end_50 : decode cX0_end 50 = .ok (.lcmp, 1) := by decide +kernel
theorem dX0_end_51 : decode cX0_end 51 = .ok (.ifCond .gt 34, 3) := by decide +kernel
theorem dX0_end_54 : decode cX0_end 54 = .ok (.aload_n 0, 1) := by decide +kernel
theorem dX0_end_55 : decode cX0_end 55 = .ok (.getfield 20, 3) := by decide +kernel
theorem dX0_end_58 : decode cX0_end 58 = .ok (.iload_n 1, 1) := by decide +kernel
theorem dX0_end_59 : decode cX0_end 59 = .ok (.aaload, 1) := by decide +kernel
theorem dX0_end_60 : decode cX0_end 60 = .ok (.aload_n 0, 1) := by decide +kernel
theorem dX0_end_61 : decode cX0_end 61 = .ok (.getfield 23, 3) := by decide +kernel
theorem dX0_end_64 : decode cX0_end 64 = .ok (.iload_n 1, 1) := by decide +kernel
theorem dX0_end_65 : decode cX0_end 65 = .ok (.iaload, 1) := by decide +kernel
theorem dX0_end_66 : decode cX0_end 66 = .ok (.iload_n 2, 1) := by decide +kernel
theorem dX0_end_67 : decode cX0_end 67 = .ok (.bipush 6, 2) := by decide +kernel
theorem dX0_end_69 : decode cX0_end 69 = .ok (.ishl, 1) := by decide +kernel
theorem dX0_end_70 : decode cX0_end 70 = .ok (.lload 8, 2) := by decide +kernel
theorem dX0_end_72 : decode cX0_end 72 = .ok (.l2i, 1) := by decide +kernel
theorem dX0_end_73 : decode cX0_end 73 = .ok (.ior, 1) := by decide +kernel
theorem dX0_end_74 : decode cX0_end 74 = .ok (.iastore, 1) := by decide +kernel
theorem dX0_end_75 : decode cX0_end 75 = .ok (.aload_n 0, 1) := by decide +kernel
theorem dX0_end_76 : decode cX0_end 76 = .ok (.getfield 23, 3) := by decide +kernel
theorem dX0_end_79 : decode cX0_end 79 = .ok (.iload_n 1, 1) := by decide +kernel
theorem dX0_end_80 : decode cX0_end 80 = .ok (.dup2, 1) := by decide +kernel
theorem dX0_end_81 : decode cX0_end 81 = .ok (.iaload, 1) := by decide +kernel
theorem dX0_end_82 : decode cX0_end 82 = .ok (.iconst 1, 1) := by decide +kernel
theorem dX0_end_83 : decode cX0_end 83 = .ok (.iadd, 1) := by decide +kernel
theorem dX0_end_84 : decode cX0_end 84 = .ok (.iastore, 1) := by decide +kernel
theorem dX0_end_85 : decode cX0_end 85 = .ok (.return_, 1) := by decide +kernel
theorem dX1_init_0 : decode cX1_init 0 = .ok (.aload_n 0, 1) := by decide +kernel
theorem dX1_init_1 : decode cX1_init 1 = .ok (.invokespecial 3, 3) := by decide +kernel
theorem dX1_init_4 : decode cX1_init 4 = .ok (.aload_n 0, 1) := by decide +kernel
theorem dX1_init_5 : decode cX1_init 5 = .ok (.bipush 10, 2) := by decide +kernel
theorem dX1_init_7 : decode cX1_init 7 = .ok (.anewarray 9, 3) := by decide +kernel
theorem dX1_init_10 : decode cX1_init 10 = .ok (.putfield 11, 3) := by decide +kernel
theorem dX1_init_13 : decode cX1_init 13 = .ok (.aload_n 0, 1) := by decide +kernel
theorem dX1_init_14 : decode cX1_init 14 = .ok (.iconst 0, 1) := by decide +kernel
theorem dX1_init_15 : decode cX1_init 15 = .ok (.putfield 17, 3) := by decide +kernel
theorem dX1_init_18 : decode cX1_init 18 = .ok (.iconst 0, 1) := by decide +kernel
theorem dX1_init_19 : decode cX1_init 19 = .ok (.istore_n 1, 1) := by decide +kernel
theorem dX1_init_20 : decode cX1_init 20 = .ok (.iload_n 1, 1) := by decide +kernel
theorem dX1_init_21 : decode cX1_init 21 = .ok (.bipush 10, 2) := by decide +kernel
theorem dX1_init_23 : decode cX1_init 23 = .ok (.if_icmp .ge 22, 3) := by decide +kernel
theorem dX1_init_26 : decode cX1_init 26 = .ok (.aload_n 0, 1) := by decide +kernel
theorem dX1_init_27 : decode cX1_init 27 = .ok (.getfield 11, 3) := by decide +kernel
theorem dX1_init_30 : decode cX1_init 30 = .ok (.iload_n 1, 1) := by decide +kernel
theorem dX1_init_31 : decode cX1_init 31 = .ok (.new 9, 3) := by decide +kernel
theorem dX1_init_34 : decode cX1_init 34 = .ok (.dup, 1) := by decide +kernel
theorem dX1_init_35 : decode cX1_init 35 = .ok (.invokespecial 21, 3) := by decide +kernel
theorem dX1_init_38 : decode cX1_init 38 = .ok (.aastore, 1) := by decide +kernel
theorem dX1_init_39 : decode cX1_init 39 = .ok (.iinc 1 1, 3) := by decide +kernel
theorem dX1_init_42 : decode cX1_init 42 = .ok (.goto (-22), 3) := by decide +kernel
theorem dX1_init_45 : decode cX1_init 45 = .ok (.return_, 1) := by decide +kernel
theorem dX1_length_0 : decode cX1_length 0 = .ok (.aload_n 0, 1) := by decide +kernel
theorem dX1_length_1 : decode cX1_length 1 = .ok (.getfield 17, 3) := by decide +kernel
theorem dX1_length_4 : decode cX1_length 4 = .ok (.ireturn, 1) := by decide +kernel
theorem dX1_wipe_0 : decode cX1_wipe 0 = .ok (.aload_n 0, 1) := by decide +kernel
theorem dX1_wipe_1 : decode cX1_wipe 1 = .ok (.iconst 0, 1) := by decide +kernel
theorem dX1_wipe_2 : decode cX1_wipe 2 = .ok (.putfield 17, 3) := by decide +kernel
theorem dX1_wipe_5 : decode cX1_wipe 5 = .ok (.return_, 1) := by decide +kernel
theorem dX1_store_0 : decode cX1_store 0 = .ok (.aload_n 0, 1) := by decide +kernel
theorem dX1_store_1 : decode cX1_store 1 = .ok (.getfield 17, 3) := by decide +kernel
theorem dX1_store_4 : decode cX1_store 4 = .ok (.bipush 10, 2) := by decide +kernel
theorem dX1_store_6 : decode cX1_store 6 = .ok (.if_icmp .ne 7, 3) := by decide +kernel
theorem dX1_store_9 : decode cX1_store 9 = .ok (.aload_n 0, 1) := by decide +kernel
theorem dX1_store_10 : decode cX1_store 10 = .ok (.invokevirtual 22, 3) := by decide +kernel
theorem dX1_store_13 : decode cX1_store 13 = .ok (.aload_n 0, 1) := by decide +kernel
theorem dX1_store_14 : decode cX1_store 14 = .ok (.getfield 11, 3) := by decide +kernel
theorem dX1_store_17 : decode cX1_store 17 = .ok (.aload_n 0, 1) := by decide +kernel
theorem dX1_store_18 : decode cX1_store 18 = .ok (.getfield 17, 3) := by decide +kernel
theorem dX1_store_21 : decode cX1_store 21 = .ok (.aaload, 1) := by decide +kernel
theorem dX1_store_22 : decode cX1_store 22 = .ok (.aload_n 1, 1) := by decide +kernel
theorem dX1_store_23 : decode cX1_store 23 = .ok (.invokevirtual 25, 3) := by decide +kernel
theorem dX1_store_26 : decode cX1_store 26 = .ok (.aload_n 0, 1) := by decide +kernel
theorem dX1_store_27 : decode cX1_store 27 = .ok (.dup, 1) := by decide +kernel
theorem dX1_store_28 : decode cX1_store 28 = .ok (.getfield 17, 3) := by decide +kernel
theorem dX1_store_31 : decode cX1_store 31 = .ok (.iconst 1, 1) := by decide +kernel
theorem dX1_store_32 : decode cX1_store 32 = .ok (.iadd, 1) := by decide +kernel
theorem dX1_store_33 : decode cX1_store 33 = .ok (.putfield 17, 3) := by decide +kernel
theorem dX1_store_36 : decode cX1_store 36 = .ok (.return_, 1) := by decide +kernel
theorem dX1_loseOldest_0 : decode cX1_loseOldest 0 = .ok (.aload_n 0, 1) := by decide +kernel
theorem dX1_loseOldest_1 : decode cX1_loseOldest 1 = .ok (.getfield 11, 3) := by decide +kernel
theorem dX1_loseOldest_4 : decode cX1_loseOldest 4 = .ok (.iconst 0, 1) := by decide +kernel
theorem dX1_loseOldest_5 : decode cX1_loseOldest 5 = .ok (.aaload, 1) := by decide +kernel
theorem dX1_loseOldest_6 : decode cX1_loseOldest 6 = .ok (.astore_n 1, 1) := by decide +kernel
theorem dX1_loseOldest_7 : decode cX1_loseOldest 7 = .ok (.aload_n 0, 1) := by decide +kernel
theorem dX1_loseOldest_8 : decode cX1_loseOldest 8 = .ok (.dup, 1) := by decide +kernel
theorem dX1_loseOldest_9 : decode cX1_loseOldest 9 = .ok (.getfield 17, 3) := by decide +kernel
theorem dX1_loseOldest_12 : decode cX1_loseOldest 12 = .ok (.iconst 1, 1) := by decide +kernel
theorem dX1_loseOldest_13 : decode cX1_loseOldest 13 = .ok (.isub, 1) := by decide +kernel
theorem dX1_loseOldest_14 : decode cX1_loseOldest 14 = .ok (.putfield 17, 3) := by decide +kernel
theorem dX1_loseOldest_17 : decode cX1_loseOldest 17 = .ok (.iconst 0, 1) := by decide +kernel
theorem dX1_loseOldest_18 : decode cX1_loseOldest 18 = .ok (.istore_n 2, 1) := by decide +kernel
theorem dX1_loseOldest_19 : decode cX1_loseOldest 19 = .ok (.iload_n 2, 1) := by decide +kernel
theorem dX1_loseOldest_20 : decode cX1_loseOldest 20 = .ok (.aload_n 0, 1) := by decide +kernel
theorem dX1_loseOldest_21 : decode cX1_loseOldest 21 = .ok (.getfield 17, 3) := by decide +kernel
theorem dX1_loseOldest_24 : decode cX1_loseOldest 24 = .ok (.if_icmp .ge 23, 3) := by decide +kernel
theorem dX1_loseOldest_27 : decode cX1_loseOldest 27 = .ok (.aload_n 0, 1) := by decide +kernel
theorem dX1_loseOldest_28 : decode cX1_loseOldest 28 = .ok (.getfield 11, 3) := by decide +kernel
theorem dX1_loseOldest_31 : decode cX1_loseOldest 31 = .ok (.iload_n 2, 1) := by decide +kernel
theorem dX1_loseOldest_32 : decode cX1_loseOldest 32 = .ok (.aload_n 0, 1) := by decide +kernel
theorem dX1_loseOldest_33 : decode cX1_loseOldest 33 = .ok (.getfield 11, 3) := by decide +kernel
theorem dX1_loseOldest_36 : decode cX1_loseOldest 36 = .ok (.iload_n 2, 1) := by decide +kernel
theorem dX1_loseOldest_37 : decode cX1_loseOldest 37 = .ok (.iconst 1, 1) := by decide +kernel
theorem dX1_loseOldest_38 : decode cX1_loseOldest 38 = .ok (.iadd, 1) := by decide +kernel
theorem dX1_loseOldest_39 : decode cX1_loseOldest 39 = .ok (.aaload, 1) := by decide +kernel
theorem dX1_loseOldest_40 : decode cX1_loseOldest 40 = .ok (.aastore, 1) := by decide +kernel
theorem dX1_loseOldest_41 : decode cX1_loseOldest 41 = .ok (.iinc 2 1, 3) := by decide +kernel
theorem dX1_loseOldest_44 : decode cX1_loseOldest 44 = .ok (.goto (-25), 3) := by decide +kernel
theorem dX1_loseOldest_47 : decode cX1_loseOldest 47 = .ok (.aload_n 0, 1) := by decide +kernel
theorem dX1_loseOldest_48 : decode cX1_loseOldest 48 = .ok (.getfield 11, 3) := by decide +kernel
theorem dX1_loseOldest_51 : decode cX1_loseOldest 51 = .ok (.aload_n 0, 1) := by decide +kernel
theorem dX1_loseOldest_52 : decode cX1_loseOldest 52 = .ok (.getfield 17, 3) := by decide +kernel
theorem dX1_loseOldest_55 : decode cX1_loseOldest 55 = .ok (.aload_n 1, 1) := by decide +kernel
theorem dX1_loseOldest_56 : decode cX1_loseOldest 56 = .ok (.aastore, 1) := by decide +kernel
theorem dX1_loseOldest_57 : decode cX1_loseOldest 57 = .ok (.return_, 1) := by decide +kernel
theorem dX1_restore_0 : decode cX1_restore 0 = .ok (.aload_n 0, 1) := by decide +kernel
theorem dX1_restore_1 : decode cX1_restore 1 = .ok (.getfield 17, 3) := by decide +kernel
theorem dX1_restore_4 : decode cX1_restore 4 = .ok (.ifCond .ne 5, 3) := by decide +kernel
theorem dX1_restore_7 : decode cX1_restore 7 = .ok (.iconst 0, 1) := by decide +kernel
theorem dX1_restore_8 : decode cX1_restore 8 = .ok (.ireturn, 1) := by decide +kernel
theorem dX1_restore_9 : decode cX1_restore 9 = .ok (.aload_n 0, 1) := by decide +kernel
theorem dX1_restore_10 : decode cX1_restore 10 = .ok (.dup, 1) := by decide +kernel
theorem dX1_restore_11 : decode cX1_restore 11 = .ok (.getfield 17, 3) := by decide +kernel
theorem dX1_restore_14 : decode cX1_restore 14 = .ok (.iconst 1, 1) := by decide +kernel
theorem dX1_restore_15 : decode cX1_restore 15 = .ok (.isub, 1) := by decide +kernel
theorem dX1_restore_16 : decode cX1_restore 16 = .ok (.putfield 17, 3) := by decide +kernel
theorem dX1_restore_19 : decode cX1_restore 19 = .ok (.aload_n 1, 1) := by decide +kernel
theorem dX1_restore_20 : decode cX1_restore 20 = .ok (.aload_n 0, 1) := by decide +kernel
theorem dX1_restore_21 : decode cX1_restore 21 = .ok (.getfield 11, 3) := by decide +kernel
theorem dX1_restore_24 : decode cX1_restore 24 = .ok (.aload_n 0, 1) := by decide +kernel
theorem dX1_restore_25 : decode cX1_restore 25 = .ok (.getfield 17, 3) := by decide +kernel
theorem dX1_restore_28 : decode cX1_restore 28 = .ok (.aaload, 1) := by decide +kernel
theorem dX1_restore_29 : decode cX1_restore 29 = .ok (.invokevirtual 25, 3) := by decide +kernel
theorem dX1_restore_32 : decode cX1_restore 32 = .ok (.iconst 1, 1) := by decide +kernel
theorem dX1_restore_33 : decode cX1_restore 33 = .ok (.ireturn, 1) := by decide +kernel
theorem dX2_init_0 : decode cX2_init 0 = .ok (.aload_n 0, 1) := by decide +kernel
theorem dX2_init_1 : decode cX2_init 1 = .ok (.invokespecial 3, 3) := by decide +kernel
theorem dX2_init_4 : decode cX2_init 4 = .ok (.aload_n 0, 1) := by decide +kernel
theorem dX2_init_5 : decode cX2_init 5 = .ok (.bipush 8, 2) := by decide +kernel
theorem dX2_init_7 : decode cX2_init 7 = .ok (.newarray .int, 2) := by decide +kernel
theorem dX2_init_9 : decode cX2_init 9 = .ok (.putfield 9, 3) := by decide +kernel
theorem dX2_init_12 : decode cX2_init 12 = .ok (.aload_n 0, 1) := by decide +kernel
theorem dX2_init_13 : decode cX2_init 13 = .ok (.iconst 0, 1) := by decide +kernel
theorem dX2_init_14 : decode cX2_init 14 = .ok (.putfield 15, 3) := by decide +kernel
theorem dX2_init_17 : decode cX2_init 17 = .ok (.return_, 1) := by decide +kernel
theorem dX2_length_0 : decode cX2_length 0 = .ok (.aload_n 0, 1) := by decide +kernel
theorem dX2_length_1 : decode cX2_length 1 = .ok (.getfield 15, 3) := by decide +kernel
theorem dX2_length_4 : decode cX2_length 4 = .ok (.ireturn, 1) := by decide +kernel
theorem dX2_reaches_0 : decode cX2_reaches 0 = .ok (.iload_n 1, 1) := by decide +kernel
theorem dX2_reaches_1 : decode cX2_reaches 1 = .ok (.ifCond .lt 15, 3) := by decide +kernel
theorem dX2_reaches_4 : decode cX2_reaches 4 = .ok (.iload_n 1, 1) := by decide +kernel
theorem dX2_reaches_5 : decode cX2_reaches 5 = .ok (.aload_n 0, 1) := by decide +kernel
theorem dX2_reaches_6 : decode cX2_reaches 6 = .ok (.getfield 15, 3) := by decide +kernel
theorem dX2_reaches_9 : decode cX2_reaches 9 = .ok (.if_icmp .ge 7, 3) := by decide +kernel
theorem dX2_reaches_12 : decode cX2_reaches 12 = .ok (.iconst 1, 1) := by decide +kernel
theorem dX2_reaches_13 : decode cX2_reaches 13 = .ok (.goto 4, 3) := by decide +kernel
theorem dX2_reaches_16 : decode cX2_reaches 16 = .ok (.iconst 0, 1) := by decide +kernel
theorem dX2_reaches_17 : decode cX2_reaches 17 = .ok (.ireturn, 1) := by decide +kernel
theorem dX2_at_0 : decode cX2_at 0 = .ok (.aload_n 0, 1) := by decide +kernel
theorem dX2_at_1 : decode cX2_at 1 = .ok (.iload_n 1, 1) := by decide +kernel
theorem dX2_at_2 : decode cX2_at 2 = .ok (.invokevirtual 19, 3) := by decide +kernel
theorem dX2_at_5 : decode cX2_at 5 = .ok (.ifCond .eq 12, 3) := by decide +kernel
theorem dX2_at_8 : decode cX2_at 8 = .ok (.aload_n 0, 1) := by decide +kernel
theorem dX2_at_9 : decode cX2_at 9 = .ok (.getfield 9, 3) := by decide +kernel
theorem dX2_at_12 : decode cX2_at 12 = .ok (.iload_n 1, 1) := by decide +kernel
theorem dX2_at_13 : decode cX2_at 13 = .ok (.iaload, 1) := by decide +kernel
theorem dX2_at_14 : decode cX2_at 14 = .ok (.goto 5, 3) := by decide +kernel
theorem dX2_at_17 : decode cX2_at 17 = .ok (.bipush (-9), 2) := by decide +kernel
theorem dX2_at_19 : decode cX2_at 19 = .ok (.ireturn, 1) := by decide +kernel
theorem dX2_wipe_0 : decode cX2_wipe 0 = .ok (.aload_n 0, 1) := by decide +kernel
theorem dX2_wipe_1 : decode cX2_wipe 1 = .ok (.iconst 0, 1) := by decide +kernel
theorem dX2_wipe_2 : decode cX2_wipe 2 = .ok (.putfield 15, 3) := by decide +kernel
theorem dX2_wipe_5 : decode cX2_wipe 5 = .ok (.return_, 1) := by decide +kernel
theorem dX2_copy_0 : decode cX2_copy 0 = .ok (.aload_n 0, 1) := by decide +kernel
theorem dX2_copy_1 : decode cX2_copy 1 = .ok (.aload_n 1, 1) := by decide +kernel
theorem dX2_copy_2 : decode cX2_copy 2 = .ok (.getfield 15, 3) := by decide +kernel
theorem dX2_copy_5 : decode cX2_copy 5 = .ok (.putfield 15, 3) := by decide +kernel
theorem dX2_copy_8 : decode cX2_copy 8 = .ok (.aload_n 1, 1) := by decide +kernel
theorem dX2_copy_9 : decode cX2_copy 9 = .ok (.getfield 9, 3) := by decide +kernel
theorem dX2_copy_12 : decode cX2_copy 12 = .ok (.iconst 0, 1) := by decide +kernel
theorem dX2_copy_13 : decode cX2_copy 13 = .ok (.aload_n 0, 1) := by decide +kernel
theorem dX2_copy_14 : decode cX2_copy 14 = .ok (.getfield 9, 3) := by decide +kernel
theorem dX2_copy_17 : decode cX2_copy 17 = .ok (.iconst 0, 1) := by decide +kernel
theorem dX2_copy_18 : decode cX2_copy 18 = .ok (.aload_n 0, 1) := by decide +kernel
theorem dX2_copy_19 : decode cX2_copy 19 = .ok (.getfield 15, 3) := by decide +kernel
theorem dX2_copy_22 : decode cX2_copy 22 = .ok (.invokestatic 23, 3) := by decide +kernel
theorem dX2_copy_25 : decode cX2_copy 25 = .ok (.return_, 1) := by decide +kernel
theorem dX2_drop_0 : decode cX2_drop 0 = .ok (.aload_n 0, 1) := by decide +kernel
theorem dX2_drop_1 : decode cX2_drop 1 = .ok (.iload_n 1, 1) := by decide +kernel
theorem dX2_drop_2 : decode cX2_drop 2 = .ok (.invokevirtual 19, 3) := by decide +kernel
theorem dX2_drop_5 : decode cX2_drop 5 = .ok (.ifCond .ne 4, 3) := by decide +kernel
theorem dX2_drop_8 : decode cX2_drop 8 = .ok (.return_, 1) := by decide +kernel
theorem dX2_drop_9 : decode cX2_drop 9 = .ok (.aload_n 0, 1) := by decide +kernel
theorem dX2_drop_10 : decode cX2_drop 10 = .ok (.dup, 1) := by decide +kernel
theorem dX2_drop_11 : decode cX2_drop 11 = .ok (.getfield 15, 3) := by decide +kernel
theorem dX2_drop_14 : decode cX2_drop 14 = .ok (.iconst 1, 1) := by decide +kernel
theorem dX2_drop_15 : decode cX2_drop 15 = .ok (.isub, 1) := by decide +kernel
theorem dX2_drop_16 : decode cX2_drop 16 = .ok (.putfield 15, 3) := by decide +kernel
theorem dX2_drop_19 : decode cX2_drop 19 = .ok (.iload_n 1, 1) := by decide +kernel
theorem dX2_drop_20 : decode cX2_drop 20 = .ok (.istore_n 2, 1) := by decide +kernel
theorem dX2_drop_21 : decode cX2_drop 21 = .ok (.iload_n 2, 1) := by decide +kernel
theorem dX2_drop_22 : decode cX2_drop 22 = .ok (.aload_n 0, 1) := by decide +kernel
theorem dX2_drop_23 : decode cX2_drop 23 = .ok (.getfield 15, 3) := by decide +kernel
theorem dX2_drop_26 : decode cX2_drop 26 = .ok (.if_icmp .ge 23, 3) := by decide +kernel
theorem dX2_drop_29 : decode cX2_drop 29 = .ok (.aload_n 0, 1) := by decide +kernel
theorem dX2_drop_30 : decode cX2_drop 30 = .ok (.getfield 9, 3) := by decide +kernel
theorem dX2_drop_33 : decode cX2_drop 33 = .ok (.iload_n 2, 1) := by decide +kernel
theorem dX2_drop_34 : decode cX2_drop 34 = .ok (.aload_n 0, 1) := by decide +kernel
theorem dX2_drop_35 : decode cX2_drop 35 = .ok (.getfield 9, 3) := by decide +kernel
theorem dX2_drop_38 : decode cX2_drop 38 = .ok (.iload_n 2, 1) := by decide +kernel
theorem dX2_drop_39 : decode cX2_drop 39 = .ok (.iconst 1, 1) := by decide +kernel
theorem dX2_drop_40 : decode cX2_drop 40 = .ok (.iadd, 1) := by decide +kernel
theorem dX2_drop_41 : decode cX2_drop 41 = .ok (.iaload, 1) := by decide +kernel
theorem dX2_drop_42 : decode cX2_drop 42 = .ok (.iastore, 1) := by decide +kernel
theorem dX2_drop_43 : decode cX2_drop 43 = .ok (.iinc 2 1, 3) := by decide +kernel
theorem dX2_drop_46 : decode cX2_drop 46 = .ok (.goto (-25), 3) := by decide +kernel
theorem dX2_drop_49 : decode cX2_drop 49 = .ok (.return_, 1) := by decide +kernel
theorem dX2_insert_0 : decode cX2_insert 0 = .ok (.lload_n 1, 1) := by decide +kernel
theorem dX2_insert_1 : decode cX2_insert 1 = .ok (.lconst 1, 1) := by decide +kernel
theorem dX2_insert_2 : decode cX2_insert 2 = .ok (.lcmp, 1) := by decide +kernel
theorem dX2_insert_3 : decode cX2_insert 3 = .ok (.ifCond .lt 20, 3) := by decide +kernel
theorem dX2_insert_6 : decode cX2_insert 6 = .ok (.lload_n 1, 1) := by decide +kernel
theorem dX2_insert_7 : decode cX2_insert 7 = .ok (.ldc2_w 29, 3) := by decide +kernel
theorem dX2_insert_10 : decode cX2_insert 10 = .ok (.lcmp, 1) := by decide +kernel
theorem dX2_insert_11 : decode cX2_insert 11 = .ok (.ifCond .gt 12, 3) := by decide +kernel
theorem dX2_insert_14 : decode cX2_insert 14 = .ok (.aload_n 0, 1) := by decide +kernel
theorem dX2_insert_15 : decode cX2_insert 15 = .ok (.getfield 15, 3) := by decide +kernel
theorem dX2_insert_18 : decode cX2_insert 18 = .ok (.bipush 8, 2) := by decide +kernel
theorem dX2_insert_20 : decode cX2_insert 20 = .ok (.if_icmp .lt 5, 3) := by decide +kernel
theorem dX2_insert_23 : decode cX2_insert 23 = .ok (.iconst 0, 1) := by decide +kernel
theorem dX2_insert_24 : decode cX2_insert 24 = .ok (.ireturn, 1) := by decide +kernel
theorem dX2_insert_25 : decode cX2_insert 25 = .ok (.aload_n 0, 1) := by decide +kernel
theorem dX2_insert_26 : decode cX2_insert 26 = .ok (.getfield 15, 3) := by decide +kernel
theorem dX2_insert_29 : decode cX2_insert 29 = .ok (.istore_n 3, 1) := by decide +kernel
theorem dX2_insert_30 : decode cX2_insert 30 = .ok (.iload_n 3, 1) := by decide +kernel
theorem dX2_insert_31 : decode cX2_insert 31 = .ok (.ifCond .le 23, 3) := by decide +kernel
theorem dX2_insert_34 : decode cX2_insert 34 = .ok (.aload_n 0, 1) := by decide +kernel
theorem dX2_insert_35 : decode cX2_insert 35 = .ok (.getfield 9, 3) := by decide +kernel
theorem dX2_insert_38 : decode cX2_insert 38 = .ok (.iload_n 3, 1) := by decide +kernel
theorem dX2_insert_39 : decode cX2_insert 39 = .ok (.iconst 1, 1) := by decide +kernel
theorem dX2_insert_40 : decode cX2_insert 40 = .ok (.isub, 1) := by decide +kernel
theorem dX2_insert_41 : decode cX2_insert 41 = .ok (.iaload, 1) := by decide +kernel
theorem dX2_insert_42 : decode cX2_insert 42 = .ok (.i2l, 1) := by decide +kernel
theorem dX2_insert_43 : decode cX2_insert 43 = .ok (.lload_n 1, 1) := by decide +kernel
theorem dX2_insert_44 : decode cX2_insert 44 = .ok (.lcmp, 1) := by decide +kernel
theorem dX2_insert_45 : decode cX2_insert 45 = .ok (.ifCond .lt 9, 3) := by decide +kernel
theorem dX2_insert_48 : decode cX2_insert 48 = .ok (.iinc 3 (-1), 3) := by decide +kernel
theorem dX2_insert_51 : decode cX2_insert 51 = .ok (.goto (-21), 3) := by decide +kernel
theorem dX2_insert_54 : decode cX2_insert 54 = .ok (.iload_n 3, 1) := by decide +kernel
theorem dX2_insert_55 : decode cX2_insert 55 = .ok (.aload_n 0, 1) := by decide +kernel
theorem dX2_insert_56 : decode cX2_insert 56 = .ok (.getfield 15, 3) := by decide +kernel
theorem dX2_insert_59 : decode cX2_insert 59 = .ok (.if_icmp .ge 17, 3) := by decide +kernel
theorem dX2_insert_62 : decode cX2_insert 62 = .ok (.aload_n 0, 1) := by decide +kernel
theorem dX2_insert_63 : decode cX2_insert 63 = .ok (.getfield 9, 3) := by decide +kernel
theorem dX2_insert_66 : decode cX2_insert 66 = .ok (.iload_n 3, 1) := by decide +kernel
theorem dX2_insert_67 : decode cX2_insert 67 = .ok (.iaload, 1) := by decide +kernel
theorem dX2_insert_68 : decode cX2_insert 68 = .ok (.i2l, 1) := by decide +kernel
theorem dX2_insert_69 : decode cX2_insert 69 = .ok (.lload_n 1, 1) := by decide +kernel
theorem dX2_insert_70 : decode cX2_insert 70 = .ok (.lcmp, 1) := by decide +kernel
theorem dX2_insert_71 : decode cX2_insert 71 = .ok (.ifCond .ne 5, 3) := by decide +kernel
theorem dX2_insert_74 : decode cX2_insert 74 = .ok (.iconst 0, 1) := by decide +kernel
theorem dX2_insert_75 : decode cX2_insert 75 = .ok (.ireturn, 1) := by decide +kernel
theorem dX2_insert_76 : decode cX2_insert 76 = .ok (.aload_n 0, 1) := by decide +kernel
theorem dX2_insert_77 : decode cX2_insert 77 = .ok (.getfield 15, 3) := by decide +kernel
theorem dX2_insert_80 : decode cX2_insert 80 = .ok (.istore 4, 2) := by decide +kernel
theorem dX2_insert_82 : decode cX2_insert 82 = .ok (.iload 4, 2) := by decide +kernel
theorem dX2_insert_84 : decode cX2_insert 84 = .ok (.iload_n 3, 1) := by decide +kernel
theorem dX2_insert_85 : decode cX2_insert 85 = .ok (.if_icmp .le 25, 3) := by decide +kernel
theorem dX2_insert_88 : decode cX2_insert 88 = .ok (.aload_n 0, 1) := by decide +kernel
theorem dX2_insert_89 : decode cX2_insert 89 = .ok (.getfield 9, 3) := by decide +kernel
theorem dX2_insert_92 : decode cX2_insert 92 = .ok (.iload 4, 2) := by decide +kernel
theorem dX2_insert_94 : decode cX2_insert 94 = .ok (.aload_n 0, 1) := by decide +kernel
theorem dX2_insert_95 : decode cX2_insert 95 = .ok (.getfield 9, 3) := by decide +kernel
theorem dX2_insert_98 : decode cX2_insert 98 = .ok (.iload 4, 2) := by decide +kernel
theorem dX2_insert_100 : decode cX2_insert 100 = .ok (.iconst 1, 1) := by decide +kernel
theorem dX2_insert_101 : decode cX2_insert 101 = .ok (.isub, 1) := by decide +kernel
theorem dX2_insert_102 : decode cX2_insert 102 = .ok (.iaload, 1) := by decide +kernel
theorem dX2_insert_103 : decode cX2_insert 103 = .ok (.iastore, 1) := by decide +kernel
theorem dX2_insert_104 : decode cX2_insert 104 = .ok (.iinc 4 (-1), 3) := by decide +kernel
theorem dX2_insert_107 : decode cX2_insert 107 = .ok (.goto (-25), 3) := by decide +kernel
theorem dX2_insert_110 : decode cX2_insert 110 = .ok (.aload_n 0, 1) := by decide +kernel
theorem dX2_insert_111 : decode cX2_insert 111 = .ok (.getfield 9, 3) := by decide +kernel
theorem dX2_insert_114 : decode cX2_insert 114 = .ok (.iload_n 3, 1) := by decide +kernel
theorem dX2_insert_115 : decode cX2_insert 115 = .ok (.lload_n 1, 1) := by decide +kernel
theorem dX2_insert_116 : decode cX2_insert 116 = .ok (.l2i, 1) := by decide +kernel
theorem dX2_insert_117 : decode cX2_insert 117 = .ok (.iastore, 1) := by decide +kernel
theorem dX2_insert_118 : decode cX2_insert 118 = .ok (.aload_n 0, 1) := by decide +kernel
theorem dX2_insert_119 : decode cX2_insert 119 = .ok (.dup, 1) := by decide +kernel
theorem dX2_insert_120 : decode cX2_insert 120 = .ok (.getfield 15, 3) := by decide +kernel
theorem dX2_insert_123 : decode cX2_insert 123 = .ok (.iconst 1, 1) := by decide +kernel
theorem dX2_insert_124 : decode cX2_insert 124 = .ok (.iadd, 1) := by decide +kernel
theorem dX2_insert_125 : decode cX2_insert 125 = .ok (.putfield 15, 3) := by decide +kernel
theorem dX2_insert_128 : decode cX2_insert 128 = .ok (.iconst 1, 1) := by decide +kernel
theorem dX2_insert_129 : decode cX2_insert 129 = .ok (.ireturn, 1) := by decide +kernel
theorem dX2_adds_0 : decode cX2_adds 0 = .ok (.lconst 0, 1) := by decide +kernel
theorem dX2_adds_1 : decode cX2_adds 1 = .ok (.lstore_n 3, 1) := by decide +kernel
theorem dX2_adds_2 : decode cX2_adds 2 = .ok (.lconst 1, 1) := by decide +kernel
theorem dX2_adds_3 : decode cX2_adds 3 = .ok (.lstore 5, 2) := by decide +kernel
theorem dX2_adds_5 : decode cX2_adds 5 = .ok (.iconst 0, 1) := by decide +kernel
theorem dX2_adds_6 : decode cX2_adds 6 = .ok (.istore 7, 2) := by decide +kernel
theorem dX2_adds_8 : decode cX2_adds 8 = .ok (.iload 7, 2) := by decide +kernel
theorem dX2_adds_10 : decode cX2_adds 10 = .ok (.aload_n 0, 1) := by decide +kernel
theorem dX2_adds_11 : decode cX2_adds 11 = .ok (.getfield 15, 3) := by decide +kernel
theorem dX2_adds_14 : decode cX2_adds 14 = .ok (.if_icmp .ge 36, 3) := by decide +kernel
theorem dX2_adds_17 : decode cX2_adds 17 = .ok (.lload_n 3, 1) := by decide +kernel
theorem dX2_adds_18 : decode cX2_adds 18 = .ok (.aload_n 0, 1) := by decide +kernel
theorem dX2_adds_19 : decode cX2_adds 19 = .ok (.getfield 9, 3) := by decide +kernel
theorem dX2_adds_22 : decode cX2_adds 22 = .ok (.iload 7, 2) := by decide +kernel
theorem dX2_adds_24 : decode cX2_adds 24 = .ok (.iaload, 1) := by decide +kernel
theorem dX2_adds_25 : decode cX2_adds 25 = .ok (.i2l, 1) := by decide +kernel
theorem dX2_adds_26 : decode cX2_adds 26 = .ok (.lmul, 1) := by decide +kernel
theorem dX2_adds_27 : decode cX2_adds 27 = .ok (.lload 5, 2) := by decide +kernel
theorem dX2_adds_29 : decode cX2_adds 29 = .ok (.ladd, 1) := by decide +kernel
theorem dX2_adds_30 : decode cX2_adds 30 = .ok (.lstore_n 3, 1) := by decide +kernel
theorem dX2_adds_31 : decode cX2_adds 31 = .ok (.lload 5, 2) := by decide +kernel
theorem dX2_adds_33 : decode cX2_adds 33 = .ok (.aload_n 0, 1) := by decide +kernel
theorem dX2_adds_34 : decode cX2_adds 34 = .ok (.getfield 9, 3) := by decide +kernel
theorem dX2_adds_37 : decode cX2_adds 37 = .ok (.iload 7, 2) := by decide +kernel
theorem dX2_adds_39 : decode cX2_adds 39 = .ok (.iaload, 1) := by decide +kernel
theorem dX2_adds_40 : decode cX2_adds 40 = .ok (.i2l, 1) := by decide +kernel
theorem dX2_adds_41 : decode cX2_adds 41 = .ok (.lmul, 1) := by decide +kernel
theorem dX2_adds_42 : decode cX2_adds 42 = .ok (.lstore 5, 2) := by decide +kernel
theorem dX2_adds_44 : decode cX2_adds 44 = .ok (.iinc 7 1, 3) := by decide +kernel
theorem dX2_adds_47 : decode cX2_adds 47 = .ok (.goto (-39), 3) := by decide +kernel
theorem dX2_adds_50 : decode cX2_adds 50 = .ok (.lload_n 3, 1) := by decide +kernel
theorem dX2_adds_51 : decode cX2_adds 51 = .ok (.iload_n 2, 1) := by decide +kernel
theorem dX2_adds_52 : decode cX2_adds 52 = .ok (.i2l, 1) := by decide +kernel
theorem dX2_adds_53 : decode cX2_adds 53 = .ok (.lmul, 1) := by decide +kernel
theorem dX2_adds_54 : decode cX2_adds 54 = .ok (.lload 5, 2) := by decide +kernel
theorem dX2_adds_56 : decode cX2_adds 56 = .ok (.iload_n 1, 1) := by decide +kernel
theorem dX2_adds_57 : decode cX2_adds 57 = .ok (.i2l, 1) := by decide +kernel
theorem dX2_adds_58 : decode cX2_adds 58 = .ok (.lmul, 1) := by decide +kernel
theorem dX2_adds_59 : decode cX2_adds 59 = .ok (.lcmp, 1) := by decide +kernel
theorem dX2_adds_60 : decode cX2_adds 60 = .ok (.ifCond .ne 7, 3) := by decide +kernel
theorem dX2_adds_63 : decode cX2_adds 63 = .ok (.iconst 1, 1) := by decide +kernel
theorem dX2_adds_64 : decode cX2_adds 64 = .ok (.goto 4, 3) := by decide +kernel
theorem dX2_adds_67 : decode cX2_adds 67 = .ok (.iconst 0, 1) := by decide +kernel
theorem dX2_adds_68 : decode cX2_adds 68 = .ok (.ireturn, 1) := by decide +kernel
theorem dX3_init_0 : decode cX3_init 0 = .ok (.aload_n 0, 1) := by decide +kernel
theorem dX3_init_1 : decode cX3_init 1 = .ok (.invokespecial 3, 3) := by decide +kernel
theorem dX3_init_4 : decode cX3_init 4 = .ok (.aload_n 0, 1) := by decide +kernel
theorem dX3_init_5 : decode cX3_init 5 = .ok (.bipush 60, 2) := by decide +kernel
theorem dX3_init_7 : decode cX3_init 7 = .ok (.newarray .char, 2) := by decide +kernel
theorem dX3_init_9 : decode cX3_init 9 = .ok (.putfield 9, 3) := by decide +kernel
theorem dX3_init_12 : decode cX3_init 12 = .ok (.aload_n 0, 1) := by decide +kernel
theorem dX3_init_13 : decode cX3_init 13 = .ok (.iconst 0, 1) := by decide +kernel
theorem dX3_init_14 : decode cX3_init 14 = .ok (.putfield 15, 3) := by decide +kernel
theorem dX3_init_17 : decode cX3_init 17 = .ok (.aload_n 0, 1) := by decide +kernel
theorem dX3_init_18 : decode cX3_init 18 = .ok (.iconst 0, 1) := by decide +kernel
theorem dX3_init_19 : decode cX3_init 19 = .ok (.putfield 19, 3) := by decide +kernel
theorem dX3_init_22 : decode cX3_init 22 = .ok (.aload_n 0, 1) := by decide +kernel
theorem dX3_init_23 : decode cX3_init 23 = .ok (.iconst 0, 1) := by decide +kernel
theorem dX3_init_24 : decode cX3_init 24 = .ok (.putfield 22, 3) := by decide +kernel
theorem dX3_init_27 : decode cX3_init 27 = .ok (.aload_n 0, 1) := by decide +kernel
theorem dX3_init_28 : decode cX3_init 28 = .ok (.iconst 0, 1) := by decide +kernel
theorem dX3_init_29 : decode cX3_init 29 = .ok (.putfield 25, 3) := by decide +kernel
theorem dX3_init_32 : decode cX3_init 32 = .ok (.aload_n 0, 1) := by decide +kernel
theorem dX3_init_33 : decode cX3_init 33 = .ok (.iconst 0, 1) := by decide +kernel
theorem dX3_init_34 : decode cX3_init 34 = .ok (.putfield 28, 3) := by decide +kernel
theorem dX3_init_37 : decode cX3_init 37 = .ok (.aload_n 0, 1) := by decide +kernel
theorem dX3_init_38 : decode cX3_init 38 = .ok (.iconst 2, 1) := by decide +kernel
theorem dX3_init_39 : decode cX3_init 39 = .ok (.putfield 31, 3) := by decide +kernel
theorem dX3_init_42 : decode cX3_init 42 = .ok (.aload_n 0, 1) := by decide +kernel
theorem dX3_init_43 : decode cX3_init 43 = .ok (.iconst 3, 1) := by decide +kernel
theorem dX3_init_44 : decode cX3_init 44 = .ok (.putfield 34, 3) := by decide +kernel
theorem dX3_init_47 : decode cX3_init 47 = .ok (.aload_n 0, 1) := by decide +kernel
theorem dX3_init_48 : decode cX3_init 48 = .ok (.new 37, 3) := by decide +kernel
theorem dX3_init_51 : decode cX3_init 51 = .ok (.dup, 1) := by decide +kernel
theorem dX3_init_52 : decode cX3_init 52 = .ok (.invokespecial 39, 3) := by decide +kernel
theorem dX3_init_55 : decode cX3_init 55 = .ok (.putfield 40, 3) := by decide +kernel
theorem dX3_init_58 : decode cX3_init 58 = .ok (.return_, 1) := by decide +kernel
theorem dX3_length_0 : decode cX3_length 0 = .ok (.aload_n 0, 1) := by decide +kernel
theorem dX3_length_1 : decode cX3_length 1 = .ok (.getfield 15, 3) := by decide +kernel
theorem dX3_length_4 : decode cX3_length 4 = .ok (.ireturn, 1) := by decide +kernel
theorem dX3_wipe_0 : decode cX3_wipe 0 = .ok (.aload_n 0, 1) := by decide +kernel
theorem dX3_wipe_1 : decode cX3_wipe 1 = .ok (.iconst 0, 1) := by decide +kernel
theorem dX3_wipe_2 : decode cX3_wipe 2 = .ok (.putfield 15, 3) := by decide +kernel
theorem dX3_wipe_5 : decode cX3_wipe 5 = .ok (.return_, 1) := by decide +kernel
theorem dX3_append_0 : decode cX3_append 0 = .ok (.aload_n 0, 1) := by decide +kernel
theorem dX3_append_1 : decode cX3_append 1 = .ok (.getfield 15, 3) := by decide +kernel
theorem dX3_append_4 : decode cX3_append 4 = .ok (.bipush 60, 2) := by decide +kernel
theorem dX3_append_6 : decode cX3_append 6 = .ok (.if_icmp .lt 5, 3) := by decide +kernel
theorem dX3_append_9 : decode cX3_append 9 = .ok (.iconst 0, 1) := by decide +kernel
theorem dX3_append_10 : decode cX3_append 10 = .ok (.ireturn, 1) := by decide +kernel
theorem dX3_append_11 : decode cX3_append 11 = .ok (.aload_n 0, 1) := by decide +kernel
theorem dX3_append_12 : decode cX3_append 12 = .ok (.getfield 9, 3) := by decide +kernel
theorem dX3_append_15 : decode cX3_append 15 = .ok (.aload_n 0, 1) := by decide +kernel
theorem dX3_append_16 : decode cX3_append 16 = .ok (.getfield 15, 3) := by decide +kernel
theorem dX3_append_19 : decode cX3_append 19 = .ok (.iload_n 1, 1) := by decide +kernel
theorem dX3_append_20 : decode cX3_append 20 = .ok (.i2c, 1) := by decide +kernel
theorem dX3_append_21 : decode cX3_append 21 = .ok (.castore, 1) := by decide +kernel
theorem dX3_append_22 : decode cX3_append 22 = .ok (.aload_n 0, 1) := by decide +kernel
theorem dX3_append_23 : decode cX3_append 23 = .ok (.dup, 1) := by decide +kernel
theorem dX3_append_24 : decode cX3_append 24 = .ok (.getfield 15, 3) := by decide +kernel
theorem dX3_append_27 : decode cX3_append 27 = .ok (.iconst 1, 1) := by decide +kernel
theorem dX3_append_28 : decode cX3_append 28 = .ok (.iadd, 1) := by decide +kernel
theorem dX3_append_29 : decode cX3_append 29 = .ok (.putfield 15, 3) := by decide +kernel
theorem dX3_append_32 : decode cX3_append 32 = .ok (.iconst 1, 1) := by decide +kernel
theorem dX3_append_33 : decode cX3_append 33 = .ok (.ireturn, 1) := by decide +kernel
theorem dX3_toldP_0 : decode cX3_toldP 0 = .ok (.aload_n 0, 1) := by decide +kernel
theorem dX3_toldP_1 : decode cX3_toldP 1 = .ok (.getfield 31, 3) := by decide +kernel
theorem dX3_toldP_4 : decode cX3_toldP 4 = .ok (.ireturn, 1) := by decide +kernel
theorem dX3_toldQ_0 : decode cX3_toldQ 0 = .ok (.aload_n 0, 1) := by decide +kernel
theorem dX3_toldQ_1 : decode cX3_toldQ 1 = .ok (.getfield 34, 3) := by decide +kernel
theorem dX3_toldQ_4 : decode cX3_toldQ 4 = .ok (.ireturn, 1) := by decide +kernel
theorem dX3_toldTerms_0 : decode cX3_toldTerms 0 = .ok (.aload_n 0, 1) := by decide +kernel
theorem dX3_toldTerms_1 : decode cX3_toldTerms 1 = .ok (.getfield 40, 3) := by decide +kernel
theorem dX3_toldTerms_4 : decode cX3_toldTerms 4 = .ok (.areturn, 1) := by decide +kernel
theorem dX3_read_0 : decode cX3_read 0 = .ok (.aload_n 0, 1) := by decide +kernel
theorem dX3_read_1 : decode cX3_read 1 = .ok (.iconst 0, 1) := by decide +kernel
theorem dX3_read_2 : decode cX3_read 2 = .ok (.putfield 19, 3) := by decide +kernel
theorem dX3_read_5 : decode cX3_read 5 = .ok (.aload_n 0, 1) := by decide +kernel
theorem dX3_read_6 : decode cX3_read 6 = .ok (.iconst 2, 1) := by decide +kernel
theorem dX3_read_7 : decode cX3_read 7 = .ok (.putfield 31, 3) := by decide +kernel
theorem dX3_read_10 : decode cX3_read 10 = .ok (.aload_n 0, 1) := by decide +kernel
theorem dX3_read_11 : decode cX3_read 11 = .ok (.iconst 3, 1) := by decide +kernel
theorem dX3_read_12 : decode cX3_read 12 = .ok (.putfield 34, 3) := by decide +kernel
theorem dX3_read_15 : decode cX3_read 15 = .ok (.aload_n 0, 1) := by decide +kernel
theorem dX3_read_16 : decode cX3_read 16 = .ok (.getfield 40, 3) := by decide +kernel
theorem dX3_read_19 : decode cX3_read 19 = .ok (.invokevirtual 44, 3) := by decide +kernel
theorem dX3_read_22 : decode cX3_read 22 = .ok (.iconst 0, 1) := by decide +kernel
theorem dX3_read_23 : decode cX3_read 23 = .ok (.istore_n 1, 1) := by decide +kernel
theorem dX3_read_24 : decode cX3_read 24 = .ok (.iconst 0, 1) := by decide +kernel
theorem dX3_read_25 : decode cX3_read 25 = .ok (.istore_n 2, 1) := by decide +kernel
theorem dX3_read_26 : decode cX3_read 26 = .ok (.iload_n 2, 1) := by decide +kernel
theorem dX3_read_27 : decode cX3_read 27 = .ok (.bipush 60, 2) := by decide +kernel
theorem dX3_read_29 : decode cX3_read 29 = .ok (.if_icmp .ge 43, 3) := by decide +kernel
theorem dX3_read_32 : decode cX3_read 32 = .ok (.aload_n 0, 1) := by decide +kernel
theorem dX3_read_33 : decode cX3_read 33 = .ok (.invokevirtual 47, 3) := by decide +kernel
theorem dX3_read_36 : decode cX3_read 36 = .ok (.aload_n 0, 1) := by decide +kernel
theorem dX3_read_37 : decode cX3_read 37 = .ok (.getfield 22, 3) := by decide +kernel
theorem dX3_read_40 : decode cX3_read 40 = .ok (.ifCond .ne 6, 3) := by decide +kernel
theorem dX3_read_43 : decode cX3_read 43 = .ok (.goto 29, 3) := by decide +kernel
theorem dX3_read_46 : decode cX3_read 46 = .ok (.aload_n 0, 1) := by decide +kernel
theorem dX3_read_47 : decode cX3_read 47 = .ok (.iload_n 1, 1) := by decide +kernel
theorem dX3_read_48 : decode cX3_read 48 = .ok (.invokevirtual 50, 3) := by decide +kernel
theorem dX3_read_51 : decode cX3_read 51 = .ok (.istore_n 1, 1) := by decide +kernel
theorem dX3_read_52 : decode cX3_read 52 = .ok (.iload_n 1, 1) := by decide +kernel
theorem dX3_read_53 : decode cX3_read 53 = .ok (.bipush 8, 2) := by decide +kernel
theorem dX3_read_55 : decode cX3_read 55 = .ok (.if_icmp .ne 11, 3) := by decide +kernel
theorem dX3_read_58 : decode cX3_read 58 = .ok (.bipush (-10), 2) := by decide +kernel
theorem dX3_read_60 : decode cX3_read 60 = .ok (.aload_n 0, 1) := by decide +kernel
theorem dX3_read_61 : decode cX3_read 61 = .ok (.getfield 25, 3) := by decide +kernel
theorem dX3_read_64 : decode cX3_read 64 = .ok (.isub, 1) := by decide +kernel
theorem dX3_read_65 : decode cX3_read 65 = .ok (.ireturn, 1) := by decide +kernel
theorem dX3_read_66 : decode cX3_read 66 = .ok (.iinc 2 1, 3) := by decide +kernel
theorem dX3_read_69 : decode cX3_read 69 = .ok (.goto (-43), 3) := by decide +kernel
theorem dX3_read_72 : decode cX3_read 72 = .ok (.iload_n 1, 1) := by decide +kernel
theorem dX3_read_73 : decode cX3_read 73 = .ok (.lookupswitch 41 #[(0, 35), (4, 37), (7, 39)], 35) := by decide +kernel
theorem dX3_read_108 : decode cX3_read 108 = .ok (.iconst 0, 1) := by decide +kernel
theorem dX3_read_109 : decode cX3_read 109 = .ok (.ireturn, 1) := by decide +kernel
theorem dX3_read_110 : decode cX3_read 110 = .ok (.iconst 1, 1) := by decide +kernel
theorem dX3_read_111 : decode cX3_read 111 = .ok (.ireturn, 1) := by decide +kernel
theorem dX3_read_112 : decode cX3_read 112 = .ok (.iconst 2, 1) := by decide +kernel
theorem dX3_read_113 : decode cX3_read 113 = .ok (.ireturn, 1) := by decide +kernel
theorem dX3_read_114 : decode cX3_read 114 = .ok (.bipush (-10), 2) := by decide +kernel
theorem dX3_read_116 : decode cX3_read 116 = .ok (.aload_n 0, 1) := by decide +kernel
theorem dX3_read_117 : decode cX3_read 117 = .ok (.getfield 15, 3) := by decide +kernel
theorem dX3_read_120 : decode cX3_read 120 = .ok (.isub, 1) := by decide +kernel
theorem dX3_read_121 : decode cX3_read 121 = .ok (.ireturn, 1) := by decide +kernel
theorem dX3_follow_0 : decode cX3_follow 0 = .ok (.iload_n 1, 1) := by decide +kernel
theorem dX3_follow_1 : decode cX3_follow 1 = .ok (.tableswitch 123 0 6 #[43, 58, 63, 68, 83, 98, 103], 43) := by decide +kernel
theorem dX3_follow_44 : decode cX3_follow 44 = .ok (.aload_n 0, 1) := by decide +kernel
theorem dX3_follow_45 : decode cX3_follow 45 = .ok (.getfield 22, 3) := by decide +kernel
theorem dX3_follow_48 : decode cX3_follow 48 = .ok (.iconst 1, 1) := by decide +kernel
theorem dX3_follow_49 : decode cX3_follow 49 = .ok (.if_icmp .ne 7, 3) := by decide +kernel
theorem dX3_follow_52 : decode cX3_follow 52 = .ok (.iconst 1, 1) := by decide +kernel
theorem dX3_follow_53 : decode cX3_follow 53 = .ok (.goto 5, 3) := by decide +kernel
theorem dX3_follow_56 : decode cX3_follow 56 = .ok (.bipush 8, 2) := by decide +kernel
theorem dX3_follow_58 : decode cX3_follow 58 = .ok (.ireturn, 1) := by decide +kernel
theorem dX3_follow_59 : decode cX3_follow 59 = .ok (.aload_n 0, 1) := by decide +kernel
theorem dX3_follow_60 : decode cX3_follow 60 = .ok (.invokevirtual 54, 3) := by decide +kernel
theorem dX3_follow_63 : decode cX3_follow 63 = .ok (.ireturn, 1) := by decide +kernel
theorem dX3_follow_64 : decode cX3_follow 64 = .ok (.aload_n 0, 1) := by decide +kernel
theorem dX3_follow_65 : decode cX3_follow 65 = .ok (.invokevirtual 58, 3) := by decide +kernel
theorem dX3_follow_68 : decode cX3_follow 68 = .ok (.ireturn, 1) := by decide +kernel
theorem dX3_follow_69 : decode cX3_follow 69 = .ok (.aload_n 0, 1) := by decide +kernel
theorem dX3_follow_70 : decode cX3_follow 70 = .ok (.getfield 22, 3) := by decide +kernel
theorem dX3_follow_73 : decode cX3_follow 73 = .ok (.iconst 3, 1) := by decide +kernel
theorem dX3_follow_74 : decode cX3_follow 74 = .ok (.if_icmp .ne 7, 3) := by decide +kernel
theorem dX3_follow_77 : decode cX3_follow 77 = .ok (.iconst 4, 1) := by decide +kernel
theorem dX3_follow_78 : decode cX3_follow 78 = .ok (.goto 5, 3) := by decide +kernel
theorem dX3_follow_81 : decode cX3_follow 81 = .ok (.bipush 8, 2) := by decide +kernel
theorem dX3_follow_83 : decode cX3_follow 83 = .ok (.ireturn, 1) := by decide +kernel
theorem dX3_follow_84 : decode cX3_follow 84 = .ok (.aload_n 0, 1) := by decide +kernel
theorem dX3_follow_85 : decode cX3_follow 85 = .ok (.getfield 22, 3) := by decide +kernel
theorem dX3_follow_88 : decode cX3_follow 88 = .ok (.iconst 2, 1) := by decide +kernel
theorem dX3_follow_89 : decode cX3_follow 89 = .ok (.if_icmp .ne 7, 3) := by decide +kernel
theorem dX3_follow_92 : decode cX3_follow 92 = .ok (.iconst 5, 1) := by decide +kernel
theorem dX3_follow_93 : decode cX3_follow 93 = .ok (.goto 5, 3) := by decide +kernel
theorem dX3_follow_96 : decode cX3_follow 96 = .ok (.bipush 8, 2) := by decide +kernel
theorem dX3_follow_98 : decode cX3_follow 98 = .ok (.ireturn, 1) := by decide +kernel
theorem dX3_follow_99 : decode cX3_follow 99 = .ok (.aload_n 0, 1) := by decide +kernel
theorem dX3_follow_100 : decode cX3_follow 100 = .ok (.invokevirtual 61, 3) := by decide +kernel
theorem dX3_follow_103 : decode cX3_follow 103 = .ok (.ireturn, 1) := by decide +kernel
theorem dX3_follow_104 : decode cX3_follow 104 = .ok (.aload_n 0, 1) := by decide +kernel
theorem dX3_follow_105 : decode cX3_follow 105 = .ok (.getfield 22, 3) := by decide +kernel
theorem dX3_follow_108 : decode cX3_follow 108 = .ok (.iconst 3, 1) := by decide +kernel
theorem dX3_follow_109 : decode cX3_follow 109 = .ok (.if_icmp .ne 10, 3) := by decide +kernel
theorem dX3_follow_112 : decode cX3_follow 112 = .ok (.aload_n 0, 1) := by decide +kernel
theorem dX3_follow_113 : decode cX3_follow 113 = .ok (.invokevirtual 64, 3) := by decide +kernel
theorem dX3_follow_116 : decode cX3_follow 116 = .ok (.goto 7, 3) := by decide +kernel
theorem dX3_follow_119 : decode cX3_follow 119 = .ok (.aload_n 0, 1) := by decide +kernel
theorem dX3_follow_120 : decode cX3_follow 120 = .ok (.invokevirtual 61, 3) := by decide +kernel
theorem dX3_follow_123 : decode cX3_follow 123 = .ok (.ireturn, 1) := by decide +kernel
theorem dX3_follow_124 : decode cX3_follow 124 = .ok (.bipush 8, 2) := by decide +kernel
theorem dX3_follow_126 : decode cX3_follow 126 = .ok (.ireturn, 1) := by decide +kernel
theorem dX3_isNumberTo_0 : decode cX3_isNumberTo 0 = .ok (.aload_n 0, 1) := by decide +kernel
theorem dX3_isNumberTo_1 : decode cX3_isNumberTo 1 = .ok (.getfield 22, 3) := by decide +kernel
theorem dX3_isNumberTo_4 : decode cX3_isNumberTo 4 = .ok (.iconst 4, 1) := by decide +kernel
theorem dX3_isNumberTo_5 : decode cX3_isNumberTo 5 = .ok (.if_icmp .ne 23, 3) := by decide +kernel
theorem dX3_isNumberTo_8 : decode cX3_isNumberTo 8 = .ok (.aload_n 0, 1) := by decide +kernel
theorem dX3_isNumberTo_9 : decode cX3_isNumberTo 9 = .ok (.getfield 28, 3) := by decide +kernel
theorem dX3_isNumberTo_12 : decode cX3_isNumberTo 12 = .ok (.iconst 1, 1) := by decide +kernel
theorem dX3_isNumberTo_13 : decode cX3_isNumberTo 13 = .ok (.if_icmp .lt 15, 3) := by decide +kernel
theorem dX3_isNumberTo_16 : decode cX3_isNumberTo 16 = .ok (.aload_n 0, 1) := by decide +kernel
theorem dX3_isNumberTo_17 : decode cX3_isNumberTo 17 = .ok (.getfield 28, 3) := by decide +kernel
theorem dX3_isNumberTo_20 : decode cX3_isNumberTo 20 = .ok (.iload_n 1, 1) := by decide +kernel
theorem dX3_isNumberTo_21 : decode cX3_isNumberTo 21 = .ok (.if_icmp .gt 7, 3) := by decide +kernel
theorem dX3_isNumberTo_24 : decode cX3_isNumberTo 24 = .ok (.iconst 1, 1) := by decide +kernel
theorem dX3_isNumberTo_25 : decode cX3_isNumberTo 25 = .ok (.goto 4, 3) := by decide +kernel
theorem dX3_isNumberTo_28 : decode cX3_isNumberTo 28 = .ok (.iconst 0, 1) := by decide +kernel
theorem dX3_isNumberTo_29 : decode cX3_isNumberTo 29 = .ok (.ireturn, 1) := by decide +kernel
theorem dX3_takeAbove_0 : decode cX3_takeAbove 0 = .ok (.aload_n 0, 1) := by decide +kernel
theorem dX3_takeAbove_1 : decode cX3_takeAbove 1 = .ok (.bipush 99, 2) := by decide +kernel
theorem dX3_takeAbove_3 : decode cX3_takeAbove 3 = .ok (.invokevirtual 67, 3) := by decide +kernel
theorem dX3_takeAbove_6 : decode cX3_takeAbove 6 = .ok (.ifCond .ne 6, 3) := by decide +kernel
theorem dX3_takeAbove_9 : decode cX3_takeAbove 9 = .ok (.bipush 8, 2) := by decide +kernel
theorem dX3_takeAbove_11 : decode cX3_takeAbove 11 = .ok (.ireturn, 1) := by decide +kernel
theorem dX3_takeAbove_12 : decode cX3_takeAbove 12 = .ok (.aload_n 0, 1) := by decide +kernel
theorem dX3_takeAbove_13 : decode cX3_takeAbove 13 = .ok (.aload_n 0, 1) := by decide +kernel
theorem dX3_takeAbove_14 : decode cX3_takeAbove 14 = .ok (.getfield 28, 3) := by decide +kernel
theorem dX3_takeAbove_17 : decode cX3_takeAbove 17 = .ok (.putfield 31, 3) := by decide +kernel
theorem dX3_takeAbove_20 : decode cX3_takeAbove 20 = .ok (.iconst 2, 1) := by decide +kernel
theorem dX3_takeAbove_21 : decode cX3_takeAbove 21 = .ok (.ireturn, 1) := by decide +kernel
theorem dX3_takeBelow_0 : decode cX3_takeBelow 0 = .ok (.aload_n 0, 1) := by decide +kernel
theorem dX3_takeBelow_1 : decode cX3_takeBelow 1 = .ok (.bipush 99, 2) := by decide +kernel
theorem dX3_takeBelow_3 : decode cX3_takeBelow 3 = .ok (.invokevirtual 67, 3) := by decide +kernel
theorem dX3_takeBelow_6 : decode cX3_takeBelow 6 = .ok (.ifCond .eq 16, 3) := by decide +kernel
theorem dX3_takeBelow_9 : decode cX3_takeBelow 9 = .ok (.aload_n 0, 1) := by decide +kernel
theorem dX3_takeBelow_10 : decode cX3_takeBelow 10 = .ok (.getfield 31, 3) := by decide +kernel
theorem dX3_takeBelow_13 : decode cX3_takeBelow 13 = .ok (.iconst 2, 1) := by decide +kernel
theorem dX3_takeBelow_14 : decode cX3_takeBelow 14 = .ok (.aload_n 0, 1) := by decide +kernel
theorem dX3_takeBelow_15 : decode cX3_takeBelow 15 = .ok (.getfield 28, 3) := by decide +kernel
theorem dX3_takeBelow_18 : decode cX3_takeBelow 18 = .ok (.imul, 1) := by decide +kernel
theorem dX3_takeBelow_19 : decode cX3_takeBelow 19 = .ok (.if_icmp .le 6, 3) := by decide +kernel
theorem dX3_takeBelow_22 : decode cX3_takeBelow 22 = .ok (.bipush 8, 2) := by decide +kernel
theorem dX3_takeBelow_24 : decode cX3_takeBelow 24 = .ok (.ireturn, 1) := by decide +kernel
theorem dX3_takeBelow_25 : decode cX3_takeBelow 25 = .ok (.aload_n 0, 1) := by decide +kernel
theorem dX3_takeBelow_26 : decode cX3_takeBelow 26 = .ok (.aload_n 0, 1) := by decide +kernel
theorem dX3_takeBelow_27 : decode cX3_takeBelow 27 = .ok (.getfield 28, 3) := by decide +kernel
theorem dX3_takeBelow_30 : decode cX3_takeBelow 30 = .ok (.putfield 34, 3) := by decide +kernel
theorem dX3_takeBelow_33 : decode cX3_takeBelow 33 = .ok (.iconst 3, 1) := by decide +kernel
theorem dX3_takeBelow_34 : decode cX3_takeBelow 34 = .ok (.ireturn, 1) := by decide +kernel
theorem dX3_takeTerm_0 : decode cX3_takeTerm 0 = .ok (.aload_n 0, 1) := by decide +kernel
theorem dX3_takeTerm_1 : decode cX3_takeTerm 1 = .ok (.bipush 60, 2) := by decide +kernel
theorem dX3_takeTerm_3 : decode cX3_takeTerm 3 = .ok (.invokevirtual 67, 3) := by decide +kernel
theorem dX3_takeTerm_6 : decode cX3_takeTerm 6 = .ok (.ifCond .eq 26, 3) := by decide +kernel
theorem dX3_takeTerm_9 : decode cX3_takeTerm 9 = .ok (.aload_n 0, 1) := by decide +kernel
theorem dX3_takeTerm_10 : decode cX3_takeTerm 10 = .ok (.getfield 28, 3) := by decide +kernel
theorem dX3_takeTerm_13 : decode cX3_takeTerm 13 = .ok (.aload_n 0, 1) := by decide +kernel
theorem dX3_takeTerm_14 : decode cX3_takeTerm 14 = .ok (.getfield 40, 3) := by decide +kernel
theorem dX3_takeTerm_17 : decode cX3_takeTerm 17 = .ok (.aload_n 0, 1) := by decide +kernel
theorem dX3_takeTerm_18 : decode cX3_takeTerm 18 = .ok (.getfield 40, 3) := by decide +kernel
theorem dX3_takeTerm_21 : decode cX3_takeTerm 21 = .ok (.invokevirtual 71, 3) := by decide +kernel
theorem dX3_takeTerm_24 : decode cX3_takeTerm 24 = .ok (.iconst 1, 1) := by decide +kernel
theorem dX3_takeTerm_25 : decode cX3_takeTerm 25 = .ok (.isub, 1) := by decide +kernel
theorem dX3_takeTerm_26 : decode cX3_takeTerm 26 = .ok (.invokevirtual 73, 3) := by decide +kernel
theorem dX3_takeTerm_29 : decode cX3_takeTerm 29 = .ok (.if_icmp .gt 6, 3) := by decide +kernel
theorem dX3_takeTerm_32 : decode cX3_takeTerm 32 = .ok (.bipush 8, 2) := by decide +kernel
theorem dX3_takeTerm_34 : decode cX3_takeTerm 34 = .ok (.ireturn, 1) := by decide +kernel
theorem dX3_takeTerm_35 : decode cX3_takeTerm 35 = .ok (.aload_n 0, 1) := by decide +kernel
theorem dX3_takeTerm_36 : decode cX3_takeTerm 36 = .ok (.getfield 40, 3) := by decide +kernel
theorem dX3_takeTerm_39 : decode cX3_takeTerm 39 = .ok (.aload_n 0, 1) := by decide +kernel
theorem dX3_takeTerm_40 : decode cX3_takeTerm 40 = .ok (.getfield 28, 3) := by decide +kernel
theorem dX3_takeTerm_43 : decode cX3_takeTerm 43 = .ok (.i2l, 1) := by decide +kernel
theorem dX3_takeTerm_44 : decode cX3_takeTerm 44 = .ok (.invokevirtual 76, 3) := by decide +kernel
theorem dX3_takeTerm_47 : decode cX3_takeTerm 47 = .ok (.ifCond .eq 8, 3) := by decide +kernel
theorem dX3_takeTerm_50 : decode cX3_takeTerm 50 = .ok (.bipush 6, 2) := by decide +kernel
theorem dX3_takeTerm_52 : decode cX3_takeTerm 52 = .ok (.goto 5, 3) := by decide +kernel
theorem dX3_takeTerm_55 : decode cX3_takeTerm 55 = .ok (.bipush 8, 2) := by decide +kernel
theorem dX3_takeTerm_57 : decode cX3_takeTerm 57 = .ok (.ireturn, 1) := by decide +kernel
theorem dX3_endSum_0 : decode cX3_endSum 0 = .ok (.aload_n 0, 1) := by decide +kernel
theorem dX3_endSum_1 : decode cX3_endSum 1 = .ok (.getfield 40, 3) := by decide +kernel
theorem dX3_endSum_4 : decode cX3_endSum 4 = .ok (.aload_n 0, 1) := by decide +kernel
theorem dX3_endSum_5 : decode cX3_endSum 5 = .ok (.getfield 31, 3) := by decide +kernel
theorem dX3_endSum_8 : decode cX3_endSum 8 = .ok (.aload_n 0, 1) := by decide +kernel
theorem dX3_endSum_9 : decode cX3_endSum 9 = .ok (.getfield 34, 3) := by decide +kernel
theorem dX3_endSum_12 : decode cX3_endSum 12 = .ok (.invokevirtual 80, 3) := by decide +kernel
theorem dX3_endSum_15 : decode cX3_endSum 15 = .ok (.ifCond .eq 8, 3) := by decide +kernel
theorem dX3_endSum_18 : decode cX3_endSum 18 = .ok (.bipush 7, 2) := by decide +kernel
theorem dX3_endSum_20 : decode cX3_endSum 20 = .ok (.goto 5, 3) := by decide +kernel
theorem dX3_endSum_23 : decode cX3_endSum 23 = .ok (.bipush 8, 2) := by decide +kernel
theorem dX3_endSum_25 : decode cX3_endSum 25 = .ok (.ireturn, 1) := by decide +kernel
theorem dX3_readToken_0 : decode cX3_readToken 0 = .ok (.aload_n 0, 1) := by decide +kernel
theorem dX3_readToken_1 : decode cX3_readToken 1 = .ok (.getfield 19, 3) := by decide +kernel
theorem dX3_readToken_4 : decode cX3_readToken 4 = .ok (.aload_n 0, 1) := by decide +kernel
theorem dX3_readToken_5 : decode cX3_readToken 5 = .ok (.getfield 15, 3) := by decide +kernel
theorem dX3_readToken_8 : decode cX3_readToken 8 = .ok (.if_icmp .ge 30, 3) := by decide +kernel
theorem dX3_readToken_11 : decode cX3_readToken 11 = .ok (.aload_n 0, 1) := by decide +kernel
theorem dX3_readToken_12 : decode cX3_readToken 12 = .ok (.getfield 9, 3) := by decide +kernel
theorem dX3_readToken_15 : decode cX3_readToken 15 = .ok (.aload_n 0, 1) := by decide +kernel
theorem dX3_readToken_16 : decode cX3_readToken 16 = .ok (.getfield 19, 3) := by decide +kernel
theorem dX3_readToken_19 : decode cX3_readToken 19 = .ok (.caload, 1) := by decide +kernel
theorem dX3_readToken_20 : decode cX3_readToken 20 = .ok (.bipush 32, 2) := by decide +kernel
theorem dX3_readToken_22 : decode cX3_readToken 22 = .ok (.if_icmp .ne 16, 3) := by decide +kernel
theorem dX3_readToken_25 : decode cX3_readToken 25 = .ok (.aload_n 0, 1) := by decide +kernel
theorem dX3_readToken_26 : decode cX3_readToken 26 = .ok (.dup, 1) := by decide +kernel
theorem dX3_readToken_27 : decode cX3_readToken 27 = .ok (.getfield 19, 3) := by decide +kernel
theorem dX3_readToken_30 : decode cX3_readToken 30 = .ok (.iconst 1, 1) := by decide +kernel
theorem dX3_readToken_31 : decode cX3_readToken 31 = .ok (.iadd, 1) := by decide +kernel
theorem dX3_readToken_32 : decode cX3_readToken 32 = .ok (.putfield 19, 3) := by decide +kernel
theorem dX3_readToken_35 : decode cX3_readToken 35 = .ok (.goto (-35), 3) := by decide +kernel
theorem dX3_readToken_38 : decode cX3_readToken 38 = .ok (.aload_n 0, 1) := by decide +kernel
theorem dX3_readToken_39 : decode cX3_readToken 39 = .ok (.aload_n 0, 1) := by decide +kernel
theorem dX3_readToken_40 : decode cX3_readToken 40 = .ok (.getfield 19, 3) := by decide +kernel
theorem dX3_readToken_43 : decode cX3_readToken 43 = .ok (.putfield 25, 3) := by decide +kernel
theorem dX3_readToken_46 : decode cX3_readToken 46 = .ok (.aload_n 0, 1) := by decide +kernel
theorem dX3_readToken_47 : decode cX3_readToken 47 = .ok (.getfield 19, 3) := by decide +kernel
theorem dX3_readToken_50 : decode cX3_readToken 50 = .ok (.aload_n 0, 1) := by decide +kernel
theorem dX3_readToken_51 : decode cX3_readToken 51 = .ok (.getfield 15, 3) := by decide +kernel
theorem dX3_readToken_54 : decode cX3_readToken 54 = .ok (.if_icmp .lt 9, 3) := by decide +kernel
theorem dX3_readToken_57 : decode cX3_readToken 57 = .ok (.aload_n 0, 1) := by decide +kernel
theorem dX3_readToken_58 : decode cX3_readToken 58 = .ok (.iconst 0, 1) := by decide +kernel
theorem dX3_readToken_59 : decode cX3_readToken 59 = .ok (.putfield 22, 3) := by decide +kernel
theorem dX3_readToken_62 : decode cX3_readToken 62 = .ok (.return_, 1) := by decide +kernel
theorem dX3_readToken_63 : decode cX3_readToken 63 = .ok (.aload_n 0, 1) := by decide +kernel
theorem dX3_readToken_64 : decode cX3_readToken 64 = .ok (.getfield 9, 3) := by decide +kernel
theorem dX3_readToken_67 : decode cX3_readToken 67 = .ok (.aload_n 0, 1) := by decide +kernel
theorem dX3_readToken_68 : decode cX3_readToken 68 = .ok (.getfield 19, 3) := by decide +kernel
theorem dX3_readToken_71 : decode cX3_readToken 71 = .ok (.caload, 1) := by decide +kernel
theorem dX3_readToken_72 : decode cX3_readToken 72 = .ok (.istore_n 1, 1) := by decide +kernel
theorem dX3_readToken_73 : decode cX3_readToken 73 = .ok (.iload_n 1, 1) := by decide +kernel
theorem dX3_readToken_74 : decode cX3_readToken 74 = .ok (.invokestatic 84, 3) := by decide +kernel
theorem dX3_readToken_77 : decode cX3_readToken 77 = .ok (.ifCond .eq 8, 3) := by decide +kernel
theorem dX3_readToken_80 : decode cX3_readToken 80 = .ok (.aload_n 0, 1) := by decide +kernel
theorem dX3_readToken_81 : decode cX3_readToken 81 = .ok (.invokevirtual 88, 3) := by decide +kernel
theorem dX3_readToken_84 : decode cX3_readToken 84 = .ok (.return_, 1) := by decide +kernel
theorem dX3_readToken_85 : decode cX3_readToken 85 = .ok (.aload_n 0, 1) := by decide +kernel
theorem dX3_readToken_86 : decode cX3_readToken 86 = .ok (.dup, 1) := by decide +kernel
theorem dX3_readToken_87 : decode cX3_readToken 87 = .ok (.getfield 19, 3) := by decide +kernel
theorem dX3_readToken_90 : decode cX3_readToken 90 = .ok (.iconst 1, 1) := by decide +kernel
theorem dX3_readToken_91 : decode cX3_readToken 91 = .ok (.iadd, 1) := by decide +kernel
theorem dX3_readToken_92 : decode cX3_readToken 92 = .ok (.putfield 19, 3) := by decide +kernel
theorem dX3_readToken_95 : decode cX3_readToken 95 = .ok (.aload_n 0, 1) := by decide +kernel
theorem dX3_readToken_96 : decode cX3_readToken 96 = .ok (.iload_n 1, 1) := by decide +kernel
theorem dX3_readToken_97 : decode cX3_readToken 97 = .ok (.invokestatic 91, 3) := by decide +kernel
theorem dX3_readToken_100 : decode cX3_readToken 100 = .ok (.putfield 22, 3) := by decide +kernel
theorem dX3_readToken_103 : decode cX3_readToken 103 = .ok (.return_, 1) := by decide +kernel
theorem dX3_kindOf_0 : decode cX3_kindOf 0 = .ok (.iload_n 0, 1) := by decide +kernel
theorem dX3_kindOf_1 : decode cX3_kindOf 1 = .ok (.lookupswitch 41 #[(59, 39), (112, 35), (115, 37)], 35) := by decide +kernel
theorem dX3_kindOf_36 : decode cX3_kindOf 36 = .ok (.iconst 1, 1) := by decide +kernel
theorem dX3_kindOf_37 : decode cX3_kindOf 37 = .ok (.ireturn, 1) := by decide +kernel
theorem dX3_kindOf_38 : decode cX3_kindOf 38 = .ok (.iconst 2, 1) := by decide +kernel
theorem dX3_kindOf_39 : decode cX3_kindOf 39 = .ok (.ireturn, 1) := by decide +kernel
theorem dX3_kindOf_40 : decode cX3_kindOf 40 = .ok (.iconst 3, 1) := by decide +kernel
theorem dX3_kindOf_41 : decode cX3_kindOf 41 = .ok (.ireturn, 1) := by decide +kernel
theorem dX3_kindOf_42 : decode cX3_kindOf 42 = .ok (.iconst 5, 1) := by decide +kernel
theorem dX3_kindOf_43 : decode cX3_kindOf 43 = .ok (.ireturn, 1) := by decide +kernel
theorem dX3_readNumber_0 : decode cX3_readNumber 0 = .ok (.aload_n 0, 1) := by decide +kernel
theorem dX3_readNumber_1 : decode cX3_readNumber 1 = .ok (.iconst 0, 1) := by decide +kernel
theorem dX3_readNumber_2 : decode cX3_readNumber 2 = .ok (.putfield 28, 3) := by decide +kernel
theorem dX3_readNumber_5 : decode cX3_readNumber 5 = .ok (.aload_n 0, 1) := by decide +kernel
theorem dX3_readNumber_6 : decode cX3_readNumber 6 = .ok (.getfield 19, 3) := by decide +kernel
theorem dX3_readNumber_9 : decode cX3_readNumber 9 = .ok (.aload_n 0, 1) := by decide +kernel
theorem dX3_readNumber_10 : decode cX3_readNumber 10 = .ok (.getfield 15, 3) := by decide +kernel
theorem dX3_readNumber_13 : decode cX3_readNumber 13 = .ok (.if_icmp .ge 60, 3) := by decide +kernel
theorem dX3_readNumber_16 : decode cX3_readNumber 16 = .ok (.aload_n 0, 1) := by decide +kernel
theorem dX3_readNumber_17 : decode cX3_readNumber 17 = .ok (.getfield 9, 3) := by decide +kernel
theorem dX3_readNumber_20 : decode cX3_readNumber 20 = .ok (.aload_n 0, 1) := by decide +kernel
theorem dX3_readNumber_21 : decode cX3_readNumber 21 = .ok (.getfield 19, 3) := by decide +kernel
theorem dX3_readNumber_24 : decode cX3_readNumber 24 = .ok (.caload, 1) := by decide +kernel
theorem dX3_readNumber_25 : decode cX3_readNumber 25 = .ok (.invokestatic 84, 3) := by decide +kernel
theorem dX3_readNumber_28 : decode cX3_readNumber 28 = .ok (.ifCond .eq 45, 3) := by decide +kernel
theorem dX3_readNumber_31 : decode cX3_readNumber 31 = .ok (.aload_n 0, 1) := by decide +kernel
theorem dX3_readNumber_32 : decode cX3_readNumber 32 = .ok (.bipush 100, 2) := by decide +kernel
theorem dX3_readNumber_34 : decode cX3_readNumber 34 = .ok (.aload_n 0, 1) := by decide +kernel
theorem dX3_readNumber_35 : decode cX3_readNumber 35 = .ok (.getfield 28, 3) := by decide +kernel
theorem dX3_readNumber_38 : decode cX3_readNumber 38 = .ok (.bipush 10, 2) := by decide +kernel
theorem dX3_readNumber_40 : decode cX3_readNumber 40 = .ok (.imul, 1) := by decide +kernel
theorem dX3_readNumber_41 : decode cX3_readNumber 41 = .ok (.aload_n 0, 1) := by decide +kernel
theorem dX3_readNumber_42 : decode cX3_readNumber 42 = .ok (.getfield 9, 3) := by decide +kernel
theorem dX3_readNumber_45 : decode cX3_readNumber 45 = .ok (.aload_n 0, 1) := by decide +kernel
theorem dX3_readNumber_46 : decode cX3_readNumber 46 = .ok (.getfield 19, 3) := by decide +kernel
theorem dX3_readNumber_49 : decode cX3_readNumber 49 = .ok (.caload, 1) := by decide +kernel
theorem dX3_readNumber_50 : decode cX3_readNumber 50 = .ok (.bipush 48, 2) := by decide +kernel
theorem dX3_readNumber_52 : decode cX3_readNumber 52 = .ok (.isub, 1) := by decide +kernel
theorem dX3_readNumber_53 : decode cX3_readNumber 53 = .ok (.iadd, 1) := by decide +kernel
theorem dX3_readNumber_54 : decode cX3_readNumber 54 = .ok (.invokestatic 95, 3) := by decide +kernel
theorem dX3_readNumber_57 : decode cX3_readNumber 57 = .ok (.putfield 28, 3) := by decide +kernel
theorem dX3_readNumber_60 : decode cX3_readNumber 60 = .ok (.aload_n 0, 1) := by decide +kernel
theorem dX3_readNumber_61 : decode cX3_readNumber 61 = .ok (.dup, 1) := by decide +kernel
theorem dX3_readNumber_62 : decode cX3_readNumber 62 = .ok (.getfield 19, 3) := by decide +kernel
theorem dX3_readNumber_65 : decode cX3_readNumber 65 = .ok (.iconst 1, 1) := by decide +kernel
theorem dX3_readNumber_66 : decode cX3_readNumber 66 = .ok (.iadd, 1) := by decide +kernel
theorem dX3_readNumber_67 : decode cX3_readNumber 67 = .ok (.putfield 19, 3) := by decide +kernel
theorem dX3_readNumber_70 : decode cX3_readNumber 70 = .ok (.goto (-65), 3) := by decide +kernel
theorem dX3_readNumber_73 : decode cX3_readNumber 73 = .ok (.aload_n 0, 1) := by decide +kernel
theorem dX3_readNumber_74 : decode cX3_readNumber 74 = .ok (.getfield 9, 3) := by decide +kernel
theorem dX3_readNumber_77 : decode cX3_readNumber 77 = .ok (.aload_n 0, 1) := by decide +kernel
theorem dX3_readNumber_78 : decode cX3_readNumber 78 = .ok (.getfield 25, 3) := by decide +kernel
theorem dX3_readNumber_81 : decode cX3_readNumber 81 = .ok (.caload, 1) := by decide +kernel
theorem dX3_readNumber_82 : decode cX3_readNumber 82 = .ok (.bipush 48, 2) := by decide +kernel
theorem dX3_readNumber_84 : decode cX3_readNumber 84 = .ok (.if_icmp .ne 20, 3) := by decide +kernel
theorem dX3_readNumber_87 : decode cX3_readNumber 87 = .ok (.aload_n 0, 1) := by decide +kernel
theorem dX3_readNumber_88 : decode cX3_readNumber 88 = .ok (.getfield 19, 3) := by decide +kernel
theorem dX3_readNumber_91 : decode cX3_readNumber 91 = .ok (.aload_n 0, 1) := by decide +kernel
theorem dX3_readNumber_92 : decode cX3_readNumber 92 = .ok (.getfield 25, 3) := by decide +kernel
theorem dX3_readNumber_95 : decode cX3_readNumber 95 = .ok (.isub, 1) := by decide +kernel
theorem dX3_readNumber_96 : decode cX3_readNumber 96 = .ok (.iconst 1, 1) := by decide +kernel
theorem dX3_readNumber_97 : decode cX3_readNumber 97 = .ok (.if_icmp .le 7, 3) := by decide +kernel
theorem dX3_readNumber_100 : decode cX3_readNumber 100 = .ok (.iconst 1, 1) := by decide +kernel
theorem dX3_readNumber_101 : decode cX3_readNumber 101 = .ok (.goto 4, 3) := by decide +kernel
theorem dX3_readNumber_104 : decode cX3_readNumber 104 = .ok (.iconst 0, 1) := by decide +kernel
theorem dX3_readNumber_105 : decode cX3_readNumber 105 = .ok (.istore_n 1, 1) := by decide +kernel
theorem dX3_readNumber_106 : decode cX3_readNumber 106 = .ok (.aload_n 0, 1) := by decide +kernel
theorem dX3_readNumber_107 : decode cX3_readNumber 107 = .ok (.iload_n 1, 1) := by decide +kernel
theorem dX3_readNumber_108 : decode cX3_readNumber 108 = .ok (.ifCond .ne 12, 3) := by decide +kernel
theorem dX3_readNumber_111 : decode cX3_readNumber 111 = .ok (.aload_n 0, 1) := by decide +kernel
theorem dX3_readNumber_112 : decode cX3_readNumber 112 = .ok (.getfield 28, 3) := by decide +kernel
theorem dX3_readNumber_115 : decode cX3_readNumber 115 = .ok (.bipush 99, 2) := by decide +kernel
theorem dX3_readNumber_117 : decode cX3_readNumber 117 = .ok (.if_icmp .le 7, 3) := by decide +kernel
theorem dX3_readNumber_120 : decode cX3_readNumber 120 = .ok (.iconst 5, 1) := by decide +kernel
theorem dX3_readNumber_121 : decode cX3_readNumber 121 = .ok (.goto 4, 3) := by decide +kernel
theorem dX3_readNumber_124 : decode cX3_readNumber 124 = .ok (.iconst 4, 1) := by decide +kernel
theorem dX3_readNumber_125 : decode cX3_readNumber 125 = .ok (.putfield 22, 3) := by decide +kernel
theorem dX3_readNumber_128 : decode cX3_readNumber 128 = .ok (.return_, 1) := by decide +kernel
theorem dX3_isFigure_0 : decode cX3_isFigure 0 = .ok (.iload_n 0, 1) := by decide +kernel
theorem dX3_isFigure_1 : decode cX3_isFigure 1 = .ok (.bipush 48, 2) := by decide +kernel
theorem dX3_isFigure_3 : decode cX3_isFigure 3 = .ok (.if_icmp .lt 13, 3) := by decide +kernel
theorem dX3_isFigure_6 : decode cX3_isFigure 6 = .ok (.iload_n 0, 1) := by decide +kernel
theorem dX3_isFigure_7 : decode cX3_isFigure 7 = .ok (.bipush 57, 2) := by decide +kernel
theorem dX3_isFigure_9 : decode cX3_isFigure 9 = .ok (.if_icmp .gt 7, 3) := by decide +kernel
theorem dX3_isFigure_12 : decode cX3_isFigure 12 = .ok (.iconst 1, 1) := by decide +kernel
theorem dX3_isFigure_13 : decode cX3_isFigure 13 = .ok (.goto 4, 3) := by decide +kernel
theorem dX3_isFigure_16 : decode cX3_isFigure 16 = .ok (.iconst 0, 1) := by decide +kernel
theorem dX3_isFigure_17 : decode cX3_isFigure 17 = .ok (.ireturn, 1) := by decide +kernel
theorem dX4_init_0 : decode cX4_init 0 = .ok (.aload_n 0, 1) := by decide +kernel
theorem dX4_init_1 : decode cX4_init 1 = .ok (.invokespecial 3, 3) := by decide +kernel
theorem dX4_init_4 : decode cX4_init 4 = .ok (.aload_n 0, 1) := by decide +kernel
theorem dX4_init_5 : decode cX4_init 5 = .ok (.bipush 6, 2) := by decide +kernel
theorem dX4_init_7 : decode cX4_init 7 = .ok (.newarray .int, 2) := by decide +kernel
theorem dX4_init_9 : decode cX4_init 9 = .ok (.putfield 9, 3) := by decide +kernel
theorem dX4_init_12 : decode cX4_init 12 = .ok (.aload_n 0, 1) := by decide +kernel
theorem dX4_init_13 : decode cX4_init 13 = .ok (.bipush 6, 2) := by decide +kernel
theorem dX4_init_15 : decode cX4_init 15 = .ok (.newarray .int, 2) := by decide +kernel
theorem dX4_init_17 : decode cX4_init 17 = .ok (.putfield 15, 3) := by decide +kernel
theorem dX4_init_20 : decode cX4_init 20 = .ok (.aload_n 0, 1) := by decide +kernel
theorem dX4_init_21 : decode cX4_init 21 = .ok (.bipush 6, 2) := by decide +kernel
theorem dX4_init_23 : decode cX4_init 23 = .ok (.newarray .boolean, 2) := by decide +kernel
theorem dX4_init_25 : decode cX4_init 25 = .ok (.putfield 18, 3) := by decide +kernel
theorem dX4_init_28 : decode cX4_init 28 = .ok (.aload_n 0, 1) := by decide +kernel
theorem dX4_init_29 : decode cX4_init 29 = .ok (.iconst 0, 1) := by decide +kernel
theorem dX4_init_30 : decode cX4_init 30 = .ok (.putfield 22, 3) := by decide +kernel
theorem dX4_init_33 : decode cX4_init 33 = .ok (.return_, 1) := by decide +kernel
theorem dX4_length_0 : decode cX4_length 0 = .ok (.aload_n 0, 1) := by decide +kernel
theorem dX4_length_1 : decode cX4_length 1 = .ok (.getfield 22, 3) := by decide +kernel
theorem dX4_length_4 : decode cX4_length 4 = .ok (.ireturn, 1) := by decide +kernel
theorem dX4_wipe_0 : decode cX4_wipe 0 = .ok (.aload_n 0, 1) := by decide +kernel
theorem dX4_wipe_1 : decode cX4_wipe 1 = .ok (.iconst 0, 1) := by decide +kernel
theorem dX4_wipe_2 : decode cX4_wipe 2 = .ok (.putfield 22, 3) := by decide +kernel
theorem dX4_wipe_5 : decode cX4_wipe 5 = .ok (.return_, 1) := by decide +kernel
theorem dX4_add_0 : decode cX4_add 0 = .ok (.aload_n 0, 1) := by decide +kernel
theorem dX4_add_1 : decode cX4_add 1 = .ok (.getfield 22, 3) := by decide +kernel
theorem dX4_add_4 : decode cX4_add 4 = .ok (.bipush 6, 2) := by decide +kernel
theorem dX4_add_6 : decode cX4_add 6 = .ok (.if_icmp .lt 5, 3) := by decide +kernel
theorem dX4_add_9 : decode cX4_add 9 = .ok (.iconst 0, 1) := by decide +kernel
theorem dX4_add_10 : decode cX4_add 10 = .ok (.ireturn, 1) := by decide +kernel
theorem dX4_add_11 : decode cX4_add 11 = .ok (.aload_n 0, 1) := by decide +kernel
theorem dX4_add_12 : decode cX4_add 12 = .ok (.getfield 9, 3) := by decide +kernel
theorem dX4_add_15 : decode cX4_add 15 = .ok (.aload_n 0, 1) := by decide +kernel
theorem dX4_add_16 : decode cX4_add 16 = .ok (.getfield 22, 3) := by decide +kernel
theorem dX4_add_19 : decode cX4_add 19 = .ok (.iload_n 1, 1) := by decide +kernel
theorem dX4_add_20 : decode cX4_add 20 = .ok (.iastore, 1) := by decide +kernel
theorem dX4_add_21 : decode cX4_add 21 = .ok (.aload_n 0, 1) := by decide +kernel
theorem dX4_add_22 : decode cX4_add 22 = .ok (.getfield 15, 3) := by decide +kernel
theorem dX4_add_25 : decode cX4_add 25 = .ok (.aload_n 0, 1) := by decide +kernel
theorem dX4_add_26 : decode cX4_add 26 = .ok (.getfield 22, 3) := by decide +kernel
theorem dX4_add_29 : decode cX4_add 29 = .ok (.iload_n 2, 1) := by decide +kernel
theorem dX4_add_30 : decode cX4_add 30 = .ok (.iastore, 1) := by decide +kernel
theorem dX4_add_31 : decode cX4_add 31 = .ok (.aload_n 0, 1) := by decide +kernel
theorem dX4_add_32 : decode cX4_add 32 = .ok (.getfield 18, 3) := by decide +kernel
theorem dX4_add_35 : decode cX4_add 35 = .ok (.aload_n 0, 1) := by decide +kernel
theorem dX4_add_36 : decode cX4_add 36 = .ok (.getfield 22, 3) := by decide +kernel
theorem dX4_add_39 : decode cX4_add 39 = .ok (.iload_n 3, 1) := by decide +kernel
theorem dX4_add_40 : decode cX4_add 40 = .ok (.bastore, 1) := by decide +kernel
theorem dX4_add_41 : decode cX4_add 41 = .ok (.aload_n 0, 1) := by decide +kernel
theorem dX4_add_42 : decode cX4_add 42 = .ok (.dup, 1) := by decide +kernel
theorem dX4_add_43 : decode cX4_add 43 = .ok (.getfield 22, 3) := by decide +kernel
theorem dX4_add_46 : decode cX4_add 46 = .ok (.iconst 1, 1) := by decide +kernel
theorem dX4_add_47 : decode cX4_add 47 = .ok (.iadd, 1) := by decide +kernel
theorem dX4_add_48 : decode cX4_add 48 = .ok (.putfield 22, 3) := by decide +kernel
theorem dX4_add_51 : decode cX4_add 51 = .ok (.iconst 1, 1) := by decide +kernel
theorem dX4_add_52 : decode cX4_add 52 = .ok (.ireturn, 1) := by decide +kernel
theorem dX4_suspects_0 : decode cX4_suspects 0 = .ok (.bipush 31, 2) := by decide +kernel
theorem dX4_suspects_2 : decode cX4_suspects 2 = .ok (.istore_n 1, 1) := by decide +kernel
theorem dX4_suspects_3 : decode cX4_suspects 3 = .ok (.iconst 0, 1) := by decide +kernel
theorem dX4_suspects_4 : decode cX4_suspects 4 = .ok (.istore_n 2, 1) := by decide +kernel
theorem dX4_suspects_5 : decode cX4_suspects 5 = .ok (.iload_n 2, 1) := by decide +kernel
theorem dX4_suspects_6 : decode cX4_suspects 6 = .ok (.aload_n 0, 1) := by decide +kernel
theorem dX4_suspects_7 : decode cX4_suspects 7 = .ok (.getfield 22, 3) := by decide +kernel
theorem dX4_suspects_10 : decode cX4_suspects 10 = .ok (.if_icmp .ge 44, 3) := by decide +kernel
theorem dX4_suspects_13 : decode cX4_suspects 13 = .ok (.aload_n 0, 1) := by decide +kernel
theorem dX4_suspects_14 : decode cX4_suspects 14 = .ok (.getfield 9, 3) := by decide +kernel
theorem dX4_suspects_17 : decode cX4_suspects 17 = .ok (.iload_n 2, 1) := by decide +kernel
theorem dX4_suspects_18 : decode cX4_suspects 18 = .ok (.iaload, 1) := by decide +kernel
theorem dX4_suspects_19 : decode cX4_suspects 19 = .ok (.aload_n 0, 1) := by decide +kernel
theorem dX4_suspects_20 : decode cX4_suspects 20 = .ok (.getfield 15, 3) := by decide +kernel
theorem dX4_suspects_23 : decode cX4_suspects 23 = .ok (.iload_n 2, 1) := by decide +kernel
theorem dX4_suspects_24 : decode cX4_suspects 24 = .ok (.iaload, 1) := by decide +kernel
theorem dX4_suspects_25 : decode cX4_suspects 25 = .ok (.invokestatic 26, 3) := by decide +kernel
theorem dX4_suspects_28 : decode cX4_suspects 28 = .ok (.istore_n 3, 1) := by decide +kernel
theorem dX4_suspects_29 : decode cX4_suspects 29 = .ok (.iload_n 1, 1) := by decide +kernel
theorem dX4_suspects_30 : decode cX4_suspects 30 = .ok (.aload_n 0, 1) := by decide +kernel
theorem dX4_suspects_31 : decode cX4_suspects 31 = .ok (.getfield 18, 3) := by decide +kernel
theorem dX4_suspects_34 : decode cX4_suspects 34 = .ok (.iload_n 2, 1) := by decide +kernel
theorem dX4_suspects_35 : decode cX4_suspects 35 = .ok (.baload, 1) := by decide +kernel
theorem dX4_suspects_36 : decode cX4_suspects 36 = .ok (.ifCond .eq 7, 3) := by decide +kernel
theorem dX4_suspects_39 : decode cX4_suspects 39 = .ok (.iload_n 3, 1) := by decide +kernel
theorem dX4_suspects_40 : decode cX4_suspects 40 = .ok (.goto 6, 3) := by decide +kernel
theorem dX4_suspects_43 : decode cX4_suspects 43 = .ok (.iload_n 3, 1) := by decide +kernel
theorem dX4_suspects_44 : decode cX4_suspects 44 = .ok (.iconst (-1), 1) := by decide +kernel
theorem dX4_suspects_45 : decode cX4_suspects 45 = .ok (.ixor, 1) := by decide +kernel
theorem dX4_suspects_46 : decode cX4_suspects 46 = .ok (.iand, 1) := by decide +kernel
theorem dX4_suspects_47 : decode cX4_suspects 47 = .ok (.istore_n 1, 1) := by decide +kernel
theorem dX4_suspects_48 : decode cX4_suspects 48 = .ok (.iinc 2 1, 3) := by decide +kernel
theorem dX4_suspects_51 : decode cX4_suspects 51 = .ok (.goto (-46), 3) := by decide +kernel
theorem dX4_suspects_54 : decode cX4_suspects 54 = .ok (.iload_n 1, 1) := by decide +kernel
theorem dX4_suspects_55 : decode cX4_suspects 55 = .ok (.ireturn, 1) := by decide +kernel
theorem dX5_init_0 : decode cX5_init 0 = .ok (.aload_n 0, 1) := by decide +kernel
theorem dX5_init_1 : decode cX5_init 1 = .ok (.invokespecial 1, 3) := by decide +kernel
theorem dX5_init_4 : decode cX5_init 4 = .ok (.aload_n 0, 1) := by decide +kernel
theorem dX5_init_5 : decode cX5_init 5 = .ok (.iconst 2, 1) := by decide +kernel
theorem dX5_init_6 : decode cX5_init 6 = .ok (.putfield 9, 3) := by decide +kernel
theorem dX5_init_9 : decode cX5_init 9 = .ok (.aload_n 0, 1) := by decide +kernel
