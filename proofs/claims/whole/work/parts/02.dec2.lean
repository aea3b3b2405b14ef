theorem dX5_init_10 : decode cX5_init 10 = .ok (.iconst 3, 1) := by decide +kernel
theorem dX5_init_11 : decode cX5_init 11 = .ok (.putfield 13, 3) := by decide +kernel
theorem dX5_init_14 : decode cX5_init 14 = .ok (.aload_n 0, 1) := by decide +kernel
theorem dX5_init_15 : decode cX5_init 15 = .ok (.new 16, 3) := by decide +kernel
theorem dX5_init_18 : decode cX5_init 18 = .ok (.dup, 1) := by decide +kernel
theorem dX5_init_19 : decode cX5_init 19 = .ok (.invokespecial 18, 3) := by decide +kernel
theorem dX5_init_22 : decode cX5_init 22 = .ok (.putfield 19, 3) := by decide +kernel
theorem dX5_init_25 : decode cX5_init 25 = .ok (.aload_n 0, 1) := by decide +kernel
theorem dX5_init_26 : decode cX5_init 26 = .ok (.new 16, 3) := by decide +kernel
theorem dX5_init_29 : decode cX5_init 29 = .ok (.dup, 1) := by decide +kernel
theorem dX5_init_30 : decode cX5_init 30 = .ok (.invokespecial 18, 3) := by decide +kernel
theorem dX5_init_33 : decode cX5_init 33 = .ok (.putfield 23, 3) := by decide +kernel
theorem dX5_init_36 : decode cX5_init 36 = .ok (.aload_n 0, 1) := by decide +kernel
theorem dX5_init_37 : decode cX5_init 37 = .ok (.new 26, 3) := by decide +kernel
theorem dX5_init_40 : decode cX5_init 40 = .ok (.dup, 1) := by decide +kernel
theorem dX5_init_41 : decode cX5_init 41 = .ok (.invokespecial 28, 3) := by decide +kernel
theorem dX5_init_44 : decode cX5_init 44 = .ok (.putfield 29, 3) := by decide +kernel
theorem dX5_init_47 : decode cX5_init 47 = .ok (.aload_n 0, 1) := by decide +kernel
theorem dX5_init_48 : decode cX5_init 48 = .ok (.new 33, 3) := by decide +kernel
theorem dX5_init_51 : decode cX5_init 51 = .ok (.dup, 1) := by decide +kernel
theorem dX5_init_52 : decode cX5_init 52 = .ok (.invokespecial 35, 3) := by decide +kernel
theorem dX5_init_55 : decode cX5_init 55 = .ok (.putfield 36, 3) := by decide +kernel
theorem dX5_init_58 : decode cX5_init 58 = .ok (.aload_n 0, 1) := by decide +kernel
theorem dX5_init_59 : decode cX5_init 59 = .ok (.iconst 2, 1) := by decide +kernel
theorem dX5_init_60 : decode cX5_init 60 = .ok (.anewarray 16, 3) := by decide +kernel
theorem dX5_init_63 : decode cX5_init 63 = .ok (.putfield 40, 3) := by decide +kernel
theorem dX5_init_66 : decode cX5_init 66 = .ok (.iconst 0, 1) := by decide +kernel
theorem dX5_init_67 : decode cX5_init 67 = .ok (.istore_n 1, 1) := by decide +kernel
theorem dX5_init_68 : decode cX5_init 68 = .ok (.iload_n 1, 1) := by decide +kernel
theorem dX5_init_69 : decode cX5_init 69 = .ok (.iconst 2, 1) := by decide +kernel
theorem dX5_init_70 : decode cX5_init 70 = .ok (.if_icmp .ge 22, 3) := by decide +kernel
theorem dX5_init_73 : decode cX5_init 73 = .ok (.aload_n 0, 1) := by decide +kernel
theorem dX5_init_74 : decode cX5_init 74 = .ok (.getfield 40, 3) := by decide +kernel
theorem dX5_init_77 : decode cX5_init 77 = .ok (.iload_n 1, 1) := by decide +kernel
theorem dX5_init_78 : decode cX5_init 78 = .ok (.new 16, 3) := by decide +kernel
theorem dX5_init_81 : decode cX5_init 81 = .ok (.dup, 1) := by decide +kernel
theorem dX5_init_82 : decode cX5_init 82 = .ok (.invokespecial 18, 3) := by decide +kernel
theorem dX5_init_85 : decode cX5_init 85 = .ok (.aastore, 1) := by decide +kernel
theorem dX5_init_86 : decode cX5_init 86 = .ok (.iinc 1 1, 3) := by decide +kernel
theorem dX5_init_89 : decode cX5_init 89 = .ok (.goto (-21), 3) := by decide +kernel
theorem dX5_init_92 : decode cX5_init 92 = .ok (.aload_n 0, 1) := by decide +kernel
theorem dX5_init_93 : decode cX5_init 93 = .ok (.iconst 2, 1) := by decide +kernel
theorem dX5_init_94 : decode cX5_init 94 = .ok (.newarray .boolean, 2) := by decide +kernel
theorem dX5_init_96 : decode cX5_init 96 = .ok (.putfield 44, 3) := by decide +kernel
theorem dX5_init_99 : decode cX5_init 99 = .ok (.aload_n 0, 1) := by decide +kernel
theorem dX5_init_100 : decode cX5_init 100 = .ok (.new 48, 3) := by decide +kernel
theorem dX5_init_103 : decode cX5_init 103 = .ok (.dup, 1) := by decide +kernel
theorem dX5_init_104 : decode cX5_init 104 = .ok (.invokespecial 50, 3) := by decide +kernel
theorem dX5_init_107 : decode cX5_init 107 = .ok (.putfield 51, 3) := by decide +kernel
theorem dX5_init_110 : decode cX5_init 110 = .ok (.aload_n 0, 1) := by decide +kernel
theorem dX5_init_111 : decode cX5_init 111 = .ok (.new 55, 3) := by decide +kernel
theorem dX5_init_114 : decode cX5_init 114 = .ok (.dup, 1) := by decide +kernel
theorem dX5_init_115 : decode cX5_init 115 = .ok (.invokespecial 57, 3) := by decide +kernel
theorem dX5_init_118 : decode cX5_init 118 = .ok (.putfield 58, 3) := by decide +kernel
theorem dX5_init_121 : decode cX5_init 121 = .ok (.return_, 1) := by decide +kernel
theorem dX5_type_0 : decode cX5_type 0 = .ok (.iload_n 1, 1) := by decide +kernel
theorem dX5_type_1 : decode cX5_type 1 = .ok (.ifCond .lt 10, 3) := by decide +kernel
theorem dX5_type_4 : decode cX5_type 4 = .ok (.iload_n 1, 1) := by decide +kernel
theorem dX5_type_5 : decode cX5_type 5 = .ok (.sipush 255, 3) := by decide +kernel
theorem dX5_type_8 : decode cX5_type 8 = .ok (.if_icmp .le 5, 3) := by decide +kernel
theorem dX5_type_11 : decode cX5_type 11 = .ok (.iconst (-1), 1) := by decide +kernel
theorem dX5_type_12 : decode cX5_type 12 = .ok (.ireturn, 1) := by decide +kernel
theorem dX5_type_13 : decode cX5_type 13 = .ok (.aload_n 0, 1) := by decide +kernel
theorem dX5_type_14 : decode cX5_type 14 = .ok (.getfield 29, 3) := by decide +kernel
theorem dX5_type_17 : decode cX5_type 17 = .ok (.iload_n 1, 1) := by decide +kernel
theorem dX5_type_18 : decode cX5_type 18 = .ok (.invokevirtual 62, 3) := by decide +kernel
theorem dX5_type_21 : decode cX5_type 21 = .ok (.ifCond .eq 13, 3) := by decide +kernel
theorem dX5_type_24 : decode cX5_type 24 = .ok (.aload_n 0, 1) := by decide +kernel
theorem dX5_type_25 : decode cX5_type 25 = .ok (.getfield 29, 3) := by decide +kernel
theorem dX5_type_28 : decode cX5_type 28 = .ok (.invokevirtual 66, 3) := by decide +kernel
theorem dX5_type_31 : decode cX5_type 31 = .ok (.goto 5, 3) := by decide +kernel
theorem dX5_type_34 : decode cX5_type 34 = .ok (.bipush (-3), 2) := by decide +kernel
theorem dX5_type_36 : decode cX5_type 36 = .ok (.ireturn, 1) := by decide +kernel
theorem dX5_clear_0 : decode cX5_clear 0 = .ok (.aload_n 0, 1) := by decide +kernel
theorem dX5_clear_1 : decode cX5_clear 1 = .ok (.getfield 29, 3) := by decide +kernel
theorem dX5_clear_4 : decode cX5_clear 4 = .ok (.invokevirtual 66, 3) := by decide +kernel
theorem dX5_clear_7 : decode cX5_clear 7 = .ok (.istore_n 1, 1) := by decide +kernel
theorem dX5_clear_8 : decode cX5_clear 8 = .ok (.aload_n 0, 1) := by decide +kernel
theorem dX5_clear_9 : decode cX5_clear 9 = .ok (.getfield 29, 3) := by decide +kernel
theorem dX5_clear_12 : decode cX5_clear 12 = .ok (.invokevirtual 70, 3) := by decide +kernel
theorem dX5_clear_15 : decode cX5_clear 15 = .ok (.iload_n 1, 1) := by decide +kernel
theorem dX5_clear_16 : decode cX5_clear 16 = .ok (.ireturn, 1) := by decide +kernel
theorem dX5_fraction_0 : decode cX5_fraction 0 = .ok (.aload_n 0, 1) := by decide +kernel
theorem dX5_fraction_1 : decode cX5_fraction 1 = .ok (.getfield 29, 3) := by decide +kernel
theorem dX5_fraction_4 : decode cX5_fraction 4 = .ok (.invokevirtual 73, 3) := by decide +kernel
theorem dX5_fraction_7 : decode cX5_fraction 7 = .ok (.istore_n 1, 1) := by decide +kernel
theorem dX5_fraction_8 : decode cX5_fraction 8 = .ok (.iload_n 1, 1) := by decide +kernel
theorem dX5_fraction_9 : decode cX5_fraction 9 = .ok (.ifCond .lt 7, 3) := by decide +kernel
theorem dX5_fraction_12 : decode cX5_fraction 12 = .ok (.aload_n 0, 1) := by decide +kernel
theorem dX5_fraction_13 : decode cX5_fraction 13 = .ok (.invokevirtual 76, 3) := by decide +kernel
theorem dX5_fraction_16 : decode cX5_fraction 16 = .ok (.iload_n 1, 1) := by decide +kernel
theorem dX5_fraction_17 : decode cX5_fraction 17 = .ok (.ireturn, 1) := by decide +kernel
theorem dX5_makes_0 : decode cX5_makes 0 = .ok (.iload_n 1, 1) := by decide +kernel
theorem dX5_makes_1 : decode cX5_makes 1 = .ok (.ifCond .lt 8, 3) := by decide +kernel
theorem dX5_makes_4 : decode cX5_makes 4 = .ok (.iload_n 1, 1) := by decide +kernel
theorem dX5_makes_5 : decode cX5_makes 5 = .ok (.iconst 4, 1) := by decide +kernel
theorem dX5_makes_6 : decode cX5_makes 6 = .ok (.if_icmp .lt 5, 3) := by decide +kernel
theorem dX5_makes_9 : decode cX5_makes 9 = .ok (.iconst (-1), 1) := by decide +kernel
theorem dX5_makes_10 : decode cX5_makes 10 = .ok (.ireturn, 1) := by decide +kernel
theorem dX5_makes_11 : decode cX5_makes 11 = .ok (.aload_n 0, 1) := by decide +kernel
theorem dX5_makes_12 : decode cX5_makes 12 = .ok (.iload_n 1, 1) := by decide +kernel
theorem dX5_makes_13 : decode cX5_makes 13 = .ok (.invokevirtual 79, 3) := by decide +kernel
theorem dX5_makes_16 : decode cX5_makes 16 = .ok (.ifCond .eq 10, 3) := by decide +kernel
theorem dX5_makes_19 : decode cX5_makes 19 = .ok (.aload_n 0, 1) := by decide +kernel
theorem dX5_makes_20 : decode cX5_makes 20 = .ok (.invokevirtual 82, 3) := by decide +kernel
theorem dX5_makes_23 : decode cX5_makes 23 = .ok (.goto 5, 3) := by decide +kernel
theorem dX5_makes_26 : decode cX5_makes 26 = .ok (.bipush (-2), 2) := by decide +kernel
theorem dX5_makes_28 : decode cX5_makes 28 = .ok (.ireturn, 1) := by decide +kernel
theorem dX5_splits_0 : decode cX5_splits 0 = .ok (.aload_n 0, 1) := by decide +kernel
theorem dX5_splits_1 : decode cX5_splits 1 = .ok (.getfield 19, 3) := by decide +kernel
theorem dX5_splits_4 : decode cX5_splits 4 = .ok (.iload_n 1, 1) := by decide +kernel
theorem dX5_splits_5 : decode cX5_splits 5 = .ok (.invokevirtual 85, 3) := by decide +kernel
theorem dX5_splits_8 : decode cX5_splits 8 = .ok (.ifCond .eq 12, 3) := by decide +kernel
theorem dX5_splits_11 : decode cX5_splits 11 = .ok (.iload_n 2, 1) := by decide +kernel
theorem dX5_splits_12 : decode cX5_splits 12 = .ok (.ifCond .lt 8, 3) := by decide +kernel
theorem dX5_splits_15 : decode cX5_splits 15 = .ok (.iload_n 2, 1) := by decide +kernel
theorem dX5_splits_16 : decode cX5_splits 16 = .ok (.iconst 4, 1) := by decide +kernel
theorem dX5_splits_17 : decode cX5_splits 17 = .ok (.if_icmp .lt 5, 3) := by decide +kernel
theorem dX5_splits_20 : decode cX5_splits 20 = .ok (.iconst (-1), 1) := by decide +kernel
theorem dX5_splits_21 : decode cX5_splits 21 = .ok (.ireturn, 1) := by decide +kernel
theorem dX5_splits_22 : decode cX5_splits 22 = .ok (.aload_n 0, 1) := by decide +kernel
theorem dX5_splits_23 : decode cX5_splits 23 = .ok (.getfield 23, 3) := by decide +kernel
theorem dX5_splits_26 : decode cX5_splits 26 = .ok (.aload_n 0, 1) := by decide +kernel
theorem dX5_splits_27 : decode cX5_splits 27 = .ok (.getfield 19, 3) := by decide +kernel
theorem dX5_splits_30 : decode cX5_splits 30 = .ok (.invokevirtual 88, 3) := by decide +kernel
theorem dX5_splits_33 : decode cX5_splits 33 = .ok (.aload_n 0, 1) := by decide +kernel
theorem dX5_splits_34 : decode cX5_splits 34 = .ok (.getfield 23, 3) := by decide +kernel
theorem dX5_splits_37 : decode cX5_splits 37 = .ok (.iload_n 1, 1) := by decide +kernel
theorem dX5_splits_38 : decode cX5_splits 38 = .ok (.invokevirtual 92, 3) := by decide +kernel
theorem dX5_splits_41 : decode cX5_splits 41 = .ok (.aload_n 0, 1) := by decide +kernel
theorem dX5_splits_42 : decode cX5_splits 42 = .ok (.getfield 23, 3) := by decide +kernel
theorem dX5_splits_45 : decode cX5_splits 45 = .ok (.aload_n 0, 1) := by decide +kernel
theorem dX5_splits_46 : decode cX5_splits 46 = .ok (.getfield 19, 3) := by decide +kernel
theorem dX5_splits_49 : decode cX5_splits 49 = .ok (.iload_n 1, 1) := by decide +kernel
theorem dX5_splits_50 : decode cX5_splits 50 = .ok (.invokevirtual 96, 3) := by decide +kernel
theorem dX5_splits_53 : decode cX5_splits 53 = .ok (.i2l, 1) := by decide +kernel
theorem dX5_splits_54 : decode cX5_splits 54 = .ok (.iload_n 2, 1) := by decide +kernel
theorem dX5_splits_55 : decode cX5_splits 55 = .ok (.invokestatic 100, 3) := by decide +kernel
theorem dX5_splits_58 : decode cX5_splits 58 = .ok (.ifCond .eq 10, 3) := by decide +kernel
theorem dX5_splits_61 : decode cX5_splits 61 = .ok (.aload_n 0, 1) := by decide +kernel
theorem dX5_splits_62 : decode cX5_splits 62 = .ok (.invokevirtual 82, 3) := by decide +kernel
theorem dX5_splits_65 : decode cX5_splits 65 = .ok (.goto 5, 3) := by decide +kernel
theorem dX5_splits_68 : decode cX5_splits 68 = .ok (.bipush (-2), 2) := by decide +kernel
theorem dX5_splits_70 : decode cX5_splits 70 = .ok (.ireturn, 1) := by decide +kernel
theorem dX5_joins_0 : decode cX5_joins 0 = .ok (.aload_n 0, 1) := by decide +kernel
theorem dX5_joins_1 : decode cX5_joins 1 = .ok (.getfield 19, 3) := by decide +kernel
theorem dX5_joins_4 : decode cX5_joins 4 = .ok (.iload_n 1, 1) := by decide +kernel
theorem dX5_joins_5 : decode cX5_joins 5 = .ok (.invokevirtual 85, 3) := by decide +kernel
theorem dX5_joins_8 : decode cX5_joins 8 = .ok (.ifCond .eq 19, 3) := by decide +kernel
theorem dX5_joins_11 : decode cX5_joins 11 = .ok (.aload_n 0, 1) := by decide +kernel
theorem dX5_joins_12 : decode cX5_joins 12 = .ok (.getfield 19, 3) := by decide +kernel
theorem dX5_joins_15 : decode cX5_joins 15 = .ok (.iload_n 2, 1) := by decide +kernel
theorem dX5_joins_16 : decode cX5_joins 16 = .ok (.invokevirtual 85, 3) := by decide +kernel
theorem dX5_joins_19 : decode cX5_joins 19 = .ok (.ifCond .eq 8, 3) := by decide +kernel
theorem dX5_joins_22 : decode cX5_joins 22 = .ok (.iload_n 1, 1) := by decide +kernel
theorem dX5_joins_23 : decode cX5_joins 23 = .ok (.iload_n 2, 1) := by decide +kernel
theorem dX5_joins_24 : decode cX5_joins 24 = .ok (.if_icmp .ne 5, 3) := by decide +kernel
theorem dX5_joins_27 : decode cX5_joins 27 = .ok (.iconst (-1), 1) := by decide +kernel
theorem dX5_joins_28 : decode cX5_joins 28 = .ok (.ireturn, 1) := by decide +kernel
theorem dX5_joins_29 : decode cX5_joins 29 = .ok (.aload_n 0, 1) := by decide +kernel
theorem dX5_joins_30 : decode cX5_joins 30 = .ok (.getfield 19, 3) := by decide +kernel
theorem dX5_joins_33 : decode cX5_joins 33 = .ok (.iload_n 1, 1) := by decide +kernel
theorem dX5_joins_34 : decode cX5_joins 34 = .ok (.invokevirtual 96, 3) := by decide +kernel
theorem dX5_joins_37 : decode cX5_joins 37 = .ok (.i2l, 1) := by decide +kernel
theorem dX5_joins_38 : decode cX5_joins 38 = .ok (.aload_n 0, 1) := by decide +kernel
theorem dX5_joins_39 : decode cX5_joins 39 = .ok (.getfield 19, 3) := by decide +kernel
theorem dX5_joins_42 : decode cX5_joins 42 = .ok (.iload_n 2, 1) := by decide +kernel
theorem dX5_joins_43 : decode cX5_joins 43 = .ok (.invokevirtual 96, 3) := by decide +kernel
theorem dX5_joins_46 : decode cX5_joins 46 = .ok (.i2l, 1) := by decide +kernel
theorem dX5_joins_47 : decode cX5_joins 47 = .ok (.invokestatic 104, 3) := by decide +kernel
theorem dX5_joins_50 : decode cX5_joins 50 = .ok (.istore_n 3, 1) := by decide +kernel
theorem dX5_joins_51 : decode cX5_joins 51 = .ok (.aload_n 0, 1) := by decide +kernel
theorem dX5_joins_52 : decode cX5_joins 52 = .ok (.getfield 23, 3) := by decide +kernel
theorem dX5_joins_55 : decode cX5_joins 55 = .ok (.aload_n 0, 1) := by decide +kernel
theorem dX5_joins_56 : decode cX5_joins 56 = .ok (.getfield 19, 3) := by decide +kernel
theorem dX5_joins_59 : decode cX5_joins 59 = .ok (.invokevirtual 88, 3) := by decide +kernel
theorem dX5_joins_62 : decode cX5_joins 62 = .ok (.aload_n 0, 1) := by decide +kernel
theorem dX5_joins_63 : decode cX5_joins 63 = .ok (.getfield 23, 3) := by decide +kernel
theorem dX5_joins_66 : decode cX5_joins 66 = .ok (.iload_n 1, 1) := by decide +kernel
theorem dX5_joins_67 : decode cX5_joins 67 = .ok (.iload_n 2, 1) := by decide +kernel
theorem dX5_joins_68 : decode cX5_joins 68 = .ok (.invokestatic 108, 3) := by decide +kernel
theorem dX5_joins_71 : decode cX5_joins 71 = .ok (.invokevirtual 92, 3) := by decide +kernel
theorem dX5_joins_74 : decode cX5_joins 74 = .ok (.aload_n 0, 1) := by decide +kernel
theorem dX5_joins_75 : decode cX5_joins 75 = .ok (.getfield 23, 3) := by decide +kernel
theorem dX5_joins_78 : decode cX5_joins 78 = .ok (.iload_n 1, 1) := by decide +kernel
theorem dX5_joins_79 : decode cX5_joins 79 = .ok (.iload_n 2, 1) := by decide +kernel
theorem dX5_joins_80 : decode cX5_joins 80 = .ok (.invokestatic 114, 3) := by decide +kernel
theorem dX5_joins_83 : decode cX5_joins 83 = .ok (.invokevirtual 92, 3) := by decide +kernel
theorem dX5_joins_86 : decode cX5_joins 86 = .ok (.aload_n 0, 1) := by decide +kernel
theorem dX5_joins_87 : decode cX5_joins 87 = .ok (.getfield 23, 3) := by decide +kernel
theorem dX5_joins_90 : decode cX5_joins 90 = .ok (.iload_n 3, 1) := by decide +kernel
theorem dX5_joins_91 : decode cX5_joins 91 = .ok (.i2l, 1) := by decide +kernel
theorem dX5_joins_92 : decode cX5_joins 92 = .ok (.invokevirtual 117, 3) := by decide +kernel
theorem dX5_joins_95 : decode cX5_joins 95 = .ok (.ifCond .ne 6, 3) := by decide +kernel
theorem dX5_joins_98 : decode cX5_joins 98 = .ok (.bipush (-2), 2) := by decide +kernel
theorem dX5_joins_100 : decode cX5_joins 100 = .ok (.ireturn, 1) := by decide +kernel
theorem dX5_joins_101 : decode cX5_joins 101 = .ok (.aload_n 0, 1) := by decide +kernel
theorem dX5_joins_102 : decode cX5_joins 102 = .ok (.invokevirtual 82, 3) := by decide +kernel
theorem dX5_joins_105 : decode cX5_joins 105 = .ok (.pop, 1) := by decide +kernel
theorem dX5_joins_106 : decode cX5_joins 106 = .ok (.iload_n 3, 1) := by decide +kernel
theorem dX5_joins_107 : decode cX5_joins 107 = .ok (.ireturn, 1) := by decide +kernel
theorem dX5_undo_0 : decode cX5_undo 0 = .ok (.aload_n 0, 1) := by decide +kernel
theorem dX5_undo_1 : decode cX5_undo 1 = .ok (.getfield 36, 3) := by decide +kernel
theorem dX5_undo_4 : decode cX5_undo 4 = .ok (.aload_n 0, 1) := by decide +kernel
theorem dX5_undo_5 : decode cX5_undo 5 = .ok (.getfield 19, 3) := by decide +kernel
theorem dX5_undo_8 : decode cX5_undo 8 = .ok (.invokevirtual 121, 3) := by decide +kernel
theorem dX5_undo_11 : decode cX5_undo 11 = .ok (.ifCond .eq 13, 3) := by decide +kernel
theorem dX5_undo_14 : decode cX5_undo 14 = .ok (.aload_n 0, 1) := by decide +kernel
theorem dX5_undo_15 : decode cX5_undo 15 = .ok (.getfield 36, 3) := by decide +kernel
theorem dX5_undo_18 : decode cX5_undo 18 = .ok (.invokevirtual 125, 3) := by decide +kernel
theorem dX5_undo_21 : decode cX5_undo 21 = .ok (.goto 5, 3) := by decide +kernel
theorem dX5_undo_24 : decode cX5_undo 24 = .ok (.bipush (-2), 2) := by decide +kernel
theorem dX5_undo_26 : decode cX5_undo 26 = .ok (.ireturn, 1) := by decide +kernel
theorem dX5_term_0 : decode cX5_term 0 = .ok (.iload_n 1, 1) := by decide +kernel
theorem dX5_term_1 : decode cX5_term 1 = .ok (.ifCond .ge 5, 3) := by decide +kernel
theorem dX5_term_4 : decode cX5_term 4 = .ok (.iconst (-1), 1) := by decide +kernel
theorem dX5_term_5 : decode cX5_term 5 = .ok (.ireturn, 1) := by decide +kernel
theorem dX5_term_6 : decode cX5_term 6 = .ok (.aload_n 0, 1) := by decide +kernel
theorem dX5_term_7 : decode cX5_term 7 = .ok (.getfield 19, 3) := by decide +kernel
theorem dX5_term_10 : decode cX5_term 10 = .ok (.iload_n 1, 1) := by decide +kernel
theorem dX5_term_11 : decode cX5_term 11 = .ok (.invokevirtual 96, 3) := by decide +kernel
theorem dX5_term_14 : decode cX5_term 14 = .ok (.ireturn, 1) := by decide +kernel
theorem dX5_greedy_0 : decode cX5_greedy 0 = .ok (.iload_n 1, 1) := by decide +kernel
theorem dX5_greedy_1 : decode cX5_greedy 1 = .ok (.ifCond .lt 13, 3) := by decide +kernel
theorem dX5_greedy_4 : decode cX5_greedy 4 = .ok (.iload_n 1, 1) := by decide +kernel
theorem dX5_greedy_5 : decode cX5_greedy 5 = .ok (.iconst 1, 1) := by decide +kernel
theorem dX5_greedy_6 : decode cX5_greedy 6 = .ok (.if_icmp .gt 8, 3) := by decide +kernel
theorem dX5_greedy_9 : decode cX5_greedy 9 = .ok (.iload_n 2, 1) := by decide +kernel
theorem dX5_greedy_10 : decode cX5_greedy 10 = .ok (.iconst (-1), 1) := by decide +kernel
theorem dX5_greedy_11 : decode cX5_greedy 11 = .ok (.if_icmp .ge 5, 3) := by decide +kernel
theorem dX5_greedy_14 : decode cX5_greedy 14 = .ok (.iconst (-1), 1) := by decide +kernel
theorem dX5_greedy_15 : decode cX5_greedy 15 = .ok (.ireturn, 1) := by decide +kernel
theorem dX5_greedy_16 : decode cX5_greedy 16 = .ok (.aload_n 0, 1) := by decide +kernel
theorem dX5_greedy_17 : decode cX5_greedy 17 = .ok (.getfield 9, 3) := by decide +kernel
theorem dX5_greedy_20 : decode cX5_greedy 20 = .ok (.aload_n 0, 1) := by decide +kernel
theorem dX5_greedy_21 : decode cX5_greedy 21 = .ok (.getfield 13, 3) := by decide +kernel
theorem dX5_greedy_24 : decode cX5_greedy 24 = .ok (.iload_n 1, 1) := by decide +kernel
theorem dX5_greedy_25 : decode cX5_greedy 25 = .ok (.iconst 1, 1) := by decide +kernel
theorem dX5_greedy_26 : decode cX5_greedy 26 = .ok (.if_icmp .ne 7, 3) := by decide +kernel
theorem dX5_greedy_29 : decode cX5_greedy 29 = .ok (.iconst 1, 1) := by decide +kernel
theorem dX5_greedy_30 : decode cX5_greedy 30 = .ok (.goto 4, 3) := by decide +kernel
theorem dX5_greedy_33 : decode cX5_greedy 33 = .ok (.iconst 0, 1) := by decide +kernel
theorem dX5_greedy_34 : decode cX5_greedy 34 = .ok (.aload_n 0, 1) := by decide +kernel
theorem dX5_greedy_35 : decode cX5_greedy 35 = .ok (.getfield 23, 3) := by decide +kernel
theorem dX5_greedy_38 : decode cX5_greedy 38 = .ok (.invokestatic 126, 3) := by decide +kernel
theorem dX5_greedy_41 : decode cX5_greedy 41 = .ok (.ifCond .ne 6, 3) := by decide +kernel
theorem dX5_greedy_44 : decode cX5_greedy 44 = .ok (.bipush (-9), 2) := by decide +kernel
theorem dX5_greedy_46 : decode cX5_greedy 46 = .ok (.ireturn, 1) := by decide +kernel
theorem dX5_greedy_47 : decode cX5_greedy 47 = .ok (.iload_n 2, 1) := by decide +kernel
theorem dX5_greedy_48 : decode cX5_greedy 48 = .ok (.iconst (-1), 1) := by decide +kernel
theorem dX5_greedy_49 : decode cX5_greedy 49 = .ok (.if_icmp .ne 13, 3) := by decide +kernel
theorem dX5_greedy_52 : decode cX5_greedy 52 = .ok (.aload_n 0, 1) := by decide +kernel
theorem dX5_greedy_53 : decode cX5_greedy 53 = .ok (.getfield 23, 3) := by decide +kernel
theorem dX5_greedy_56 : decode cX5_greedy 56 = .ok (.invokevirtual 130, 3) := by decide +kernel
theorem dX5_greedy_59 : decode cX5_greedy 59 = .ok (.goto 11, 3) := by decide +kernel
theorem dX5_greedy_62 : decode cX5_greedy 62 = .ok (.aload_n 0, 1) := by decide +kernel
theorem dX5_greedy_63 : decode cX5_greedy 63 = .ok (.getfield 23, 3) := by decide +kernel
theorem dX5_greedy_66 : decode cX5_greedy 66 = .ok (.iload_n 2, 1) := by decide +kernel
theorem dX5_greedy_67 : decode cX5_greedy 67 = .ok (.invokevirtual 96, 3) := by decide +kernel
theorem dX5_greedy_70 : decode cX5_greedy 70 = .ok (.ireturn, 1) := by decide +kernel
theorem dX5_sums_0 : decode cX5_sums 0 = .ok (.iload_n 1, 1) := by decide +kernel
theorem dX5_sums_1 : decode cX5_sums 1 = .ok (.invokestatic 131, 3) := by decide +kernel
theorem dX5_sums_4 : decode cX5_sums 4 = .ok (.ifCond .eq 10, 3) := by decide +kernel
theorem dX5_sums_7 : decode cX5_sums 7 = .ok (.iload_n 2, 1) := by decide +kernel
theorem dX5_sums_8 : decode cX5_sums 8 = .ok (.invokestatic 134, 3) := by decide +kernel
theorem dX5_sums_11 : decode cX5_sums 11 = .ok (.ifCond .ne 5, 3) := by decide +kernel
theorem dX5_sums_14 : decode cX5_sums 14 = .ok (.iconst (-1), 1) := by decide +kernel
theorem dX5_sums_15 : decode cX5_sums 15 = .ok (.ireturn, 1) := by decide +kernel
theorem dX5_sums_16 : decode cX5_sums 16 = .ok (.aload_n 0, 1) := by decide +kernel
theorem dX5_sums_17 : decode cX5_sums 17 = .ok (.getfield 51, 3) := by decide +kernel
theorem dX5_sums_20 : decode cX5_sums 20 = .ok (.iload_n 1, 1) := by decide +kernel
theorem dX5_sums_21 : decode cX5_sums 21 = .ok (.iload_n 2, 1) := by decide +kernel
theorem dX5_sums_22 : decode cX5_sums 22 = .ok (.invokevirtual 137, 3) := by decide +kernel
theorem dX5_sums_25 : decode cX5_sums 25 = .ok (.ireturn, 1) := by decide +kernel
theorem dX5_sum_0 : decode cX5_sum 0 = .ok (.iload_n 1, 1) := by decide +kernel
theorem dX5_sum_1 : decode cX5_sum 1 = .ok (.invokestatic 131, 3) := by decide +kernel
theorem dX5_sum_4 : decode cX5_sum 4 = .ok (.ifCond .eq 19, 3) := by decide +kernel
theorem dX5_sum_7 : decode cX5_sum 7 = .ok (.iload_n 2, 1) := by decide +kernel
theorem dX5_sum_8 : decode cX5_sum 8 = .ok (.invokestatic 134, 3) := by decide +kernel
theorem dX5_sum_11 : decode cX5_sum 11 = .ok (.ifCond .eq 12, 3) := by decide +kernel
theorem dX5_sum_14 : decode cX5_sum 14 = .ok (.iload_n 3, 1) := by decide +kernel
theorem dX5_sum_15 : decode cX5_sum 15 = .ok (.ifCond .lt 8, 3) := by decide +kernel
theorem dX5_sum_18 : decode cX5_sum 18 = .ok (.iload 4, 2) := by decide +kernel
theorem dX5_sum_20 : decode cX5_sum 20 = .ok (.ifCond .ge 5, 3) := by decide +kernel
theorem dX5_sum_23 : decode cX5_sum 23 = .ok (.iconst (-1), 1) := by decide +kernel
theorem dX5_sum_24 : decode cX5_sum 24 = .ok (.ireturn, 1) := by decide +kernel
theorem dX5_sum_25 : decode cX5_sum 25 = .ok (.aload_n 0, 1) := by decide +kernel
theorem dX5_sum_26 : decode cX5_sum 26 = .ok (.getfield 51, 3) := by decide +kernel
theorem dX5_sum_29 : decode cX5_sum 29 = .ok (.iload_n 1, 1) := by decide +kernel
theorem dX5_sum_30 : decode cX5_sum 30 = .ok (.iload_n 2, 1) := by decide +kernel
theorem dX5_sum_31 : decode cX5_sum 31 = .ok (.iload_n 3, 1) := by decide +kernel
theorem dX5_sum_32 : decode cX5_sum 32 = .ok (.iload 4, 2) := by decide +kernel
theorem dX5_sum_34 : decode cX5_sum 34 = .ok (.invokevirtual 140, 3) := by decide +kernel
theorem dX5_sum_37 : decode cX5_sum 37 = .ok (.ireturn, 1) := by decide +kernel
theorem dX5_fewest_0 : decode cX5_fewest 0 = .ok (.iload_n 1, 1) := by decide +kernel
theorem dX5_fewest_1 : decode cX5_fewest 1 = .ok (.invokestatic 134, 3) := by decide +kernel
theorem dX5_fewest_4 : decode cX5_fewest 4 = .ok (.ifCond .ne 5, 3) := by decide +kernel
theorem dX5_fewest_7 : decode cX5_fewest 7 = .ok (.iconst (-1), 1) := by decide +kernel
theorem dX5_fewest_8 : decode cX5_fewest 8 = .ok (.ireturn, 1) := by decide +kernel
theorem dX5_fewest_9 : decode cX5_fewest 9 = .ok (.aload_n 0, 1) := by decide +kernel
theorem dX5_fewest_10 : decode cX5_fewest 10 = .ok (.getfield 51, 3) := by decide +kernel
theorem dX5_fewest_13 : decode cX5_fewest 13 = .ok (.iload_n 1, 1) := by decide +kernel
theorem dX5_fewest_14 : decode cX5_fewest 14 = .ok (.invokevirtual 144, 3) := by decide +kernel
theorem dX5_fewest_17 : decode cX5_fewest 17 = .ok (.ireturn, 1) := by decide +kernel
theorem dX5_bound_0 : decode cX5_bound 0 = .ok (.iload_n 1, 1) := by decide +kernel
theorem dX5_bound_1 : decode cX5_bound 1 = .ok (.invokestatic 131, 3) := by decide +kernel
theorem dX5_bound_4 : decode cX5_bound 4 = .ok (.ifCond .ne 5, 3) := by decide +kernel
theorem dX5_bound_7 : decode cX5_bound 7 = .ok (.iconst (-1), 1) := by decide +kernel
theorem dX5_bound_8 : decode cX5_bound 8 = .ok (.ireturn, 1) := by decide +kernel
theorem dX5_bound_9 : decode cX5_bound 9 = .ok (.aload_n 0, 1) := by decide +kernel
theorem dX5_bound_10 : decode cX5_bound 10 = .ok (.getfield 51, 3) := by decide +kernel
theorem dX5_bound_13 : decode cX5_bound 13 = .ok (.iload_n 1, 1) := by decide +kernel
theorem dX5_bound_14 : decode cX5_bound 14 = .ok (.invokevirtual 147, 3) := by decide +kernel
theorem dX5_bound_17 : decode cX5_bound 17 = .ok (.ireturn, 1) := by decide +kernel
theorem dX5_holds_0 : decode cX5_holds 0 = .ok (.iload_n 1, 1) := by decide +kernel
theorem dX5_holds_1 : decode cX5_holds 1 = .ok (.invokestatic 150, 3) := by decide +kernel
theorem dX5_holds_4 : decode cX5_holds 4 = .ok (.ifCond .eq 24, 3) := by decide +kernel
theorem dX5_holds_7 : decode cX5_holds 7 = .ok (.iload_n 2, 1) := by decide +kernel
theorem dX5_holds_8 : decode cX5_holds 8 = .ok (.ifCond .lt 20, 3) := by decide +kernel
theorem dX5_holds_11 : decode cX5_holds 11 = .ok (.iload_n 2, 1) := by decide +kernel
theorem dX5_holds_12 : decode cX5_holds 12 = .ok (.iconst 5, 1) := by decide +kernel
theorem dX5_holds_13 : decode cX5_holds 13 = .ok (.if_icmp .ge 15, 3) := by decide +kernel
theorem dX5_holds_16 : decode cX5_holds 16 = .ok (.iload_n 3, 1) := by decide +kernel
theorem dX5_holds_17 : decode cX5_holds 17 = .ok (.iconst 1, 1) := by decide +kernel
theorem dX5_holds_18 : decode cX5_holds 18 = .ok (.if_icmp .lt 10, 3) := by decide +kernel
theorem dX5_holds_21 : decode cX5_holds 21 = .ok (.iload_n 3, 1) := by decide +kernel
theorem dX5_holds_22 : decode cX5_holds 22 = .ok (.sipush 999, 3) := by decide +kernel
theorem dX5_holds_25 : decode cX5_holds 25 = .ok (.if_icmp .le 5, 3) := by decide +kernel
theorem dX5_holds_28 : decode cX5_holds 28 = .ok (.iconst (-1), 1) := by decide +kernel
theorem dX5_holds_29 : decode cX5_holds 29 = .ok (.ireturn, 1) := by decide +kernel
theorem dX5_holds_30 : decode cX5_holds 30 = .ok (.iload_n 1, 1) := by decide +kernel
theorem dX5_holds_31 : decode cX5_holds 31 = .ok (.iload_n 2, 1) := by decide +kernel
theorem dX5_holds_32 : decode cX5_holds 32 = .ok (.iload_n 3, 1) := by decide +kernel
theorem dX5_holds_33 : decode cX5_holds 33 = .ok (.invokestatic 153, 3) := by decide +kernel
theorem dX5_holds_36 : decode cX5_holds 36 = .ok (.ifCond .eq 7, 3) := by decide +kernel
theorem dX5_holds_39 : decode cX5_holds 39 = .ok (.iconst 1, 1) := by decide +kernel
theorem dX5_holds_40 : decode cX5_holds 40 = .ok (.goto 4, 3) := by decide +kernel
theorem dX5_holds_43 : decode cX5_holds 43 = .ok (.iconst 0, 1) := by decide +kernel
theorem dX5_holds_44 : decode cX5_holds 44 = .ok (.ireturn, 1) := by decide +kernel
theorem dX5_covered_0 : decode cX5_covered 0 = .ok (.iload_n 1, 1) := by decide +kernel
theorem dX5_covered_1 : decode cX5_covered 1 = .ok (.invokestatic 150, 3) := by decide +kernel
theorem dX5_covered_4 : decode cX5_covered 4 = .ok (.ifCond .eq 21, 3) := by decide +kernel
theorem dX5_covered_7 : decode cX5_covered 7 = .ok (.iload_n 2, 1) := by decide +kernel
theorem dX5_covered_8 : decode cX5_covered 8 = .ok (.iconst 1, 1) := by decide +kernel
theorem dX5_covered_9 : decode cX5_covered 9 = .ok (.if_icmp .lt 16, 3) := by decide +kernel
theorem dX5_covered_12 : decode cX5_covered 12 = .ok (.iload_n 2, 1) := by decide +kernel
theorem dX5_covered_13 : decode cX5_covered 13 = .ok (.bipush 24, 2) := by decide +kernel
theorem dX5_covered_15 : decode cX5_covered 15 = .ok (.if_icmp .gt 10, 3) := by decide +kernel
theorem dX5_covered_18 : decode cX5_covered 18 = .ok (.iload_n 3, 1) := by decide +kernel
theorem dX5_covered_19 : decode cX5_covered 19 = .ok (.invokestatic 157, 3) := by decide +kernel
theorem dX5_covered_22 : decode cX5_covered 22 = .ok (.ifCond .ne 5, 3) := by decide +kernel
theorem dX5_covered_25 : decode cX5_covered 25 = .ok (.iconst (-1), 1) := by decide +kernel
theorem dX5_covered_26 : decode cX5_covered 26 = .ok (.ireturn, 1) := by decide +kernel
theorem dX5_covered_27 : decode cX5_covered 27 = .ok (.iconst 0, 1) := by decide +kernel
theorem dX5_covered_28 : decode cX5_covered 28 = .ok (.istore 4, 2) := by decide +kernel
theorem dX5_covered_30 : decode cX5_covered 30 = .ok (.iconst 0, 1) := by decide +kernel
theorem dX5_covered_31 : decode cX5_covered 31 = .ok (.istore 5, 2) := by decide +kernel
theorem dX5_covered_33 : decode cX5_covered 33 = .ok (.iload 5, 2) := by decide +kernel
theorem dX5_covered_35 : decode cX5_covered 35 = .ok (.iload_n 2, 1) := by decide +kernel
theorem dX5_covered_36 : decode cX5_covered 36 = .ok (.if_icmp .ge 29, 3) := by decide +kernel
theorem dX5_covered_39 : decode cX5_covered 39 = .ok (.iload_n 1, 1) := by decide +kernel
theorem dX5_covered_40 : decode cX5_covered 40 = .ok (.iload_n 2, 1) := by decide +kernel
theorem dX5_covered_41 : decode cX5_covered 41 = .ok (.iload 5, 2) := by decide +kernel
theorem dX5_covered_43 : decode cX5_covered 43 = .ok (.iload_n 3, 1) := by decide +kernel
theorem dX5_covered_44 : decode cX5_covered 44 = .ok (.invokestatic 160, 3) := by decide +kernel
theorem dX5_covered_47 : decode cX5_covered 47 = .ok (.ifCond .eq 12, 3) := by decide +kernel
theorem dX5_covered_50 : decode cX5_covered 50 = .ok (.iload 4, 2) := by decide +kernel
theorem dX5_covered_52 : decode cX5_covered 52 = .ok (.iconst 1, 1) := by decide +kernel
theorem dX5_covered_53 : decode cX5_covered 53 = .ok (.iload 5, 2) := by decide +kernel
theorem dX5_covered_55 : decode cX5_covered 55 = .ok (.ishl, 1) := by decide +kernel
theorem dX5_covered_56 : decode cX5_covered 56 = .ok (.ior, 1) := by decide +kernel
theorem dX5_covered_57 : decode cX5_covered 57 = .ok (.istore 4, 2) := by decide +kernel
theorem dX5_covered_59 : decode cX5_covered 59 = .ok (.iinc 5 1, 3) := by decide +kernel
theorem dX5_covered_62 : decode cX5_covered 62 = .ok (.goto (-29), 3) := by decide +kernel
theorem dX5_covered_65 : decode cX5_covered 65 = .ok (.iload 4, 2) := by decide +kernel
theorem dX5_covered_67 : decode cX5_covered 67 = .ok (.ireturn, 1) := by decide +kernel
theorem dX5_open_0 : decode cX5_open 0 = .ok (.iload_n 1, 1) := by decide +kernel
theorem dX5_open_1 : decode cX5_open 1 = .ok (.invokestatic 150, 3) := by decide +kernel
theorem dX5_open_4 : decode cX5_open 4 = .ok (.ifCond .eq 10, 3) := by decide +kernel
theorem dX5_open_7 : decode cX5_open 7 = .ok (.iload_n 2, 1) := by decide +kernel
theorem dX5_open_8 : decode cX5_open 8 = .ok (.invokestatic 157, 3) := by decide +kernel
theorem dX5_open_11 : decode cX5_open 11 = .ok (.ifCond .ne 5, 3) := by decide +kernel
theorem dX5_open_14 : decode cX5_open 14 = .ok (.iconst (-1), 1) := by decide +kernel
theorem dX5_open_15 : decode cX5_open 15 = .ok (.ireturn, 1) := by decide +kernel
theorem dX5_open_16 : decode cX5_open 16 = .ok (.iconst 1, 1) := by decide +kernel
theorem dX5_open_17 : decode cX5_open 17 = .ok (.istore_n 3, 1) := by decide +kernel
theorem dX5_open_18 : decode cX5_open 18 = .ok (.iload_n 3, 1) := by decide +kernel
theorem dX5_open_19 : decode cX5_open 19 = .ok (.sipush 999, 3) := by decide +kernel
theorem dX5_open_22 : decode cX5_open 22 = .ok (.if_icmp .gt 21, 3) := by decide +kernel
theorem dX5_open_25 : decode cX5_open 25 = .ok (.iload_n 1, 1) := by decide +kernel
theorem dX5_open_26 : decode cX5_open 26 = .ok (.iload_n 3, 1) := by decide +kernel
theorem dX5_open_27 : decode cX5_open 27 = .ok (.invokestatic 164, 3) := by decide +kernel
theorem dX5_open_30 : decode cX5_open 30 = .ok (.iload_n 2, 1) := by decide +kernel
theorem dX5_open_31 : decode cX5_open 31 = .ok (.iand, 1) := by decide +kernel
theorem dX5_open_32 : decode cX5_open 32 = .ok (.ifCond .ne 5, 3) := by decide +kernel
theorem dX5_open_35 : decode cX5_open 35 = .ok (.iload_n 3, 1) := by decide +kernel
theorem dX5_open_36 : decode cX5_open 36 = .ok (.ireturn, 1) := by decide +kernel
theorem dX5_open_37 : decode cX5_open 37 = .ok (.iinc 3 1, 3) := by decide +kernel
theorem dX5_open_40 : decode cX5_open 40 = .ok (.goto (-22), 3) := by decide +kernel
theorem dX5_open_43 : decode cX5_open 43 = .ok (.bipush (-9), 2) := by decide +kernel
theorem dX5_open_45 : decode cX5_open 45 = .ok (.ireturn, 1) := by decide +kernel
theorem dX5_sees_0 : decode cX5_sees 0 = .ok (.iload_n 1, 1) := by decide +kernel
theorem dX5_sees_1 : decode cX5_sees 1 = .ok (.invokestatic 150, 3) := by decide +kernel
theorem dX5_sees_4 : decode cX5_sees 4 = .ok (.ifCond .eq 24, 3) := by decide +kernel
theorem dX5_sees_7 : decode cX5_sees 7 = .ok (.iload_n 2, 1) := by decide +kernel
theorem dX5_sees_8 : decode cX5_sees 8 = .ok (.iconst 1, 1) := by decide +kernel
theorem dX5_sees_9 : decode cX5_sees 9 = .ok (.if_icmp .lt 19, 3) := by decide +kernel
theorem dX5_sees_12 : decode cX5_sees 12 = .ok (.iload_n 2, 1) := by decide +kernel
theorem dX5_sees_13 : decode cX5_sees 13 = .ok (.sipush 999, 3) := by decide +kernel
theorem dX5_sees_16 : decode cX5_sees 16 = .ok (.if_icmp .gt 12, 3) := by decide +kernel
theorem dX5_sees_19 : decode cX5_sees 19 = .ok (.iload_n 3, 1) := by decide +kernel
theorem dX5_sees_20 : decode cX5_sees 20 = .ok (.ifCond .lt 8, 3) := by decide +kernel
theorem dX5_sees_23 : decode cX5_sees 23 = .ok (.iload_n 3, 1) := by decide +kernel
theorem dX5_sees_24 : decode cX5_sees 24 = .ok (.iconst 1, 1) := by decide +kernel
theorem dX5_sees_25 : decode cX5_sees 25 = .ok (.if_icmp .le 5, 3) := by decide +kernel
theorem dX5_sees_28 : decode cX5_sees 28 = .ok (.iconst (-1), 1) := by decide +kernel
theorem dX5_sees_29 : decode cX5_sees 29 = .ok (.ireturn, 1) := by decide +kernel
theorem dX5_sees_30 : decode cX5_sees 30 = .ok (.aload_n 0, 1) := by decide +kernel
theorem dX5_sees_31 : decode cX5_sees 31 = .ok (.getfield 58, 3) := by decide +kernel
theorem dX5_sees_34 : decode cX5_sees 34 = .ok (.iload_n 1, 1) := by decide +kernel
theorem dX5_sees_35 : decode cX5_sees 35 = .ok (.iload_n 2, 1) := by decide +kernel
theorem dX5_sees_36 : decode cX5_sees 36 = .ok (.iload_n 3, 1) := by decide +kernel
theorem dX5_sees_37 : decode cX5_sees 37 = .ok (.iconst 1, 1) := by decide +kernel
theorem dX5_sees_38 : decode cX5_sees 38 = .ok (.if_icmp .ne 7, 3) := by decide +kernel
theorem dX5_sees_41 : decode cX5_sees 41 = .ok (.iconst 1, 1) := by decide +kernel
theorem dX5_sees_42 : decode cX5_sees 42 = .ok (.goto 4, 3) := by decide +kernel
theorem dX5_sees_45 : decode cX5_sees 45 = .ok (.iconst 0, 1) := by decide +kernel
theorem dX5_sees_46 : decode cX5_sees 46 = .ok (.invokevirtual 167, 3) := by decide +kernel
theorem dX5_sees_49 : decode cX5_sees 49 = .ok (.ifCond .eq 13, 3) := by decide +kernel
theorem dX5_sees_52 : decode cX5_sees 52 = .ok (.aload_n 0, 1) := by decide +kernel
theorem dX5_sees_53 : decode cX5_sees 53 = .ok (.getfield 58, 3) := by decide +kernel
theorem dX5_sees_56 : decode cX5_sees 56 = .ok (.invokevirtual 171, 3) := by decide +kernel
theorem dX5_sees_59 : decode cX5_sees 59 = .ok (.goto 5, 3) := by decide +kernel
theorem dX5_sees_62 : decode cX5_sees 62 = .ok (.bipush (-3), 2) := by decide +kernel
theorem dX5_sees_64 : decode cX5_sees 64 = .ok (.ireturn, 1) := by decide +kernel
theorem dX5_forget_0 : decode cX5_forget 0 = .ok (.aload_n 0, 1) := by decide +kernel
theorem dX5_forget_1 : decode cX5_forget 1 = .ok (.getfield 58, 3) := by decide +kernel
theorem dX5_forget_4 : decode cX5_forget 4 = .ok (.invokevirtual 171, 3) := by decide +kernel
theorem dX5_forget_7 : decode cX5_forget 7 = .ok (.istore_n 1, 1) := by decide +kernel
theorem dX5_forget_8 : decode cX5_forget 8 = .ok (.aload_n 0, 1) := by decide +kernel
theorem dX5_forget_9 : decode cX5_forget 9 = .ok (.getfield 58, 3) := by decide +kernel
theorem dX5_forget_12 : decode cX5_forget 12 = .ok (.invokevirtual 172, 3) := by decide +kernel
theorem dX5_forget_15 : decode cX5_forget 15 = .ok (.iload_n 1, 1) := by decide +kernel
theorem dX5_forget_16 : decode cX5_forget 16 = .ok (.ireturn, 1) := by decide +kernel
theorem dX5_unseen_0 : decode cX5_unseen 0 = .ok (.aload_n 0, 1) := by decide +kernel
theorem dX5_unseen_1 : decode cX5_unseen 1 = .ok (.getfield 58, 3) := by decide +kernel
theorem dX5_unseen_4 : decode cX5_unseen 4 = .ok (.invokevirtual 173, 3) := by decide +kernel
theorem dX5_unseen_7 : decode cX5_unseen 7 = .ok (.ireturn, 1) := by decide +kernel
theorem dX5_ask_0 : decode cX5_ask 0 = .ok (.iload_n 1, 1) := by decide +kernel
theorem dX5_ask_1 : decode cX5_ask 1 = .ok (.invokestatic 150, 3) := by decide +kernel
theorem dX5_ask_4 : decode cX5_ask 4 = .ok (.ifCond .ne 5, 3) := by decide +kernel
theorem dX5_ask_7 : decode cX5_ask 7 = .ok (.iconst (-1), 1) := by decide +kernel
theorem dX5_ask_8 : decode cX5_ask 8 = .ok (.ireturn, 1) := by decide +kernel
theorem dX5_ask_9 : decode cX5_ask 9 = .ok (.iload_n 1, 1) := by decide +kernel
theorem dX5_ask_10 : decode cX5_ask 10 = .ok (.aload_n 0, 1) := by decide +kernel
theorem dX5_ask_11 : decode cX5_ask 11 = .ok (.getfield 58, 3) := by decide +kernel
theorem dX5_ask_14 : decode cX5_ask 14 = .ok (.invokevirtual 173, 3) := by decide +kernel
theorem dX5_ask_17 : decode cX5_ask 17 = .ok (.invokestatic 176, 3) := by decide +kernel
theorem dX5_ask_20 : decode cX5_ask 20 = .ok (.ireturn, 1) := by decide +kernel
theorem dX5_keep_0 : decode cX5_keep 0 = .ok (.iload_n 1, 1) := by decide +kernel
theorem dX5_keep_1 : decode cX5_keep 1 = .ok (.ifCond .lt 8, 3) := by decide +kernel
theorem dX5_keep_4 : decode cX5_keep 4 = .ok (.iload_n 1, 1) := by decide +kernel
theorem dX5_keep_5 : decode cX5_keep 5 = .ok (.iconst 2, 1) := by decide +kernel
theorem dX5_keep_6 : decode cX5_keep 6 = .ok (.if_icmp .lt 5, 3) := by decide +kernel
theorem dX5_keep_9 : decode cX5_keep 9 = .ok (.iconst (-1), 1) := by decide +kernel
theorem dX5_keep_10 : decode cX5_keep 10 = .ok (.ireturn, 1) := by decide +kernel
theorem dX5_keep_11 : decode cX5_keep 11 = .ok (.aload_n 0, 1) := by decide +kernel
theorem dX5_keep_12 : decode cX5_keep 12 = .ok (.getfield 40, 3) := by decide +kernel
theorem dX5_keep_15 : decode cX5_keep 15 = .ok (.iload_n 1, 1) := by decide +kernel
theorem dX5_keep_16 : decode cX5_keep 16 = .ok (.aaload, 1) := by decide +kernel
theorem dX5_keep_17 : decode cX5_keep 17 = .ok (.aload_n 0, 1) := by decide +kernel
theorem dX5_keep_18 : decode cX5_keep 18 = .ok (.getfield 19, 3) := by decide +kernel
theorem dX5_keep_21 : decode cX5_keep 21 = .ok (.invokevirtual 88, 3) := by decide +kernel
theorem dX5_keep_24 : decode cX5_keep 24 = .ok (.aload_n 0, 1) := by decide +kernel
theorem dX5_keep_25 : decode cX5_keep 25 = .ok (.getfield 44, 3) := by decide +kernel
theorem dX5_keep_28 : decode cX5_keep 28 = .ok (.iload_n 1, 1) := by decide +kernel
theorem dX5_keep_29 : decode cX5_keep 29 = .ok (.iconst 1, 1) := by decide +kernel
theorem dX5_keep_30 : decode cX5_keep 30 = .ok (.bastore, 1) := by decide +kernel
theorem dX5_keep_31 : decode cX5_keep 31 = .ok (.aload_n 0, 1) := by decide +kernel
theorem dX5_keep_32 : decode cX5_keep 32 = .ok (.getfield 19, 3) := by decide +kernel
theorem dX5_keep_35 : decode cX5_keep 35 = .ok (.invokevirtual 130, 3) := by decide +kernel
theorem dX5_keep_38 : decode cX5_keep 38 = .ok (.ireturn, 1) := by decide +kernel
theorem dX5_back_0 : decode cX5_back 0 = .ok (.iload_n 1, 1) := by decide +kernel
theorem dX5_back_1 : decode cX5_back 1 = .ok (.ifCond .lt 8, 3) := by decide +kernel
theorem dX5_back_4 : decode cX5_back 4 = .ok (.iload_n 1, 1) := by decide +kernel
theorem dX5_back_5 : decode cX5_back 5 = .ok (.iconst 2, 1) := by decide +kernel
theorem dX5_back_6 : decode cX5_back 6 = .ok (.if_icmp .lt 5, 3) := by decide +kernel
theorem dX5_back_9 : decode cX5_back 9 = .ok (.iconst (-1), 1) := by decide +kernel
theorem dX5_back_10 : decode cX5_back 10 = .ok (.ireturn, 1) := by decide +kernel
theorem dX5_back_11 : decode cX5_back 11 = .ok (.aload_n 0, 1) := by decide +kernel
theorem dX5_back_12 : decode cX5_back 12 = .ok (.getfield 44, 3) := by decide +kernel
theorem dX5_back_15 : decode cX5_back 15 = .ok (.iload_n 1, 1) := by decide +kernel
theorem dX5_back_16 : decode cX5_back 16 = .ok (.baload, 1) := by decide +kernel
theorem dX5_back_17 : decode cX5_back 17 = .ok (.ifCond .ne 6, 3) := by decide +kernel
theorem dX5_back_20 : decode cX5_back 20 = .ok (.bipush (-2), 2) := by decide +kernel
theorem dX5_back_22 : decode cX5_back 22 = .ok (.ireturn, 1) := by decide +kernel
theorem dX5_back_23 : decode cX5_back 23 = .ok (.aload_n 0, 1) := by decide +kernel
theorem dX5_back_24 : decode cX5_back 24 = .ok (.getfield 19, 3) := by decide +kernel
theorem dX5_back_27 : decode cX5_back 27 = .ok (.aload_n 0, 1) := by decide +kernel
theorem dX5_back_28 : decode cX5_back 28 = .ok (.getfield 40, 3) := by decide +kernel
theorem dX5_back_31 : decode cX5_back 31 = .ok (.iload_n 1, 1) := by decide +kernel
theorem dX5_back_32 : decode cX5_back 32 = .ok (.aaload, 1) := by decide +kernel
theorem dX5_back_33 : decode cX5_back 33 = .ok (.invokevirtual 88, 3) := by decide +kernel
theorem dX5_back_36 : decode cX5_back 36 = .ok (.aload_n 0, 1) := by decide +kernel
theorem dX5_back_37 : decode cX5_back 37 = .ok (.getfield 36, 3) := by decide +kernel
theorem dX5_back_40 : decode cX5_back 40 = .ok (.invokevirtual 179, 3) := by decide +kernel
theorem dX5_back_43 : decode cX5_back 43 = .ok (.aload_n 0, 1) := by decide +kernel
theorem dX5_back_44 : decode cX5_back 44 = .ok (.getfield 19, 3) := by decide +kernel
theorem dX5_back_47 : decode cX5_back 47 = .ok (.invokevirtual 130, 3) := by decide +kernel
theorem dX5_back_50 : decode cX5_back 50 = .ok (.ireturn, 1) := by decide +kernel
theorem dX5_count_0 : decode cX5_count 0 = .ok (.iload_n 1, 1) := by decide +kernel
theorem dX5_count_1 : decode cX5_count 1 = .ok (.tableswitch 102 0 6 #[43, 48, 53, 61, 78, 86, 94], 43) := by decide +kernel
theorem dX5_count_44 : decode cX5_count 44 = .ok (.aload_n 0, 1) := by decide +kernel
theorem dX5_count_45 : decode cX5_count 45 = .ok (.getfield 9, 3) := by decide +kernel
theorem dX5_count_48 : decode cX5_count 48 = .ok (.ireturn, 1) := by decide +kernel
theorem dX5_count_49 : decode cX5_count 49 = .ok (.aload_n 0, 1) := by decide +kernel
theorem dX5_count_50 : decode cX5_count 50 = .ok (.getfield 13, 3) := by decide +kernel
theorem dX5_count_53 : decode cX5_count 53 = .ok (.ireturn, 1) := by decide +kernel
theorem dX5_count_54 : decode cX5_count 54 = .ok (.aload_n 0, 1) := by decide +kernel
theorem dX5_count_55 : decode cX5_count 55 = .ok (.getfield 19, 3) := by decide +kernel
theorem dX5_count_58 : decode cX5_count 58 = .ok (.invokevirtual 130, 3) := by decide +kernel
theorem dX5_count_61 : decode cX5_count 61 = .ok (.ireturn, 1) := by decide +kernel
theorem dX5_count_62 : decode cX5_count 62 = .ok (.aload_n 0, 1) := by decide +kernel
theorem dX5_count_63 : decode cX5_count 63 = .ok (.getfield 19, 3) := by decide +kernel
theorem dX5_count_66 : decode cX5_count 66 = .ok (.aload_n 0, 1) := by decide +kernel
theorem dX5_count_67 : decode cX5_count 67 = .ok (.getfield 19, 3) := by decide +kernel
theorem dX5_count_70 : decode cX5_count 70 = .ok (.invokevirtual 130, 3) := by decide +kernel
theorem dX5_count_73 : decode cX5_count 73 = .ok (.iconst 1, 1) := by decide +kernel
theorem dX5_count_74 : decode cX5_count 74 = .ok (.isub, 1) := by decide +kernel
theorem dX5_count_75 : decode cX5_count 75 = .ok (.invokevirtual 96, 3) := by decide +kernel
theorem dX5_count_78 : decode cX5_count 78 = .ok (.ireturn, 1) := by decide +kernel
theorem dX5_count_79 : decode cX5_count 79 = .ok (.aload_n 0, 1) := by decide +kernel
theorem dX5_count_80 : decode cX5_count 80 = .ok (.getfield 58, 3) := by decide +kernel
theorem dX5_count_83 : decode cX5_count 83 = .ok (.invokevirtual 171, 3) := by decide +kernel
theorem dX5_count_86 : decode cX5_count 86 = .ok (.ireturn, 1) := by decide +kernel
theorem dX5_count_87 : decode cX5_count 87 = .ok (.aload_n 0, 1) := by decide +kernel
theorem dX5_count_88 : decode cX5_count 88 = .ok (.getfield 29, 3) := by decide +kernel
theorem dX5_count_91 : decode cX5_count 91 = .ok (.invokevirtual 66, 3) := by decide +kernel
theorem dX5_count_94 : decode cX5_count 94 = .ok (.ireturn, 1) := by decide +kernel
theorem dX5_count_95 : decode cX5_count 95 = .ok (.aload_n 0, 1) := by decide +kernel
theorem dX5_count_96 : decode cX5_count 96 = .ok (.getfield 36, 3) := by decide +kernel
theorem dX5_count_99 : decode cX5_count 99 = .ok (.invokevirtual 125, 3) := by decide +kernel
theorem dX5_count_102 : decode cX5_count 102 = .ok (.ireturn, 1) := by decide +kernel
theorem dX5_count_103 : decode cX5_count 103 = .ok (.iconst (-1), 1) := by decide +kernel
theorem dX5_count_104 : decode cX5_count 104 = .ok (.ireturn, 1) := by decide +kernel
theorem dX5_isLength_0 : decode cX5_isLength 0 = .ok (.iload_n 0, 1) := by decide +kernel
theorem dX5_isLength_1 : decode cX5_isLength 1 = .ok (.iconst 1, 1) := by decide +kernel
theorem dX5_isLength_2 : decode cX5_isLength 2 = .ok (.if_icmp .lt 12, 3) := by decide +kernel
theorem dX5_isLength_5 : decode cX5_isLength 5 = .ok (.iload_n 0, 1) := by decide +kernel
theorem dX5_isLength_6 : decode cX5_isLength 6 = .ok (.iconst 5, 1) := by decide +kernel
theorem dX5_isLength_7 : decode cX5_isLength 7 = .ok (.if_icmp .gt 7, 3) := by decide +kernel
theorem dX5_isLength_10 : decode cX5_isLength 10 = .ok (.iconst 1, 1) := by decide +kernel
theorem dX5_isLength_11 : decode cX5_isLength 11 = .ok (.goto 4, 3) := by decide +kernel
theorem dX5_isLength_14 : decode cX5_isLength 14 = .ok (.iconst 0, 1) := by decide +kernel
theorem dX5_isLength_15 : decode cX5_isLength 15 = .ok (.ireturn, 1) := by decide +kernel
theorem dX5_isBound_0 : decode cX5_isBound 0 = .ok (.iload_n 0, 1) := by decide +kernel
theorem dX5_isBound_1 : decode cX5_isBound 1 = .ok (.iconst 1, 1) := by decide +kernel
theorem dX5_isBound_2 : decode cX5_isBound 2 = .ok (.if_icmp .lt 13, 3) := by decide +kernel
theorem dX5_isBound_5 : decode cX5_isBound 5 = .ok (.iload_n 0, 1) := by decide +kernel
theorem dX5_isBound_6 : decode cX5_isBound 6 = .ok (.bipush 60, 2) := by decide +kernel
theorem dX5_isBound_8 : decode cX5_isBound 8 = .ok (.if_icmp .gt 7, 3) := by decide +kernel
theorem dX5_isBound_11 : decode cX5_isBound 11 = .ok (.iconst 1, 1) := by decide +kernel
theorem dX5_isBound_12 : decode cX5_isBound 12 = .ok (.goto 4, 3) := by decide +kernel
theorem dX5_isBound_15 : decode cX5_isBound 15 = .ok (.iconst 0, 1) := by decide +kernel
theorem dX5_isBound_16 : decode cX5_isBound 16 = .ok (.ireturn, 1) := by decide +kernel
theorem dX5_isNumerator_0 : decode cX5_isNumerator 0 = .ok (.iload_n 0, 1) := by decide +kernel
theorem dX5_isNumerator_1 : decode cX5_isNumerator 1 = .ok (.iconst 2, 1) := by decide +kernel
theorem dX5_isNumerator_2 : decode cX5_isNumerator 2 = .ok (.if_icmp .lt 13, 3) := by decide +kernel
theorem dX5_isNumerator_5 : decode cX5_isNumerator 5 = .ok (.iload_n 0, 1) := by decide +kernel
theorem dX5_isNumerator_6 : decode cX5_isNumerator 6 = .ok (.bipush 7, 2) := by decide +kernel
theorem dX5_isNumerator_8 : decode cX5_isNumerator 8 = .ok (.if_icmp .gt 7, 3) := by decide +kernel
theorem dX5_isNumerator_11 : decode cX5_isNumerator 11 = .ok (.iconst 1, 1) := by decide +kernel
theorem dX5_isNumerator_12 : decode cX5_isNumerator 12 = .ok (.goto 4, 3) := by decide +kernel
theorem dX5_isNumerator_15 : decode cX5_isNumerator 15 = .ok (.iconst 0, 1) := by decide +kernel
theorem dX5_isNumerator_16 : decode cX5_isNumerator 16 = .ok (.ireturn, 1) := by decide +kernel
theorem dX5_isChoice_0 : decode cX5_isChoice 0 = .ok (.iload_n 0, 1) := by decide +kernel
theorem dX5_isChoice_1 : decode cX5_isChoice 1 = .ok (.ifCond .lt 13, 3) := by decide +kernel
theorem dX5_isChoice_4 : decode cX5_isChoice 4 = .ok (.iload_n 0, 1) := by decide +kernel
theorem dX5_isChoice_5 : decode cX5_isChoice 5 = .ok (.bipush 31, 2) := by decide +kernel
theorem dX5_isChoice_7 : decode cX5_isChoice 7 = .ok (.if_icmp .gt 7, 3) := by decide +kernel
theorem dX5_isChoice_10 : decode cX5_isChoice 10 = .ok (.iconst 1, 1) := by decide +kernel
theorem dX5_isChoice_11 : decode cX5_isChoice 11 = .ok (.goto 4, 3) := by decide +kernel
theorem dX5_isChoice_14 : decode cX5_isChoice 14 = .ok (.iconst 0, 1) := by decide +kernel
theorem dX5_isChoice_15 : decode cX5_isChoice 15 = .ok (.ireturn, 1) := by decide +kernel
theorem dX5_startAnew_0 : decode cX5_startAnew 0 = .ok (.aload_n 0, 1) := by decide +kernel
theorem dX5_startAnew_1 : decode cX5_startAnew 1 = .ok (.aload_n 0, 1) := by decide +kernel
theorem dX5_startAnew_2 : decode cX5_startAnew 2 = .ok (.getfield 29, 3) := by decide +kernel
theorem dX5_startAnew_5 : decode cX5_startAnew 5 = .ok (.invokevirtual 180, 3) := by decide +kernel
theorem dX5_startAnew_8 : decode cX5_startAnew 8 = .ok (.putfield 9, 3) := by decide +kernel
theorem dX5_startAnew_11 : decode cX5_startAnew 11 = .ok (.aload_n 0, 1) := by decide +kernel
theorem dX5_startAnew_12 : decode cX5_startAnew 12 = .ok (.aload_n 0, 1) := by decide +kernel
theorem dX5_startAnew_13 : decode cX5_startAnew 13 = .ok (.getfield 29, 3) := by decide +kernel
theorem dX5_startAnew_16 : decode cX5_startAnew 16 = .ok (.invokevirtual 183, 3) := by decide +kernel
theorem dX5_startAnew_19 : decode cX5_startAnew 19 = .ok (.putfield 13, 3) := by decide +kernel
theorem dX5_startAnew_22 : decode cX5_startAnew 22 = .ok (.aload_n 0, 1) := by decide +kernel
theorem dX5_startAnew_23 : decode cX5_startAnew 23 = .ok (.getfield 19, 3) := by decide +kernel
theorem dX5_startAnew_26 : decode cX5_startAnew 26 = .ok (.aload_n 0, 1) := by decide +kernel
theorem dX5_startAnew_27 : decode cX5_startAnew 27 = .ok (.getfield 29, 3) := by decide +kernel
theorem dX5_startAnew_30 : decode cX5_startAnew 30 = .ok (.invokevirtual 186, 3) := by decide +kernel
theorem dX5_startAnew_33 : decode cX5_startAnew 33 = .ok (.invokevirtual 88, 3) := by decide +kernel
theorem dX5_startAnew_36 : decode cX5_startAnew 36 = .ok (.aload_n 0, 1) := by decide +kernel
theorem dX5_startAnew_37 : decode cX5_startAnew 37 = .ok (.getfield 29, 3) := by decide +kernel
theorem dX5_startAnew_40 : decode cX5_startAnew 40 = .ok (.invokevirtual 70, 3) := by decide +kernel
theorem dX5_startAnew_43 : decode cX5_startAnew 43 = .ok (.aload_n 0, 1) := by decide +kernel
theorem dX5_startAnew_44 : decode cX5_startAnew 44 = .ok (.getfield 36, 3) := by decide +kernel
theorem dX5_startAnew_47 : decode cX5_startAnew 47 = .ok (.invokevirtual 179, 3) := by decide +kernel
theorem dX5_startAnew_50 : decode cX5_startAnew 50 = .ok (.aload_n 0, 1) := by decide +kernel
theorem dX5_startAnew_51 : decode cX5_startAnew 51 = .ok (.getfield 58, 3) := by decide +kernel
theorem dX5_startAnew_54 : decode cX5_startAnew 54 = .ok (.invokevirtual 172, 3) := by decide +kernel
theorem dX5_startAnew_57 : decode cX5_startAnew 57 = .ok (.aload_n 0, 1) := by decide +kernel
theorem dX5_startAnew_58 : decode cX5_startAnew 58 = .ok (.getfield 51, 3) := by decide +kernel
theorem dX5_startAnew_61 : decode cX5_startAnew 61 = .ok (.aload_n 0, 1) := by decide +kernel
theorem dX5_startAnew_62 : decode cX5_startAnew 62 = .ok (.getfield 9, 3) := by decide +kernel
theorem dX5_startAnew_65 : decode cX5_startAnew 65 = .ok (.aload_n 0, 1) := by decide +kernel
theorem dX5_startAnew_66 : decode cX5_startAnew 66 = .ok (.getfield 13, 3) := by decide +kernel
theorem dX5_startAnew_69 : decode cX5_startAnew 69 = .ok (.invokevirtual 190, 3) := by decide +kernel
theorem dX5_startAnew_72 : decode cX5_startAnew 72 = .ok (.iconst 0, 1) := by decide +kernel
theorem dX5_startAnew_73 : decode cX5_startAnew 73 = .ok (.istore_n 1, 1) := by decide +kernel
theorem dX5_startAnew_74 : decode cX5_startAnew 74 = .ok (.iload_n 1, 1) := by decide +kernel
theorem dX5_startAnew_75 : decode cX5_startAnew 75 = .ok (.iconst 2, 1) := by decide +kernel
theorem dX5_startAnew_76 : decode cX5_startAnew 76 = .ok (.if_icmp .ge 16, 3) := by decide +kernel
theorem dX5_startAnew_79 : decode cX5_startAnew 79 = .ok (.aload_n 0, 1) := by decide +kernel
theorem dX5_startAnew_80 : decode cX5_startAnew 80 = .ok (.getfield 44, 3) := by decide +kernel
theorem dX5_startAnew_83 : decode cX5_startAnew 83 = .ok (.iload_n 1, 1) := by decide +kernel
theorem dX5_startAnew_84 : decode cX5_startAnew 84 = .ok (.iconst 0, 1) := by decide +kernel
theorem dX5_startAnew_85 : decode cX5_startAnew 85 = .ok (.bastore, 1) := by decide +kernel
theorem dX5_startAnew_86 : decode cX5_startAnew 86 = .ok (.iinc 1 1, 3) := by decide +kernel
theorem dX5_startAnew_89 : decode cX5_startAnew 89 = .ok (.goto (-15), 3) := by decide +kernel
theorem dX5_startAnew_92 : decode cX5_startAnew 92 = .ok (.return_, 1) := by decide +kernel
theorem dX5_takeDraft_0 : decode cX5_takeDraft 0 = .ok (.aload_n 0, 1) := by decide +kernel
theorem dX5_takeDraft_1 : decode cX5_takeDraft 1 = .ok (.getfield 36, 3) := by decide +kernel
theorem dX5_takeDraft_4 : decode cX5_takeDraft 4 = .ok (.aload_n 0, 1) := by decide +kernel
theorem dX5_takeDraft_5 : decode cX5_takeDraft 5 = .ok (.getfield 19, 3) := by decide +kernel
theorem dX5_takeDraft_8 : decode cX5_takeDraft 8 = .ok (.invokevirtual 194, 3) := by decide +kernel
theorem dX5_takeDraft_11 : decode cX5_takeDraft 11 = .ok (.aload_n 0, 1) := by decide +kernel
theorem dX5_takeDraft_12 : decode cX5_takeDraft 12 = .ok (.getfield 19, 3) := by decide +kernel
theorem dX5_takeDraft_15 : decode cX5_takeDraft 15 = .ok (.aload_n 0, 1) := by decide +kernel
theorem dX5_takeDraft_16 : decode cX5_takeDraft 16 = .ok (.getfield 23, 3) := by decide +kernel
theorem dX5_takeDraft_19 : decode cX5_takeDraft 19 = .ok (.invokevirtual 88, 3) := by decide +kernel
theorem dX5_takeDraft_22 : decode cX5_takeDraft 22 = .ok (.aload_n 0, 1) := by decide +kernel
theorem dX5_takeDraft_23 : decode cX5_takeDraft 23 = .ok (.getfield 19, 3) := by decide +kernel
theorem dX5_takeDraft_26 : decode cX5_takeDraft 26 = .ok (.invokevirtual 130, 3) := by decide +kernel
theorem dX5_takeDraft_29 : decode cX5_takeDraft 29 = .ok (.ireturn, 1) := by decide +kernel
theorem dX5_draftBy_0 : decode cX5_draftBy 0 = .ok (.iload_n 1, 1) := by decide +kernel
theorem dX5_draftBy_1 : decode cX5_draftBy 1 = .ok (.iconst 2, 1) := by decide +kernel
theorem dX5_draftBy_2 : decode cX5_draftBy 2 = .ok (.if_icmp .ge 29, 3) := by decide +kernel
theorem dX5_draftBy_5 : decode cX5_draftBy 5 = .ok (.aload_n 0, 1) := by decide +kernel
theorem dX5_draftBy_6 : decode cX5_draftBy 6 = .ok (.getfield 9, 3) := by decide +kernel
theorem dX5_draftBy_9 : decode cX5_draftBy 9 = .ok (.aload_n 0, 1) := by decide +kernel
theorem dX5_draftBy_10 : decode cX5_draftBy 10 = .ok (.getfield 13, 3) := by decide +kernel
theorem dX5_draftBy_13 : decode cX5_draftBy 13 = .ok (.iload_n 1, 1) := by decide +kernel
theorem dX5_draftBy_14 : decode cX5_draftBy 14 = .ok (.iconst 1, 1) := by decide +kernel
theorem dX5_draftBy_15 : decode cX5_draftBy 15 = .ok (.if_icmp .ne 7, 3) := by decide +kernel
theorem dX5_draftBy_18 : decode cX5_draftBy 18 = .ok (.iconst 1, 1) := by decide +kernel
theorem dX5_draftBy_19 : decode cX5_draftBy 19 = .ok (.goto 4, 3) := by decide +kernel
theorem dX5_draftBy_22 : decode cX5_draftBy 22 = .ok (.iconst 0, 1) := by decide +kernel
theorem dX5_draftBy_23 : decode cX5_draftBy 23 = .ok (.aload_n 0, 1) := by decide +kernel
theorem dX5_draftBy_24 : decode cX5_draftBy 24 = .ok (.getfield 23, 3) := by decide +kernel
theorem dX5_draftBy_27 : decode cX5_draftBy 27 = .ok (.invokestatic 126, 3) := by decide +kernel
theorem dX5_draftBy_30 : decode cX5_draftBy 30 = .ok (.ireturn, 1) := by decide +kernel
theorem dX5_draftBy_31 : decode cX5_draftBy 31 = .ok (.iload_n 1, 1) := by decide +kernel
theorem dX5_draftBy_32 : decode cX5_draftBy 32 = .ok (.iconst 2, 1) := by decide +kernel
theorem dX5_draftBy_33 : decode cX5_draftBy 33 = .ok (.if_icmp .ne 26, 3) := by decide +kernel
theorem dX5_draftBy_36 : decode cX5_draftBy 36 = .ok (.aload_n 0, 1) := by decide +kernel
theorem dX5_draftBy_37 : decode cX5_draftBy 37 = .ok (.getfield 51, 3) := by decide +kernel
theorem dX5_draftBy_40 : decode cX5_draftBy 40 = .ok (.aload_n 0, 1) := by decide +kernel
theorem dX5_draftBy_41 : decode cX5_draftBy 41 = .ok (.getfield 51, 3) := by decide +kernel
theorem dX5_draftBy_44 : decode cX5_draftBy 44 = .ok (.bipush 60, 2) := by decide +kernel
theorem dX5_draftBy_46 : decode cX5_draftBy 46 = .ok (.invokevirtual 144, 3) := by decide +kernel
theorem dX5_draftBy_49 : decode cX5_draftBy 49 = .ok (.bipush 60, 2) := by decide +kernel
theorem dX5_draftBy_51 : decode cX5_draftBy 51 = .ok (.aload_n 0, 1) := by decide +kernel
theorem dX5_draftBy_52 : decode cX5_draftBy 52 = .ok (.getfield 23, 3) := by decide +kernel
theorem dX5_draftBy_55 : decode cX5_draftBy 55 = .ok (.invokevirtual 197, 3) := by decide +kernel
theorem dX5_draftBy_58 : decode cX5_draftBy 58 = .ok (.ireturn, 1) := by decide +kernel
theorem dX5_draftBy_59 : decode cX5_draftBy 59 = .ok (.aload_n 0, 1) := by decide +kernel
theorem dX5_draftBy_60 : decode cX5_draftBy 60 = .ok (.getfield 51, 3) := by decide +kernel
theorem dX5_draftBy_63 : decode cX5_draftBy 63 = .ok (.invokevirtual 201, 3) := by decide +kernel
theorem dX5_draftBy_66 : decode cX5_draftBy 66 = .ok (.istore_n 2, 1) := by decide +kernel
theorem dX5_draftBy_67 : decode cX5_draftBy 67 = .ok (.aload_n 0, 1) := by decide +kernel
theorem dX5_draftBy_68 : decode cX5_draftBy 68 = .ok (.getfield 51, 3) := by decide +kernel
theorem dX5_draftBy_71 : decode cX5_draftBy 71 = .ok (.iload_n 2, 1) := by decide +kernel
theorem dX5_draftBy_72 : decode cX5_draftBy 72 = .ok (.aload_n 0, 1) := by decide +kernel
theorem dX5_draftBy_73 : decode cX5_draftBy 73 = .ok (.getfield 51, 3) := by decide +kernel
theorem dX5_draftBy_76 : decode cX5_draftBy 76 = .ok (.iload_n 2, 1) := by decide +kernel
theorem dX5_draftBy_77 : decode cX5_draftBy 77 = .ok (.invokevirtual 147, 3) := by decide +kernel
theorem dX5_draftBy_80 : decode cX5_draftBy 80 = .ok (.aload_n 0, 1) := by decide +kernel
theorem dX5_draftBy_81 : decode cX5_draftBy 81 = .ok (.getfield 23, 3) := by decide +kernel
theorem dX5_draftBy_84 : decode cX5_draftBy 84 = .ok (.invokevirtual 197, 3) := by decide +kernel
theorem dX5_draftBy_87 : decode cX5_draftBy 87 = .ok (.ireturn, 1) := by decide +kernel
theorem dX5_splitInto_0 : decode cX5_splitInto 0 = .ok (.iload_n 3, 1) := by decide +kernel
theorem dX5_splitInto_1 : decode cX5_splitInto 1 = .ok (.tableswitch 189 0 3 #[31, 59, 103, 147], 31) := by decide +kernel
theorem dX5_splitInto_32 : decode cX5_splitInto 32 = .ok (.aload_n 0, 1) := by decide +kernel
theorem dX5_splitInto_33 : decode cX5_splitInto 33 = .ok (.lload_n 1, 1) := by decide +kernel
theorem dX5_splitInto_34 : decode cX5_splitInto 34 = .ok (.lconst 1, 1) := by decide +kernel
theorem dX5_splitInto_35 : decode cX5_splitInto 35 = .ok (.ladd, 1) := by decide +kernel
theorem dX5_splitInto_36 : decode cX5_splitInto 36 = .ok (.invokevirtual 117, 3) := by decide +kernel
theorem dX5_splitInto_39 : decode cX5_splitInto 39 = .ok (.ifCond .eq 19, 3) := by decide +kernel
theorem dX5_splitInto_42 : decode cX5_splitInto 42 = .ok (.aload_n 0, 1) := by decide +kernel
theorem dX5_splitInto_43 : decode cX5_splitInto 43 = .ok (.lload_n 1, 1) := by decide +kernel
theorem dX5_splitInto_44 : decode cX5_splitInto 44 = .ok (.lload_n 1, 1) := by decide +kernel
theorem dX5_splitInto_45 : decode cX5_splitInto 45 = .ok (.lconst 1, 1) := by decide +kernel
theorem dX5_splitInto_46 : decode cX5_splitInto 46 = .ok (.ladd, 1) := by decide +kernel
theorem dX5_splitInto_47 : decode cX5_splitInto 47 = .ok (.lmul, 1) := by decide +kernel
theorem dX5_splitInto_48 : decode cX5_splitInto 48 = .ok (.invokevirtual 117, 3) := by decide +kernel
theorem dX5_splitInto_51 : decode cX5_splitInto 51 = .ok (.ifCond .eq 7, 3) := by decide +kernel
theorem dX5_splitInto_54 : decode cX5_splitInto 54 = .ok (.iconst 1, 1) := by decide +kernel
theorem dX5_splitInto_55 : decode cX5_splitInto 55 = .ok (.goto 4, 3) := by decide +kernel
theorem dX5_splitInto_58 : decode cX5_splitInto 58 = .ok (.iconst 0, 1) := by decide +kernel
theorem dX5_splitInto_59 : decode cX5_splitInto 59 = .ok (.ireturn, 1) := by decide +kernel
theorem dX5_splitInto_60 : decode cX5_splitInto 60 = .ok (.lload_n 1, 1) := by decide +kernel
theorem dX5_splitInto_61 : decode cX5_splitInto 61 = .ok (.ldc2_w 204, 3) := by decide +kernel
theorem dX5_splitInto_64 : decode cX5_splitInto 64 = .ok (.lrem, 1) := by decide +kernel
theorem dX5_splitInto_65 : decode cX5_splitInto 65 = .ok (.lconst 0, 1) := by decide +kernel
theorem dX5_splitInto_66 : decode cX5_splitInto 66 = .ok (.lcmp, 1) := by decide +kernel
theorem dX5_splitInto_67 : decode cX5_splitInto 67 = .ok (.ifCond .ne 35, 3) := by decide +kernel
theorem dX5_splitInto_70 : decode cX5_splitInto 70 = .ok (.aload_n 0, 1) := by decide +kernel
theorem dX5_splitInto_71 : decode cX5_splitInto 71 = .ok (.lload_n 1, 1) := by decide +kernel
theorem dX5_splitInto_72 : decode cX5_splitInto 72 = .ok (.ldc2_w 204, 3) := by decide +kernel
theorem dX5_splitInto_75 : decode cX5_splitInto 75 = .ok (.ldiv, 1) := by decide +kernel
theorem dX5_splitInto_76 : decode cX5_splitInto 76 = .ok (.ldc2_w 206, 3) := by decide +kernel
theorem dX5_splitInto_79 : decode cX5_splitInto 79 = .ok (.lmul, 1) := by decide +kernel
theorem dX5_splitInto_80 : decode cX5_splitInto 80 = .ok (.invokevirtual 117, 3) := by decide +kernel
theorem dX5_splitInto_83 : decode cX5_splitInto 83 = .ok (.ifCond .eq 19, 3) := by decide +kernel
theorem dX5_splitInto_86 : decode cX5_splitInto 86 = .ok (.aload_n 0, 1) := by decide +kernel
theorem dX5_splitInto_87 : decode cX5_splitInto 87 = .ok (.lload_n 1, 1) := by decide +kernel
theorem dX5_splitInto_88 : decode cX5_splitInto 88 = .ok (.ldc2_w 206, 3) := by decide +kernel
theorem dX5_splitInto_91 : decode cX5_splitInto 91 = .ok (.lmul, 1) := by decide +kernel
theorem dX5_splitInto_92 : decode cX5_splitInto 92 = .ok (.invokevirtual 117, 3) := by decide +kernel
theorem dX5_splitInto_95 : decode cX5_splitInto 95 = .ok (.ifCond .eq 7, 3) := by decide +kernel
theorem dX5_splitInto_98 : decode cX5_splitInto 98 = .ok (.iconst 1, 1) := by decide +kernel
theorem dX5_splitInto_99 : decode cX5_splitInto 99 = .ok (.goto 4, 3) := by decide +kernel
theorem dX5_splitInto_102 : decode cX5_splitInto 102 = .ok (.iconst 0, 1) := by decide +kernel
theorem dX5_splitInto_103 : decode cX5_splitInto 103 = .ok (.ireturn, 1) := by decide +kernel
theorem dX5_splitInto_104 : decode cX5_splitInto 104 = .ok (.lload_n 1, 1) := by decide +kernel
theorem dX5_splitInto_105 : decode cX5_splitInto 105 = .ok (.ldc2_w 206, 3) := by decide +kernel
theorem dX5_splitInto_108 : decode cX5_splitInto 108 = .ok (.lrem, 1) := by decide +kernel
theorem dX5_splitInto_109 : decode cX5_splitInto 109 = .ok (.lconst 0, 1) := by decide +kernel
theorem dX5_splitInto_110 : decode cX5_splitInto 110 = .ok (.lcmp, 1) := by decide +kernel
theorem dX5_splitInto_111 : decode cX5_splitInto 111 = .ok (.ifCond .ne 35, 3) := by decide +kernel
theorem dX5_splitInto_114 : decode cX5_splitInto 114 = .ok (.aload_n 0, 1) := by decide +kernel
theorem dX5_splitInto_115 : decode cX5_splitInto 115 = .ok (.lload_n 1, 1) := by decide +kernel
theorem dX5_splitInto_116 : decode cX5_splitInto 116 = .ok (.ldc2_w 206, 3) := by decide +kernel
theorem dX5_splitInto_119 : decode cX5_splitInto 119 = .ok (.ldiv, 1) := by decide +kernel
theorem dX5_splitInto_120 : decode cX5_splitInto 120 = .ok (.ldc2_w 208, 3) := by decide +kernel
theorem dX5_splitInto_123 : decode cX5_splitInto 123 = .ok (.lmul, 1) := by decide +kernel
theorem dX5_splitInto_124 : decode cX5_splitInto 124 = .ok (.invokevirtual 117, 3) := by decide +kernel
theorem dX5_splitInto_127 : decode cX5_splitInto 127 = .ok (.ifCond .eq 19, 3) := by decide +kernel
theorem dX5_splitInto_130 : decode cX5_splitInto 130 = .ok (.aload_n 0, 1) := by decide +kernel
theorem dX5_splitInto_131 : decode cX5_splitInto 131 = .ok (.lload_n 1, 1) := by decide +kernel
theorem dX5_splitInto_132 : decode cX5_splitInto 132 = .ok (.ldc2_w 208, 3) := by decide +kernel
theorem dX5_splitInto_135 : decode cX5_splitInto 135 = .ok (.lmul, 1) := by decide +kernel
theorem dX5_splitInto_136 : decode cX5_splitInto 136 = .ok (.invokevirtual 117, 3) := by decide +kernel
theorem dX5_splitInto_139 : decode cX5_splitInto 139 = .ok (.ifCond .eq 7, 3) := by decide +kernel
theorem dX5_splitInto_142 : decode cX5_splitInto 142 = .ok (.iconst 1, 1) := by decide +kernel
theorem dX5_splitInto_143 : decode cX5_splitInto 143 = .ok (.goto 4, 3) := by decide +kernel
theorem dX5_splitInto_146 : decode cX5_splitInto 146 = .ok (.iconst 0, 1) := by decide +kernel
theorem dX5_splitInto_147 : decode cX5_splitInto 147 = .ok (.ireturn, 1) := by decide +kernel
theorem dX5_splitInto_148 : decode cX5_splitInto 148 = .ok (.aload_n 0, 1) := by decide +kernel
theorem dX5_splitInto_149 : decode cX5_splitInto 149 = .ok (.lload_n 1, 1) := by decide +kernel
theorem dX5_splitInto_150 : decode cX5_splitInto 150 = .ok (.ldc2_w 204, 3) := by decide +kernel
theorem dX5_splitInto_153 : decode cX5_splitInto 153 = .ok (.lmul, 1) := by decide +kernel
theorem dX5_splitInto_154 : decode cX5_splitInto 154 = .ok (.invokevirtual 117, 3) := by decide +kernel
theorem dX5_splitInto_157 : decode cX5_splitInto 157 = .ok (.ifCond .eq 31, 3) := by decide +kernel
theorem dX5_splitInto_160 : decode cX5_splitInto 160 = .ok (.aload_n 0, 1) := by decide +kernel
theorem dX5_splitInto_161 : decode cX5_splitInto 161 = .ok (.lload_n 1, 1) := by decide +kernel
theorem dX5_splitInto_162 : decode cX5_splitInto 162 = .ok (.ldc2_w 206, 3) := by decide +kernel
theorem dX5_splitInto_165 : decode cX5_splitInto 165 = .ok (.lmul, 1) := by decide +kernel
theorem dX5_splitInto_166 : decode cX5_splitInto 166 = .ok (.invokevirtual 117, 3) := by decide +kernel
theorem dX5_splitInto_169 : decode cX5_splitInto 169 = .ok (.ifCond .eq 19, 3) := by decide +kernel
theorem dX5_splitInto_172 : decode cX5_splitInto 172 = .ok (.aload_n 0, 1) := by decide +kernel
theorem dX5_splitInto_173 : decode cX5_splitInto 173 = .ok (.lload_n 1, 1) := by decide +kernel
theorem dX5_splitInto_174 : decode cX5_splitInto 174 = .ok (.ldc2_w 210, 3) := by decide +kernel
theorem dX5_splitInto_177 : decode cX5_splitInto 177 = .ok (.lmul, 1) := by decide +kernel
theorem dX5_splitInto_178 : decode cX5_splitInto 178 = .ok (.invokevirtual 117, 3) := by decide +kernel
theorem dX5_splitInto_181 : decode cX5_splitInto 181 = .ok (.ifCond .eq 7, 3) := by decide +kernel
theorem dX5_splitInto_184 : decode cX5_splitInto 184 = .ok (.iconst 1, 1) := by decide +kernel
theorem dX5_splitInto_185 : decode cX5_splitInto 185 = .ok (.goto 4, 3) := by decide +kernel
theorem dX5_splitInto_188 : decode cX5_splitInto 188 = .ok (.iconst 0, 1) := by decide +kernel
theorem dX5_splitInto_189 : decode cX5_splitInto 189 = .ok (.ireturn, 1) := by decide +kernel
theorem dX5_splitInto_190 : decode cX5_splitInto 190 = .ok (.iconst 0, 1) := by decide +kernel
theorem dX5_splitInto_191 : decode cX5_splitInto 191 = .ok (.ireturn, 1) := by decide +kernel
theorem dX5_oneForTwo_0 : decode cX5_oneForTwo 0 = .ok (.lload_n 0, 1) := by decide +kernel
theorem dX5_oneForTwo_1 : decode cX5_oneForTwo 1 = .ok (.lload_n 2, 1) := by decide +kernel
theorem dX5_oneForTwo_2 : decode cX5_oneForTwo 2 = .ok (.ladd, 1) := by decide +kernel
theorem dX5_oneForTwo_3 : decode cX5_oneForTwo 3 = .ok (.lstore 4, 2) := by decide +kernel
theorem dX5_oneForTwo_5 : decode cX5_oneForTwo 5 = .ok (.lload 4, 2) := by decide +kernel
theorem dX5_oneForTwo_7 : decode cX5_oneForTwo 7 = .ok (.lconst 0, 1) := by decide +kernel
theorem dX5_oneForTwo_8 : decode cX5_oneForTwo 8 = .ok (.lcmp, 1) := by decide +kernel
theorem dX5_oneForTwo_9 : decode cX5_oneForTwo 9 = .ok (.ifCond .le 14, 3) := by decide +kernel
theorem dX5_oneForTwo_12 : decode cX5_oneForTwo 12 = .ok (.lload_n 0, 1) := by decide +kernel
theorem dX5_oneForTwo_13 : decode cX5_oneForTwo 13 = .ok (.lload_n 2, 1) := by decide +kernel
theorem dX5_oneForTwo_14 : decode cX5_oneForTwo 14 = .ok (.lmul, 1) := by decide +kernel
theorem dX5_oneForTwo_15 : decode cX5_oneForTwo 15 = .ok (.lload 4, 2) := by decide +kernel
theorem dX5_oneForTwo_17 : decode cX5_oneForTwo 17 = .ok (.lrem, 1) := by decide +kernel
theorem dX5_oneForTwo_18 : decode cX5_oneForTwo 18 = .ok (.lconst 0, 1) := by decide +kernel
theorem dX5_oneForTwo_19 : decode cX5_oneForTwo 19 = .ok (.lcmp, 1) := by decide +kernel
theorem dX5_oneForTwo_20 : decode cX5_oneForTwo 20 = .ok (.ifCond .eq 6, 3) := by decide +kernel
theorem dX5_oneForTwo_23 : decode cX5_oneForTwo 23 = .ok (.bipush (-9), 2) := by decide +kernel
theorem dX5_oneForTwo_25 : decode cX5_oneForTwo 25 = .ok (.ireturn, 1) := by decide +kernel
theorem dX5_oneForTwo_26 : decode cX5_oneForTwo 26 = .ok (.lload_n 0, 1) := by decide +kernel
theorem dX5_oneForTwo_27 : decode cX5_oneForTwo 27 = .ok (.lload_n 2, 1) := by decide +kernel
theorem dX5_oneForTwo_28 : decode cX5_oneForTwo 28 = .ok (.lmul, 1) := by decide +kernel
theorem dX5_oneForTwo_29 : decode cX5_oneForTwo 29 = .ok (.lload 4, 2) := by decide +kernel
theorem dX5_oneForTwo_31 : decode cX5_oneForTwo 31 = .ok (.ldiv, 1) := by decide +kernel
theorem dX5_oneForTwo_32 : decode cX5_oneForTwo 32 = .ok (.l2i, 1) := by decide +kernel
theorem dX5_oneForTwo_33 : decode cX5_oneForTwo 33 = .ok (.ireturn, 1) := by decide +kernel
theorem dX5_takeGreedily_0 : decode cX5_takeGreedily 0 = .ok (.aload_n 3, 1) := by decide +kernel
theorem dX5_takeGreedily_1 : decode cX5_takeGreedily 1 = .ok (.invokevirtual 212, 3) := by decide +kernel
theorem dX5_takeGreedily_4 : decode cX5_takeGreedily 4 = .ok (.iload_n 0, 1) := by decide +kernel
theorem dX5_takeGreedily_5 : decode cX5_takeGreedily 5 = .ok (.i2l, 1) := by decide +kernel
theorem dX5_takeGreedily_6 : decode cX5_takeGreedily 6 = .ok (.lstore 4, 2) := by decide +kernel
theorem dX5_takeGreedily_8 : decode cX5_takeGreedily 8 = .ok (.iload_n 1, 1) := by decide +kernel
theorem dX5_takeGreedily_9 : decode cX5_takeGreedily 9 = .ok (.i2l, 1) := by decide +kernel
theorem dX5_takeGreedily_10 : decode cX5_takeGreedily 10 = .ok (.lstore 6, 2) := by decide +kernel
theorem dX5_takeGreedily_12 : decode cX5_takeGreedily 12 = .ok (.lconst 0, 1) := by decide +kernel
theorem dX5_takeGreedily_13 : decode cX5_takeGreedily 13 = .ok (.lstore 8, 2) := by decide +kernel
theorem dX5_takeGreedily_15 : decode cX5_takeGreedily 15 = .ok (.iconst 0, 1) := by decide +kernel
theorem dX5_takeGreedily_16 : decode cX5_takeGreedily 16 = .ok (.istore 10, 2) := by decide +kernel
theorem dX5_takeGreedily_18 : decode cX5_takeGreedily 18 = .ok (.iload 10, 2) := by decide +kernel
theorem dX5_takeGreedily_20 : decode cX5_takeGreedily 20 = .ok (.bipush 8, 2) := by decide +kernel
theorem dX5_takeGreedily_22 : decode cX5_takeGreedily 22 = .ok (.if_icmp .ge 107, 3) := by decide +kernel
theorem dX5_takeGreedily_25 : decode cX5_takeGreedily 25 = .ok (.lload 4, 2) := by decide +kernel
theorem dX5_takeGreedily_27 : decode cX5_takeGreedily 27 = .ok (.lconst 0, 1) := by decide +kernel
theorem dX5_takeGreedily_28 : decode cX5_takeGreedily 28 = .ok (.lcmp, 1) := by decide +kernel
theorem dX5_takeGreedily_29 : decode cX5_takeGreedily 29 = .ok (.ifCond .le 100, 3) := by decide +kernel
theorem dX5_takeGreedily_32 : decode cX5_takeGreedily 32 = .ok (.lload 8, 2) := by decide +kernel
theorem dX5_takeGreedily_34 : decode cX5_takeGreedily 34 = .ok (.lconst 1, 1) := by decide +kernel
theorem dX5_takeGreedily_35 : decode cX5_takeGreedily 35 = .ok (.ladd, 1) := by decide +kernel
theorem dX5_takeGreedily_36 : decode cX5_takeGreedily 36 = .ok (.lload 6, 2) := by decide +kernel
theorem dX5_takeGreedily_38 : decode cX5_takeGreedily 38 = .ok (.lload 4, 2) := by decide +kernel
theorem dX5_takeGreedily_40 : decode cX5_takeGreedily 40 = .ok (.ladd, 1) := by decide +kernel
theorem dX5_takeGreedily_41 : decode cX5_takeGreedily 41 = .ok (.lconst 1, 1) := by decide +kernel
theorem dX5_takeGreedily_42 : decode cX5_takeGreedily 42 = .ok (.lsub, 1) := by decide +kernel
theorem dX5_takeGreedily_43 : decode cX5_takeGreedily 43 = .ok (.lload 4, 2) := by decide +kernel
theorem dX5_takeGreedily_45 : decode cX5_takeGreedily 45 = .ok (.ldiv, 1) := by decide +kernel
theorem dX5_takeGreedily_46 : decode cX5_takeGreedily 46 = .ok (.invokestatic 213, 3) := by decide +kernel
theorem dX5_takeGreedily_49 : decode cX5_takeGreedily 49 = .ok (.lstore 8, 2) := by decide +kernel
theorem dX5_takeGreedily_51 : decode cX5_takeGreedily 51 = .ok (.iload_n 2, 1) := by decide +kernel
theorem dX5_takeGreedily_52 : decode cX5_takeGreedily 52 = .ok (.ifCond .eq 20, 3) := by decide +kernel
theorem dX5_takeGreedily_55 : decode cX5_takeGreedily 55 = .ok (.lload 8, 2) := by decide +kernel
theorem dX5_takeGreedily_57 : decode cX5_takeGreedily 57 = .ok (.ldc2_w 204, 3) := by decide +kernel
theorem dX5_takeGreedily_60 : decode cX5_takeGreedily 60 = .ok (.lrem, 1) := by decide +kernel
theorem dX5_takeGreedily_61 : decode cX5_takeGreedily 61 = .ok (.lconst 0, 1) := by decide +kernel
theorem dX5_takeGreedily_62 : decode cX5_takeGreedily 62 = .ok (.lcmp, 1) := by decide +kernel
theorem dX5_takeGreedily_63 : decode cX5_takeGreedily 63 = .ok (.ifCond .ne 9, 3) := by decide +kernel
theorem dX5_takeGreedily_66 : decode cX5_takeGreedily 66 = .ok (.lload 8, 2) := by decide +kernel
theorem dX5_takeGreedily_68 : decode cX5_takeGreedily 68 = .ok (.lconst 1, 1) := by decide +kernel
theorem dX5_takeGreedily_69 : decode cX5_takeGreedily 69 = .ok (.ladd, 1) := by decide +kernel
theorem dX5_takeGreedily_70 : decode cX5_takeGreedily 70 = .ok (.lstore 8, 2) := by decide +kernel
theorem dX5_takeGreedily_72 : decode cX5_takeGreedily 72 = .ok (.aload_n 3, 1) := by decide +kernel
theorem dX5_takeGreedily_73 : decode cX5_takeGreedily 73 = .ok (.lload 8, 2) := by decide +kernel
theorem dX5_takeGreedily_75 : decode cX5_takeGreedily 75 = .ok (.invokevirtual 117, 3) := by decide +kernel
theorem dX5_takeGreedily_78 : decode cX5_takeGreedily 78 = .ok (.ifCond .ne 5, 3) := by decide +kernel
theorem dX5_takeGreedily_81 : decode cX5_takeGreedily 81 = .ok (.iconst 0, 1) := by decide +kernel
theorem dX5_takeGreedily_82 : decode cX5_takeGreedily 82 = .ok (.ireturn, 1) := by decide +kernel
theorem dX5_takeGreedily_83 : decode cX5_takeGreedily 83 = .ok (.lload 4, 2) := by decide +kernel
theorem dX5_takeGreedily_85 : decode cX5_takeGreedily 85 = .ok (.lload 8, 2) := by decide +kernel
theorem dX5_takeGreedily_87 : decode cX5_takeGreedily 87 = .ok (.lmul, 1) := by decide +kernel
theorem dX5_takeGreedily_88 : decode cX5_takeGreedily 88 = .ok (.lload 6, 2) := by decide +kernel
theorem dX5_takeGreedily_90 : decode cX5_takeGreedily 90 = .ok (.lsub, 1) := by decide +kernel
theorem dX5_takeGreedily_91 : decode cX5_takeGreedily 91 = .ok (.lstore 4, 2) := by decide +kernel
theorem dX5_takeGreedily_93 : decode cX5_takeGreedily 93 = .ok (.lload 6, 2) := by decide +kernel
theorem dX5_takeGreedily_95 : decode cX5_takeGreedily 95 = .ok (.lload 8, 2) := by decide +kernel
theorem dX5_takeGreedily_97 : decode cX5_takeGreedily 97 = .ok (.lmul, 1) := by decide +kernel
theorem dX5_takeGreedily_98 : decode cX5_takeGreedily 98 = .ok (.lstore 6, 2) := by decide +kernel
theorem dX5_takeGreedily_100 : decode cX5_takeGreedily 100 = .ok (.lload 4, 2) := by decide +kernel
theorem dX5_takeGreedily_102 : decode cX5_takeGreedily 102 = .ok (.lload 6, 2) := by decide +kernel
theorem dX5_takeGreedily_104 : decode cX5_takeGreedily 104 = .ok (.invokestatic 216, 3) := by decide +kernel
theorem dX5_takeGreedily_107 : decode cX5_takeGreedily 107 = .ok (.lstore 11, 2) := by decide +kernel
theorem dX5_takeGreedily_109 : decode cX5_takeGreedily 109 = .ok (.lload 4, 2) := by decide +kernel
theorem dX5_takeGreedily_111 : decode cX5_takeGreedily 111 = .ok (.lload 11, 2) := by decide +kernel
theorem dX5_takeGreedily_113 : decode cX5_takeGreedily 113 = .ok (.ldiv, 1) := by decide +kernel
theorem dX5_takeGreedily_114 : decode cX5_takeGreedily 114 = .ok (.lstore 4, 2) := by decide +kernel
theorem dX5_takeGreedily_116 : decode cX5_takeGreedily 116 = .ok (.lload 6, 2) := by decide +kernel
theorem dX5_takeGreedily_118 : decode cX5_takeGreedily 118 = .ok (.lload 11, 2) := by decide +kernel
theorem dX5_takeGreedily_120 : decode cX5_takeGreedily 120 = .ok (.ldiv, 1) := by decide +kernel
theorem dX5_takeGreedily_121 : decode cX5_takeGreedily 121 = .ok (.lstore 6, 2) := by decide +kernel
theorem dX5_takeGreedily_123 : decode cX5_takeGreedily 123 = .ok (.iinc 10 1, 3) := by decide +kernel
theorem dX5_takeGreedily_126 : decode cX5_takeGreedily 126 = .ok (.goto (-108), 3) := by decide +kernel
theorem dX5_takeGreedily_129 : decode cX5_takeGreedily 129 = .ok (.lload 4, 2) := by decide +kernel
theorem dX5_takeGreedily_131 : decode cX5_takeGreedily 131 = .ok (.lconst 0, 1) := by decide +kernel
theorem dX5_takeGreedily_132 : decode cX5_takeGreedily 132 = .ok (.lcmp, 1) := by decide +kernel
theorem dX5_takeGreedily_133 : decode cX5_takeGreedily 133 = .ok (.ifCond .ne 7, 3) := by decide +kernel
theorem dX5_takeGreedily_136 : decode cX5_takeGreedily 136 = .ok (.iconst 1, 1) := by decide +kernel
theorem dX5_takeGreedily_137 : decode cX5_takeGreedily 137 = .ok (.goto 4, 3) := by decide +kernel
theorem dX5_takeGreedily_140 : decode cX5_takeGreedily 140 = .ok (.iconst 0, 1) := by decide +kernel
theorem dX5_takeGreedily_141 : decode cX5_takeGreedily 141 = .ok (.ireturn, 1) := by decide +kernel
theorem dX5_commonDivisor_0 : decode cX5_commonDivisor 0 = .ok (.iconst 0, 1) := by decide +kernel
theorem dX5_commonDivisor_1 : decode cX5_commonDivisor 1 = .ok (.istore 4, 2) := by decide +kernel
theorem dX5_commonDivisor_3 : decode cX5_commonDivisor 3 = .ok (.iload 4, 2) := by decide +kernel
theorem dX5_commonDivisor_5 : decode cX5_commonDivisor 5 = .ok (.bipush 100, 2) := by decide +kernel
theorem dX5_commonDivisor_7 : decode cX5_commonDivisor 7 = .ok (.if_icmp .ge 25, 3) := by decide +kernel
theorem dX5_commonDivisor_10 : decode cX5_commonDivisor 10 = .ok (.lload_n 2, 1) := by decide +kernel
theorem dX5_commonDivisor_11 : decode cX5_commonDivisor 11 = .ok (.lconst 0, 1) := by decide +kernel
theorem dX5_commonDivisor_12 : decode cX5_commonDivisor 12 = .ok (.lcmp, 1) := by decide +kernel
theorem dX5_commonDivisor_13 : decode cX5_commonDivisor 13 = .ok (.ifCond .eq 19, 3) := by decide +kernel
theorem dX5_commonDivisor_16 : decode cX5_commonDivisor 16 = .ok (.lload_n 0, 1) := by decide +kernel
theorem dX5_commonDivisor_17 : decode cX5_commonDivisor 17 = .ok (.lload_n 2, 1) := by decide +kernel
theorem dX5_commonDivisor_18 : decode cX5_commonDivisor 18 = .ok (.lrem, 1) := by decide +kernel
theorem dX5_commonDivisor_19 : decode cX5_commonDivisor 19 = .ok (.lstore 5, 2) := by decide +kernel
theorem dX5_commonDivisor_21 : decode cX5_commonDivisor 21 = .ok (.lload_n 2, 1) := by decide +kernel
theorem dX5_commonDivisor_22 : decode cX5_commonDivisor 22 = .ok (.lstore_n 0, 1) := by decide +kernel
theorem dX5_commonDivisor_23 : decode cX5_commonDivisor 23 = .ok (.lload 5, 2) := by decide +kernel
theorem dX5_commonDivisor_25 : decode cX5_commonDivisor 25 = .ok (.lstore_n 2, 1) := by decide +kernel
theorem dX5_commonDivisor_26 : decode cX5_commonDivisor 26 = .ok (.iinc 4 1, 3) := by decide +kernel
theorem dX5_commonDivisor_29 : decode cX5_commonDivisor 29 = .ok (.goto (-26), 3) := by decide +kernel
theorem dX5_commonDivisor_32 : decode cX5_commonDivisor 32 = .ok (.lconst 1, 1) := by decide +kernel
theorem dX5_commonDivisor_33 : decode cX5_commonDivisor 33 = .ok (.lload_n 0, 1) := by decide +kernel
theorem dX5_commonDivisor_34 : decode cX5_commonDivisor 34 = .ok (.invokestatic 213, 3) := by decide +kernel
theorem dX5_commonDivisor_37 : decode cX5_commonDivisor 37 = .ok (.lreturn, 1) := by decide +kernel
theorem dX5_isSplit_0 : decode cX5_isSplit 0 = .ok (.iload_n 1, 1) := by decide +kernel
theorem dX5_isSplit_1 : decode cX5_isSplit 1 = .ok (.tableswitch 91 0 4 #[35, 41, 49, 73, 83], 35) := by decide +kernel
theorem dX5_isSplit_36 : decode cX5_isSplit 36 = .ok (.iload_n 0, 1) := by decide +kernel
theorem dX5_isSplit_37 : decode cX5_isSplit 37 = .ok (.iload_n 2, 1) := by decide +kernel
theorem dX5_isSplit_38 : decode cX5_isSplit 38 = .ok (.invokestatic 219, 3) := by decide +kernel
theorem dX5_isSplit_41 : decode cX5_isSplit 41 = .ok (.ireturn, 1) := by decide +kernel
theorem dX5_isSplit_42 : decode cX5_isSplit 42 = .ok (.iload_n 0, 1) := by decide +kernel
theorem dX5_isSplit_43 : decode cX5_isSplit 43 = .ok (.iload_n 2, 1) := by decide +kernel
theorem dX5_isSplit_44 : decode cX5_isSplit 44 = .ok (.iconst 1, 1) := by decide +kernel
theorem dX5_isSplit_45 : decode cX5_isSplit 45 = .ok (.iadd, 1) := by decide +kernel
theorem dX5_isSplit_46 : decode cX5_isSplit 46 = .ok (.invokestatic 219, 3) := by decide +kernel
theorem dX5_isSplit_49 : decode cX5_isSplit 49 = .ok (.ireturn, 1) := by decide +kernel
theorem dX5_isSplit_50 : decode cX5_isSplit 50 = .ok (.iload_n 0, 1) := by decide +kernel
theorem dX5_isSplit_51 : decode cX5_isSplit 51 = .ok (.iload_n 2, 1) := by decide +kernel
theorem dX5_isSplit_52 : decode cX5_isSplit 52 = .ok (.iconst 2, 1) := by decide +kernel
theorem dX5_isSplit_53 : decode cX5_isSplit 53 = .ok (.iadd, 1) := by decide +kernel
theorem dX5_isSplit_54 : decode cX5_isSplit 54 = .ok (.invokestatic 219, 3) := by decide +kernel
theorem dX5_isSplit_57 : decode cX5_isSplit 57 = .ok (.ifCond .eq 15, 3) := by decide +kernel
theorem dX5_isSplit_60 : decode cX5_isSplit 60 = .ok (.iconst 2, 1) := by decide +kernel
theorem dX5_isSplit_61 : decode cX5_isSplit 61 = .ok (.iload_n 2, 1) := by decide +kernel
theorem dX5_isSplit_62 : decode cX5_isSplit 62 = .ok (.invokestatic 219, 3) := by decide +kernel
theorem dX5_isSplit_65 : decode cX5_isSplit 65 = .ok (.ifCond .eq 7, 3) := by decide +kernel
theorem dX5_isSplit_68 : decode cX5_isSplit 68 = .ok (.iconst 1, 1) := by decide +kernel
theorem dX5_isSplit_69 : decode cX5_isSplit 69 = .ok (.goto 4, 3) := by decide +kernel
theorem dX5_isSplit_72 : decode cX5_isSplit 72 = .ok (.iconst 0, 1) := by decide +kernel
theorem dX5_isSplit_73 : decode cX5_isSplit 73 = .ok (.ireturn, 1) := by decide +kernel
theorem dX5_isSplit_74 : decode cX5_isSplit 74 = .ok (.iload_n 0, 1) := by decide +kernel
theorem dX5_isSplit_75 : decode cX5_isSplit 75 = .ok (.iconst 1, 1) := by decide +kernel
theorem dX5_isSplit_76 : decode cX5_isSplit 76 = .ok (.isub, 1) := by decide +kernel
theorem dX5_isSplit_77 : decode cX5_isSplit 77 = .ok (.iload_n 2, 1) := by decide +kernel
theorem dX5_isSplit_78 : decode cX5_isSplit 78 = .ok (.iconst 1, 1) := by decide +kernel
theorem dX5_isSplit_79 : decode cX5_isSplit 79 = .ok (.iadd, 1) := by decide +kernel
theorem dX5_isSplit_80 : decode cX5_isSplit 80 = .ok (.invokestatic 219, 3) := by decide +kernel
theorem dX5_isSplit_83 : decode cX5_isSplit 83 = .ok (.ireturn, 1) := by decide +kernel
theorem dX5_isSplit_84 : decode cX5_isSplit 84 = .ok (.iload_n 0, 1) := by decide +kernel
theorem dX5_isSplit_85 : decode cX5_isSplit 85 = .ok (.iconst 1, 1) := by decide +kernel
theorem dX5_isSplit_86 : decode cX5_isSplit 86 = .ok (.isub, 1) := by decide +kernel
theorem dX5_isSplit_87 : decode cX5_isSplit 87 = .ok (.iload_n 2, 1) := by decide +kernel
theorem dX5_isSplit_88 : decode cX5_isSplit 88 = .ok (.invokestatic 219, 3) := by decide +kernel
theorem dX5_isSplit_91 : decode cX5_isSplit 91 = .ok (.ireturn, 1) := by decide +kernel
theorem dX5_isSplit_92 : decode cX5_isSplit 92 = .ok (.iconst 0, 1) := by decide +kernel
theorem dX5_isSplit_93 : decode cX5_isSplit 93 = .ok (.ireturn, 1) := by decide +kernel
theorem dX5_divides_0 : decode cX5_divides 0 = .ok (.iload_n 0, 1) := by decide +kernel
theorem dX5_divides_1 : decode cX5_divides 1 = .ok (.ifCond .le 13, 3) := by decide +kernel
theorem dX5_divides_4 : decode cX5_divides 4 = .ok (.iload_n 1, 1) := by decide +kernel
theorem dX5_divides_5 : decode cX5_divides 5 = .ok (.iload_n 0, 1) := by decide +kernel
theorem dX5_divides_6 : decode cX5_divides 6 = .ok (.irem, 1) := by decide +kernel
theorem dX5_divides_7 : decode cX5_divides 7 = .ok (.ifCond .ne 7, 3) := by decide +kernel
theorem dX5_divides_10 : decode cX5_divides 10 = .ok (.iconst 1, 1) := by decide +kernel
theorem dX5_divides_11 : decode cX5_divides 11 = .ok (.goto 4, 3) := by decide +kernel
theorem dX5_divides_14 : decode cX5_divides 14 = .ok (.iconst 0, 1) := by decide +kernel
theorem dX5_divides_15 : decode cX5_divides 15 = .ok (.ireturn, 1) := by decide +kernel
theorem dX5_splitters_0 : decode cX5_splitters 0 = .ok (.iconst 0, 1) := by decide +kernel
theorem dX5_splitters_1 : decode cX5_splitters 1 = .ok (.istore_n 2, 1) := by decide +kernel
theorem dX5_splitters_2 : decode cX5_splitters 2 = .ok (.iconst 0, 1) := by decide +kernel
theorem dX5_splitters_3 : decode cX5_splitters 3 = .ok (.istore_n 3, 1) := by decide +kernel
theorem dX5_splitters_4 : decode cX5_splitters 4 = .ok (.iload_n 3, 1) := by decide +kernel
theorem dX5_splitters_5 : decode cX5_splitters 5 = .ok (.iconst 5, 1) := by decide +kernel
theorem dX5_splitters_6 : decode cX5_splitters 6 = .ok (.if_icmp .ge 24, 3) := by decide +kernel
theorem dX5_splitters_9 : decode cX5_splitters 9 = .ok (.iload_n 0, 1) := by decide +kernel
theorem dX5_splitters_10 : decode cX5_splitters 10 = .ok (.iload_n 3, 1) := by decide +kernel
theorem dX5_splitters_11 : decode cX5_splitters 11 = .ok (.iload_n 1, 1) := by decide +kernel
theorem dX5_splitters_12 : decode cX5_splitters 12 = .ok (.invokestatic 153, 3) := by decide +kernel
theorem dX5_splitters_15 : decode cX5_splitters 15 = .ok (.ifCond .eq 9, 3) := by decide +kernel
theorem dX5_splitters_18 : decode cX5_splitters 18 = .ok (.iload_n 2, 1) := by decide +kernel
theorem dX5_splitters_19 : decode cX5_splitters 19 = .ok (.iconst 1, 1) := by decide +kernel
theorem dX5_splitters_20 : decode cX5_splitters 20 = .ok (.iload_n 3, 1) := by decide +kernel
theorem dX5_splitters_21 : decode cX5_splitters 21 = .ok (.ishl, 1) := by decide +kernel
theorem dX5_splitters_22 : decode cX5_splitters 22 = .ok (.ior, 1) := by decide +kernel
theorem dX5_splitters_23 : decode cX5_splitters 23 = .ok (.istore_n 2, 1) := by decide +kernel
theorem dX5_splitters_24 : decode cX5_splitters 24 = .ok (.iinc 3 1, 3) := by decide +kernel
theorem dX5_splitters_27 : decode cX5_splitters 27 = .ok (.goto (-23), 3) := by decide +kernel
theorem dX5_splitters_30 : decode cX5_splitters 30 = .ok (.iload_n 2, 1) := by decide +kernel
theorem dX5_splitters_31 : decode cX5_splitters 31 = .ok (.ireturn, 1) := by decide +kernel
theorem dX5_isCovered_0 : decode cX5_isCovered 0 = .ok (.iconst 2, 1) := by decide +kernel
theorem dX5_isCovered_1 : decode cX5_isCovered 1 = .ok (.iload_n 0, 1) := by decide +kernel
theorem dX5_isCovered_2 : decode cX5_isCovered 2 = .ok (.imul, 1) := by decide +kernel
theorem dX5_isCovered_3 : decode cX5_isCovered 3 = .ok (.istore 4, 2) := by decide +kernel
theorem dX5_isCovered_5 : decode cX5_isCovered 5 = .ok (.iload_n 3, 1) := by decide +kernel
theorem dX5_isCovered_6 : decode cX5_isCovered 6 = .ok (.istore 5, 2) := by decide +kernel
theorem dX5_isCovered_8 : decode cX5_isCovered 8 = .ok (.iconst 1, 1) := by decide +kernel
theorem dX5_isCovered_9 : decode cX5_isCovered 9 = .ok (.istore 6, 2) := by decide +kernel
theorem dX5_isCovered_11 : decode cX5_isCovered 11 = .ok (.iload 6, 2) := by decide +kernel
theorem dX5_isCovered_13 : decode cX5_isCovered 13 = .ok (.iload 4, 2) := by decide +kernel
theorem dX5_isCovered_15 : decode cX5_isCovered 15 = .ok (.if_icmp .gt 29, 3) := by decide +kernel
theorem dX5_isCovered_18 : decode cX5_isCovered 18 = .ok (.iload 5, 2) := by decide +kernel
theorem dX5_isCovered_20 : decode cX5_isCovered 20 = .ok (.ifCond .eq 24, 3) := by decide +kernel
theorem dX5_isCovered_23 : decode cX5_isCovered 23 = .ok (.iload 5, 2) := by decide +kernel
theorem dX5_isCovered_25 : decode cX5_isCovered 25 = .ok (.iload_n 0, 1) := by decide +kernel
theorem dX5_isCovered_26 : decode cX5_isCovered 26 = .ok (.iload_n 2, 1) := by decide +kernel
theorem dX5_isCovered_27 : decode cX5_isCovered 27 = .ok (.iload_n 1, 1) := by decide +kernel
theorem dX5_isCovered_28 : decode cX5_isCovered 28 = .ok (.iload 6, 2) := by decide +kernel
theorem dX5_isCovered_30 : decode cX5_isCovered 30 = .ok (.imul, 1) := by decide +kernel
theorem dX5_isCovered_31 : decode cX5_isCovered 31 = .ok (.iadd, 1) := by decide +kernel
theorem dX5_isCovered_32 : decode cX5_isCovered 32 = .ok (.invokestatic 164, 3) := by decide +kernel
theorem dX5_isCovered_35 : decode cX5_isCovered 35 = .ok (.iand, 1) := by decide +kernel
theorem dX5_isCovered_36 : decode cX5_isCovered 36 = .ok (.istore 5, 2) := by decide +kernel
theorem dX5_isCovered_38 : decode cX5_isCovered 38 = .ok (.iinc 6 1, 3) := by decide +kernel
theorem dX5_isCovered_41 : decode cX5_isCovered 41 = .ok (.goto (-30), 3) := by decide +kernel
theorem dX5_isCovered_44 : decode cX5_isCovered 44 = .ok (.iload 5, 2) := by decide +kernel
theorem dX5_isCovered_46 : decode cX5_isCovered 46 = .ok (.ifCond .eq 7, 3) := by decide +kernel
theorem dX5_isCovered_49 : decode cX5_isCovered 49 = .ok (.iconst 1, 1) := by decide +kernel
theorem dX5_isCovered_50 : decode cX5_isCovered 50 = .ok (.goto 4, 3) := by decide +kernel
theorem dX5_isCovered_53 : decode cX5_isCovered 53 = .ok (.iconst 0, 1) := by decide +kernel
theorem dX5_isCovered_54 : decode cX5_isCovered 54 = .ok (.ireturn, 1) := by decide +kernel
theorem dX5_bestQuestion_0 : decode cX5_bestQuestion 0 = .ok (.iload_n 1, 1) := by decide +kernel
theorem dX5_bestQuestion_1 : decode cX5_bestQuestion 1 = .ok (.invokestatic 223, 3) := by decide +kernel
theorem dX5_bestQuestion_4 : decode cX5_bestQuestion 4 = .ok (.istore_n 2, 1) := by decide +kernel
theorem dX5_bestQuestion_5 : decode cX5_bestQuestion 5 = .ok (.iload_n 2, 1) := by decide +kernel
theorem dX5_bestQuestion_6 : decode cX5_bestQuestion 6 = .ok (.iconst 1, 1) := by decide +kernel
theorem dX5_bestQuestion_7 : decode cX5_bestQuestion 7 = .ok (.if_icmp .gt 6, 3) := by decide +kernel
theorem dX5_bestQuestion_10 : decode cX5_bestQuestion 10 = .ok (.bipush (-9), 2) := by decide +kernel
theorem dX5_bestQuestion_12 : decode cX5_bestQuestion 12 = .ok (.ireturn, 1) := by decide +kernel
theorem dX5_bestQuestion_13 : decode cX5_bestQuestion 13 = .ok (.bipush (-9), 2) := by decide +kernel
theorem dX5_bestQuestion_15 : decode cX5_bestQuestion 15 = .ok (.istore_n 3, 1) := by decide +kernel
theorem dX5_bestQuestion_16 : decode cX5_bestQuestion 16 = .ok (.iload_n 2, 1) := by decide +kernel
theorem dX5_bestQuestion_17 : decode cX5_bestQuestion 17 = .ok (.iconst 1, 1) := by decide +kernel
theorem dX5_bestQuestion_18 : decode cX5_bestQuestion 18 = .ok (.iadd, 1) := by decide +kernel
theorem dX5_bestQuestion_19 : decode cX5_bestQuestion 19 = .ok (.istore 4, 2) := by decide +kernel
theorem dX5_bestQuestion_21 : decode cX5_bestQuestion 21 = .ok (.iconst 1, 1) := by decide +kernel
theorem dX5_bestQuestion_22 : decode cX5_bestQuestion 22 = .ok (.istore 5, 2) := by decide +kernel
theorem dX5_bestQuestion_24 : decode cX5_bestQuestion 24 = .ok (.iload 5, 2) := by decide +kernel
theorem dX5_bestQuestion_26 : decode cX5_bestQuestion 26 = .ok (.bipush 99, 2) := by decide +kernel
theorem dX5_bestQuestion_28 : decode cX5_bestQuestion 28 = .ok (.if_icmp .gt 47, 3) := by decide +kernel
theorem dX5_bestQuestion_31 : decode cX5_bestQuestion 31 = .ok (.iload_n 1, 1) := by decide +kernel
theorem dX5_bestQuestion_32 : decode cX5_bestQuestion 32 = .ok (.iload_n 0, 1) := by decide +kernel
theorem dX5_bestQuestion_33 : decode cX5_bestQuestion 33 = .ok (.iload 5, 2) := by decide +kernel
theorem dX5_bestQuestion_35 : decode cX5_bestQuestion 35 = .ok (.invokestatic 164, 3) := by decide +kernel
theorem dX5_bestQuestion_38 : decode cX5_bestQuestion 38 = .ok (.iand, 1) := by decide +kernel
theorem dX5_bestQuestion_39 : decode cX5_bestQuestion 39 = .ok (.invokestatic 223, 3) := by decide +kernel
theorem dX5_bestQuestion_42 : decode cX5_bestQuestion 42 = .ok (.istore 6, 2) := by decide +kernel
theorem dX5_bestQuestion_44 : decode cX5_bestQuestion 44 = .ok (.iload 6, 2) := by decide +kernel
theorem dX5_bestQuestion_46 : decode cX5_bestQuestion 46 = .ok (.iload_n 2, 1) := by decide +kernel
theorem dX5_bestQuestion_47 : decode cX5_bestQuestion 47 = .ok (.iload 6, 2) := by decide +kernel
theorem dX5_bestQuestion_49 : decode cX5_bestQuestion 49 = .ok (.isub, 1) := by decide +kernel
theorem dX5_bestQuestion_50 : decode cX5_bestQuestion 50 = .ok (.invokestatic 108, 3) := by decide +kernel
theorem dX5_bestQuestion_53 : decode cX5_bestQuestion 53 = .ok (.istore 7, 2) := by decide +kernel
theorem dX5_bestQuestion_55 : decode cX5_bestQuestion 55 = .ok (.iload 7, 2) := by decide +kernel
theorem dX5_bestQuestion_57 : decode cX5_bestQuestion 57 = .ok (.iload 4, 2) := by decide +kernel
theorem dX5_bestQuestion_59 : decode cX5_bestQuestion 59 = .ok (.if_icmp .ge 10, 3) := by decide +kernel
theorem dX5_bestQuestion_62 : decode cX5_bestQuestion 62 = .ok (.iload 7, 2) := by decide +kernel
theorem dX5_bestQuestion_64 : decode cX5_bestQuestion 64 = .ok (.istore 4, 2) := by decide +kernel
theorem dX5_bestQuestion_66 : decode cX5_bestQuestion 66 = .ok (.iload 5, 2) := by decide +kernel
theorem dX5_bestQuestion_68 : decode cX5_bestQuestion 68 = .ok (.istore_n 3, 1) := by decide +kernel
theorem dX5_bestQuestion_69 : decode cX5_bestQuestion 69 = .ok (.iinc 5 1, 3) := by decide +kernel
theorem dX5_bestQuestion_72 : decode cX5_bestQuestion 72 = .ok (.goto (-48), 3) := by decide +kernel
theorem dX5_bestQuestion_75 : decode cX5_bestQuestion 75 = .ok (.iload_n 3, 1) := by decide +kernel
theorem dX5_bestQuestion_76 : decode cX5_bestQuestion 76 = .ok (.ireturn, 1) := by decide +kernel
theorem dX6_init_0 : decode cX6_init 0 = .ok (.aload_n 0, 1) := by decide +kernel
theorem dX6_init_1 : decode cX6_init 1 = .ok (.invokespecial 1, 3) := by decide +kernel
theorem dX6_init_4 : decode cX6_init 4 = .ok (.aload_n 0, 1) := by decide +kernel
theorem dX6_init_5 : decode cX6_init 5 = .ok (.bipush 117, 2) := by decide +kernel
theorem dX6_init_7 : decode cX6_init 7 = .ok (.newarray .int, 2) := by decide +kernel
theorem dX6_init_9 : decode cX6_init 9 = .ok (.putfield 7, 3) := by decide +kernel
theorem dX6_init_12 : decode cX6_init 12 = .ok (.aload_n 0, 1) := by decide +kernel
theorem dX6_init_13 : decode cX6_init 13 = .ok (.iconst 2, 1) := by decide +kernel
theorem dX6_init_14 : decode cX6_init 14 = .ok (.newarray .boolean, 2) := by decide +kernel
theorem dX6_init_16 : decode cX6_init 16 = .ok (.putfield 13, 3) := by decide +kernel
theorem dX6_init_19 : decode cX6_init 19 = .ok (.aload_n 0, 1) := by decide +kernel
theorem dX6_init_20 : decode cX6_init 20 = .ok (.iconst 2, 1) := by decide +kernel
theorem dX6_init_21 : decode cX6_init 21 = .ok (.putfield 17, 3) := by decide +kernel
theorem dX6_init_24 : decode cX6_init 24 = .ok (.aload_n 0, 1) := by decide +kernel
theorem dX6_init_25 : decode cX6_init 25 = .ok (.iconst 3, 1) := by decide +kernel
theorem dX6_init_26 : decode cX6_init 26 = .ok (.putfield 21, 3) := by decide +kernel
theorem dX6_init_29 : decode cX6_init 29 = .ok (.aload_n 0, 1) := by decide +kernel
theorem dX6_init_30 : decode cX6_init 30 = .ok (.bipush 6, 2) := by decide +kernel
theorem dX6_init_32 : decode cX6_init 32 = .ok (.newarray .int, 2) := by decide +kernel
theorem dX6_init_34 : decode cX6_init 34 = .ok (.putfield 24, 3) := by decide +kernel
theorem dX6_init_37 : decode cX6_init 37 = .ok (.aload_n 0, 1) := by decide +kernel
theorem dX6_init_38 : decode cX6_init 38 = .ok (.bipush 6, 2) := by decide +kernel
theorem dX6_init_40 : decode cX6_init 40 = .ok (.newarray .int, 2) := by decide +kernel
theorem dX6_init_42 : decode cX6_init 42 = .ok (.putfield 27, 3) := by decide +kernel
theorem dX6_init_45 : decode cX6_init 45 = .ok (.aload_n 0, 1) := by decide +kernel
theorem dX6_init_46 : decode cX6_init 46 = .ok (.bipush 6, 2) := by decide +kernel
theorem dX6_init_48 : decode cX6_init 48 = .ok (.newarray .int, 2) := by decide +kernel
theorem dX6_init_50 : decode cX6_init 50 = .ok (.putfield 30, 3) := by decide +kernel
theorem dX6_init_53 : decode cX6_init 53 = .ok (.aload_n 0, 1) := by decide +kernel
theorem dX6_init_54 : decode cX6_init 54 = .ok (.bipush 60, 2) := by decide +kernel
theorem dX6_init_56 : decode cX6_init 56 = .ok (.newarray .int, 2) := by decide +kernel
theorem dX6_init_58 : decode cX6_init 58 = .ok (.putfield 33, 3) := by decide +kernel
theorem dX6_init_61 : decode cX6_init 61 = .ok (.aload_n 0, 1) := by decide +kernel
theorem dX6_init_62 : decode cX6_init 62 = .ok (.bipush 8, 2) := by decide +kernel
theorem dX6_init_64 : decode cX6_init 64 = .ok (.newarray .int, 2) := by decide +kernel
theorem dX6_init_66 : decode cX6_init 66 = .ok (.putfield 36, 3) := by decide +kernel
theorem dX6_init_69 : decode cX6_init 69 = .ok (.aload_n 0, 1) := by decide +kernel
theorem dX6_init_70 : decode cX6_init 70 = .ok (.bipush 8, 2) := by decide +kernel
theorem dX6_init_72 : decode cX6_init 72 = .ok (.newarray .int, 2) := by decide +kernel
theorem dX6_init_74 : decode cX6_init 74 = .ok (.putfield 39, 3) := by decide +kernel
theorem dX6_init_77 : decode cX6_init 77 = .ok (.aload_n 0, 1) := by decide +kernel
theorem dX6_init_78 : decode cX6_init 78 = .ok (.iconst 5, 1) := by decide +kernel
theorem dX6_init_79 : decode cX6_init 79 = .ok (.newarray .long, 2) := by decide +kernel
theorem dX6_init_81 : decode cX6_init 81 = .ok (.putfield 42, 3) := by decide +kernel
theorem dX6_init_84 : decode cX6_init 84 = .ok (.aload_n 0, 1) := by decide +kernel
theorem dX6_init_85 : decode cX6_init 85 = .ok (.iconst 5, 1) := by decide +kernel
theorem dX6_init_86 : decode cX6_init 86 = .ok (.newarray .long, 2) := by decide +kernel
theorem dX6_init_88 : decode cX6_init 88 = .ok (.putfield 46, 3) := by decide +kernel
theorem dX6_init_91 : decode cX6_init 91 = .ok (.aload_n 0, 1) := by decide +kernel
theorem dX6_init_92 : decode cX6_init 92 = .ok (.iconst 5, 1) := by decide +kernel
theorem dX6_init_93 : decode cX6_init 93 = .ok (.newarray .int, 2) := by decide +kernel
theorem dX6_init_95 : decode cX6_init 95 = .ok (.putfield 49, 3) := by decide +kernel
theorem dX6_init_98 : decode cX6_init 98 = .ok (.aload_n 0, 1) := by decide +kernel
theorem dX6_init_99 : decode cX6_init 99 = .ok (.iconst 5, 1) := by decide +kernel
theorem dX6_init_100 : decode cX6_init 100 = .ok (.newarray .int, 2) := by decide +kernel
theorem dX6_init_102 : decode cX6_init 102 = .ok (.putfield 52, 3) := by decide +kernel
theorem dX6_init_105 : decode cX6_init 105 = .ok (.return_, 1) := by decide +kernel
theorem dX6_in_0 : decode cX6_in 0 = .ok (.lload_n 0, 1) := by decide +kernel
theorem dX6_in_1 : decode cX6_in 1 = .ok (.lload_n 2, 1) := by decide +kernel
theorem dX6_in_2 : decode cX6_in 2 = .ok (.lcmp, 1) := by decide +kernel
theorem dX6_in_3 : decode cX6_in 3 = .ok (.ifCond .lt 14, 3) := by decide +kernel
theorem dX6_in_6 : decode cX6_in 6 = .ok (.lload_n 0, 1) := by decide +kernel
theorem dX6_in_7 : decode cX6_in 7 = .ok (.lload 4, 2) := by decide +kernel
theorem dX6_in_9 : decode cX6_in 9 = .ok (.lcmp, 1) := by decide +kernel
theorem dX6_in_10 : decode cX6_in 10 = .ok (.ifCond .gt 7, 3) := by decide +kernel
theorem dX6_in_13 : decode cX6_in 13 = .ok (.iconst 1, 1) := by decide +kernel
theorem dX6_in_14 : decode cX6_in 14 = .ok (.goto 4, 3) := by decide +kernel
theorem dX6_in_17 : decode cX6_in 17 = .ok (.iconst 0, 1) := by decide +kernel
theorem dX6_in_18 : decode cX6_in 18 = .ok (.ireturn, 1) := by decide +kernel
theorem dX6_copy_0 : decode cX6_copy 0 = .ok (.iconst 0, 1) := by decide +kernel
theorem dX6_copy_1 : decode cX6_copy 1 = .ok (.istore_n 3, 1) := by decide +kernel
theorem dX6_copy_2 : decode cX6_copy 2 = .ok (.iload_n 3, 1) := by decide +kernel
theorem dX6_copy_3 : decode cX6_copy 3 = .ok (.bipush 9, 2) := by decide +kernel
theorem dX6_copy_5 : decode cX6_copy 5 = .ok (.if_icmp .ge 25, 3) := by decide +kernel
theorem dX6_copy_8 : decode cX6_copy 8 = .ok (.aload_n 0, 1) := by decide +kernel
theorem dX6_copy_9 : decode cX6_copy 9 = .ok (.getfield 7, 3) := by decide +kernel
theorem dX6_copy_12 : decode cX6_copy 12 = .ok (.iload_n 2, 1) := by decide +kernel
theorem dX6_copy_13 : decode cX6_copy 13 = .ok (.iload_n 3, 1) := by decide +kernel
theorem dX6_copy_14 : decode cX6_copy 14 = .ok (.iadd, 1) := by decide +kernel
theorem dX6_copy_15 : decode cX6_copy 15 = .ok (.aload_n 0, 1) := by decide +kernel
theorem dX6_copy_16 : decode cX6_copy 16 = .ok (.getfield 7, 3) := by decide +kernel
theorem dX6_copy_19 : decode cX6_copy 19 = .ok (.iload_n 1, 1) := by decide +kernel
theorem dX6_copy_20 : decode cX6_copy 20 = .ok (.iload_n 3, 1) := by decide +kernel
theorem dX6_copy_21 : decode cX6_copy 21 = .ok (.iadd, 1) := by decide +kernel
theorem dX6_copy_22 : decode cX6_copy 22 = .ok (.iaload, 1) := by decide +kernel
theorem dX6_copy_23 : decode cX6_copy 23 = .ok (.iastore, 1) := by decide +kernel
theorem dX6_copy_24 : decode cX6_copy 24 = .ok (.iinc 3 1, 3) := by decide +kernel
theorem dX6_copy_27 : decode cX6_copy 27 = .ok (.goto (-25), 3) := by decide +kernel
theorem dX6_copy_30 : decode cX6_copy 30 = .ok (.return_, 1) := by decide +kernel
theorem dX6_minds_0 : decode cX6_minds 0 = .ok (.aload_n 0, 1) := by decide +kernel
theorem dX6_minds_1 : decode cX6_minds 1 = .ok (.getfield 55, 3) := by decide +kernel
theorem dX6_minds_4 : decode cX6_minds 4 = .ok (.bipush 10, 2) := by decide +kernel
theorem dX6_minds_6 : decode cX6_minds 6 = .ok (.if_icmp .ne 45, 3) := by decide +kernel
theorem dX6_minds_9 : decode cX6_minds 9 = .ok (.iconst 0, 1) := by decide +kernel
theorem dX6_minds_10 : decode cX6_minds 10 = .ok (.istore_n 1, 1) := by decide +kernel
theorem dX6_minds_11 : decode cX6_minds 11 = .ok (.iload_n 1, 1) := by decide +kernel
theorem dX6_minds_12 : decode cX6_minds 12 = .ok (.bipush 81, 2) := by decide +kernel
theorem dX6_minds_14 : decode cX6_minds 14 = .ok (.if_icmp .ge 27, 3) := by decide +kernel
theorem dX6_minds_17 : decode cX6_minds 17 = .ok (.aload_n 0, 1) := by decide +kernel
theorem dX6_minds_18 : decode cX6_minds 18 = .ok (.getfield 7, 3) := by decide +kernel
theorem dX6_minds_21 : decode cX6_minds 21 = .ok (.bipush 27, 2) := by decide +kernel
theorem dX6_minds_23 : decode cX6_minds 23 = .ok (.iload_n 1, 1) := by decide +kernel
theorem dX6_minds_24 : decode cX6_minds 24 = .ok (.iadd, 1) := by decide +kernel
theorem dX6_minds_25 : decode cX6_minds 25 = .ok (.aload_n 0, 1) := by decide +kernel
theorem dX6_minds_26 : decode cX6_minds 26 = .ok (.getfield 7, 3) := by decide +kernel
theorem dX6_minds_29 : decode cX6_minds 29 = .ok (.bipush 36, 2) := by decide +kernel
theorem dX6_minds_31 : decode cX6_minds 31 = .ok (.iload_n 1, 1) := by decide +kernel
theorem dX6_minds_32 : decode cX6_minds 32 = .ok (.iadd, 1) := by decide +kernel
theorem dX6_minds_33 : decode cX6_minds 33 = .ok (.iaload, 1) := by decide +kernel
theorem dX6_minds_34 : decode cX6_minds 34 = .ok (.iastore, 1) := by decide +kernel
theorem dX6_minds_35 : decode cX6_minds 35 = .ok (.iinc 1 1, 3) := by decide +kernel
theorem dX6_minds_38 : decode cX6_minds 38 = .ok (.goto (-27), 3) := by decide +kernel
theorem dX6_minds_41 : decode cX6_minds 41 = .ok (.aload_n 0, 1) := by decide +kernel
theorem dX6_minds_42 : decode cX6_minds 42 = .ok (.dup, 1) := by decide +kernel
theorem dX6_minds_43 : decode cX6_minds 43 = .ok (.getfield 55, 3) := by decide +kernel
theorem dX6_minds_46 : decode cX6_minds 46 = .ok (.iconst 1, 1) := by decide +kernel
theorem dX6_minds_47 : decode cX6_minds 47 = .ok (.isub, 1) := by decide +kernel
theorem dX6_minds_48 : decode cX6_minds 48 = .ok (.putfield 55, 3) := by decide +kernel
theorem dX6_minds_51 : decode cX6_minds 51 = .ok (.aload_n 0, 1) := by decide +kernel
theorem dX6_minds_52 : decode cX6_minds 52 = .ok (.iconst 0, 1) := by decide +kernel
theorem dX6_minds_53 : decode cX6_minds 53 = .ok (.bipush 27, 2) := by decide +kernel
theorem dX6_minds_55 : decode cX6_minds 55 = .ok (.bipush 9, 2) := by decide +kernel
theorem dX6_minds_57 : decode cX6_minds 57 = .ok (.aload_n 0, 1) := by decide +kernel
theorem dX6_minds_58 : decode cX6_minds 58 = .ok (.getfield 55, 3) := by decide +kernel
theorem dX6_minds_61 : decode cX6_minds 61 = .ok (.imul, 1) := by decide +kernel
theorem dX6_minds_62 : decode cX6_minds 62 = .ok (.iadd, 1) := by decide +kernel
theorem dX6_minds_63 : decode cX6_minds 63 = .ok (.invokevirtual 58, 3) := by decide +kernel
theorem dX6_minds_66 : decode cX6_minds 66 = .ok (.aload_n 0, 1) := by decide +kernel
theorem dX6_minds_67 : decode cX6_minds 67 = .ok (.dup, 1) := by decide +kernel
theorem dX6_minds_68 : decode cX6_minds 68 = .ok (.getfield 55, 3) := by decide +kernel
theorem dX6_minds_71 : decode cX6_minds 71 = .ok (.iconst 1, 1) := by decide +kernel
theorem dX6_minds_72 : decode cX6_minds 72 = .ok (.iadd, 1) := by decide +kernel
theorem dX6_minds_73 : decode cX6_minds 73 = .ok (.putfield 55, 3) := by decide +kernel
theorem dX6_minds_76 : decode cX6_minds 76 = .ok (.return_, 1) := by decide +kernel
theorem dX6_isDigit_0 : decode cX6_isDigit 0 = .ok (.iload_n 0, 1) := by decide +kernel
theorem dX6_isDigit_1 : decode cX6_isDigit 1 = .ok (.i2l, 1) := by decide +kernel
theorem dX6_isDigit_2 : decode cX6_isDigit 2 = .ok (.ldc2_w 62, 3) := by decide +kernel
theorem dX6_isDigit_5 : decode cX6_isDigit 5 = .ok (.ldc2_w 64, 3) := by decide +kernel
theorem dX6_isDigit_8 : decode cX6_isDigit 8 = .ok (.invokestatic 66, 3) := by decide +kernel
theorem dX6_isDigit_11 : decode cX6_isDigit 11 = .ok (.ireturn, 1) := by decide +kernel
theorem dX6_take_0 : decode cX6_take 0 = .ok (.aload_n 0, 1) := by decide +kernel
theorem dX6_take_1 : decode cX6_take 1 = .ok (.getfield 70, 3) := by decide +kernel
theorem dX6_take_4 : decode cX6_take 4 = .ok (.aload_n 0, 1) := by decide +kernel
theorem dX6_take_5 : decode cX6_take 5 = .ok (.getfield 73, 3) := by decide +kernel
theorem dX6_take_8 : decode cX6_take 8 = .ok (.if_icmp .ge 30, 3) := by decide +kernel
theorem dX6_take_11 : decode cX6_take 11 = .ok (.aload_n 0, 1) := by decide +kernel
theorem dX6_take_12 : decode cX6_take 12 = .ok (.getfield 33, 3) := by decide +kernel
theorem dX6_take_15 : decode cX6_take 15 = .ok (.aload_n 0, 1) := by decide +kernel
theorem dX6_take_16 : decode cX6_take 16 = .ok (.getfield 70, 3) := by decide +kernel
theorem dX6_take_19 : decode cX6_take 19 = .ok (.iaload, 1) := by decide +kernel
theorem dX6_take_20 : decode cX6_take 20 = .ok (.bipush 32, 2) := by decide +kernel
theorem dX6_take_22 : decode cX6_take 22 = .ok (.if_icmp .ne 16, 3) := by decide +kernel
theorem dX6_take_25 : decode cX6_take 25 = .ok (.aload_n 0, 1) := by decide +kernel
theorem dX6_take_26 : decode cX6_take 26 = .ok (.dup, 1) := by decide +kernel
theorem dX6_take_27 : decode cX6_take 27 = .ok (.getfield 70, 3) := by decide +kernel
theorem dX6_take_30 : decode cX6_take 30 = .ok (.iconst 1, 1) := by decide +kernel
theorem dX6_take_31 : decode cX6_take 31 = .ok (.iadd, 1) := by decide +kernel
theorem dX6_take_32 : decode cX6_take 32 = .ok (.putfield 70, 3) := by decide +kernel
theorem dX6_take_35 : decode cX6_take 35 = .ok (.goto (-35), 3) := by decide +kernel
theorem dX6_take_38 : decode cX6_take 38 = .ok (.aload_n 0, 1) := by decide +kernel
theorem dX6_take_39 : decode cX6_take 39 = .ok (.aload_n 0, 1) := by decide +kernel
theorem dX6_take_40 : decode cX6_take 40 = .ok (.getfield 70, 3) := by decide +kernel
theorem dX6_take_43 : decode cX6_take 43 = .ok (.putfield 76, 3) := by decide +kernel
theorem dX6_take_46 : decode cX6_take 46 = .ok (.aload_n 0, 1) := by decide +kernel
theorem dX6_take_47 : decode cX6_take 47 = .ok (.aload_n 0, 1) := by decide +kernel
theorem dX6_take_48 : decode cX6_take 48 = .ok (.getfield 70, 3) := by decide +kernel
theorem dX6_take_51 : decode cX6_take 51 = .ok (.aload_n 0, 1) := by decide +kernel
theorem dX6_take_52 : decode cX6_take 52 = .ok (.getfield 73, 3) := by decide +kernel
theorem dX6_take_55 : decode cX6_take 55 = .ok (.if_icmp .ge 15, 3) := by decide +kernel
