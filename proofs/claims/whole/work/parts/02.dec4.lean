theorem dX6_splits_41 : decode cX6_splits 41 = .ok (.aload_n 0, 1) := by decide +kernel
theorem dX6_splits_42 : decode cX6_splits 42 = .ok (.iload_n 3, 1) := by decide +kernel
theorem dX6_splits_43 : decode cX6_splits 43 = .ok (.iload_n 2, 1) := by decide +kernel
theorem dX6_splits_44 : decode cX6_splits 44 = .ok (.invokevirtual 179, 3) := by decide +kernel
theorem dX6_splits_47 : decode cX6_splits 47 = .ok (.ifCond .ne 6, 3) := by decide +kernel
theorem dX6_splits_50 : decode cX6_splits 50 = .ok (.bipush (-2), 2) := by decide +kernel
theorem dX6_splits_52 : decode cX6_splits 52 = .ok (.ireturn, 1) := by decide +kernel
theorem dX6_splits_53 : decode cX6_splits 53 = .ok (.aload_n 0, 1) := by decide +kernel
theorem dX6_splits_54 : decode cX6_splits 54 = .ok (.invokevirtual 165, 3) := by decide +kernel
theorem dX6_splits_57 : decode cX6_splits 57 = .ok (.aload_n 0, 1) := by decide +kernel
theorem dX6_splits_58 : decode cX6_splits 58 = .ok (.iload_n 1, 1) := by decide +kernel
theorem dX6_splits_59 : decode cX6_splits 59 = .ok (.invokevirtual 182, 3) := by decide +kernel
theorem dX6_splits_62 : decode cX6_splits 62 = .ok (.iconst 0, 1) := by decide +kernel
theorem dX6_splits_63 : decode cX6_splits 63 = .ok (.istore 4, 2) := by decide +kernel
theorem dX6_splits_65 : decode cX6_splits 65 = .ok (.iload 4, 2) := by decide +kernel
theorem dX6_splits_67 : decode cX6_splits 67 = .ok (.iconst 3, 1) := by decide +kernel
theorem dX6_splits_68 : decode cX6_splits 68 = .ok (.if_icmp .ge 31, 3) := by decide +kernel
theorem dX6_splits_71 : decode cX6_splits 71 = .ok (.iload_n 3, 1) := by decide +kernel
theorem dX6_splits_72 : decode cX6_splits 72 = .ok (.i2l, 1) := by decide +kernel
theorem dX6_splits_73 : decode cX6_splits 73 = .ok (.iload_n 2, 1) := by decide +kernel
theorem dX6_splits_74 : decode cX6_splits 74 = .ok (.iload 4, 2) := by decide +kernel
theorem dX6_splits_76 : decode cX6_splits 76 = .ok (.invokestatic 172, 3) := by decide +kernel
theorem dX6_splits_79 : decode cX6_splits 79 = .ok (.l2i, 1) := by decide +kernel
theorem dX6_splits_80 : decode cX6_splits 80 = .ok (.istore 5, 2) := by decide +kernel
theorem dX6_splits_82 : decode cX6_splits 82 = .ok (.iload 5, 2) := by decide +kernel
theorem dX6_splits_84 : decode cX6_splits 84 = .ok (.ifCond .le 9, 3) := by decide +kernel
theorem dX6_splits_87 : decode cX6_splits 87 = .ok (.aload_n 0, 1) := by decide +kernel
theorem dX6_splits_88 : decode cX6_splits 88 = .ok (.iload 5, 2) := by decide +kernel
theorem dX6_splits_90 : decode cX6_splits 90 = .ok (.invokevirtual 186, 3) := by decide +kernel
theorem dX6_splits_93 : decode cX6_splits 93 = .ok (.iinc 4 1, 3) := by decide +kernel
theorem dX6_splits_96 : decode cX6_splits 96 = .ok (.goto (-31), 3) := by decide +kernel
theorem dX6_splits_99 : decode cX6_splits 99 = .ok (.aload_n 0, 1) := by decide +kernel
theorem dX6_splits_100 : decode cX6_splits 100 = .ok (.getfield 7, 3) := by decide +kernel
theorem dX6_splits_103 : decode cX6_splits 103 = .ok (.iconst 0, 1) := by decide +kernel
theorem dX6_splits_104 : decode cX6_splits 104 = .ok (.iaload, 1) := by decide +kernel
theorem dX6_splits_105 : decode cX6_splits 105 = .ok (.ireturn, 1) := by decide +kernel
theorem dX6_joins_0 : decode cX6_joins 0 = .ok (.iload_n 1, 1) := by decide +kernel
theorem dX6_joins_1 : decode cX6_joins 1 = .ok (.i2l, 1) := by decide +kernel
theorem dX6_joins_2 : decode cX6_joins 2 = .ok (.lconst 0, 1) := by decide +kernel
theorem dX6_joins_3 : decode cX6_joins 3 = .ok (.aload_n 0, 1) := by decide +kernel
theorem dX6_joins_4 : decode cX6_joins 4 = .ok (.getfield 7, 3) := by decide +kernel
theorem dX6_joins_7 : decode cX6_joins 7 = .ok (.iconst 0, 1) := by decide +kernel
theorem dX6_joins_8 : decode cX6_joins 8 = .ok (.iaload, 1) := by decide +kernel
theorem dX6_joins_9 : decode cX6_joins 9 = .ok (.iconst 1, 1) := by decide +kernel
theorem dX6_joins_10 : decode cX6_joins 10 = .ok (.isub, 1) := by decide +kernel
theorem dX6_joins_11 : decode cX6_joins 11 = .ok (.i2l, 1) := by decide +kernel
theorem dX6_joins_12 : decode cX6_joins 12 = .ok (.invokestatic 66, 3) := by decide +kernel
theorem dX6_joins_15 : decode cX6_joins 15 = .ok (.ifCond .eq 26, 3) := by decide +kernel
theorem dX6_joins_18 : decode cX6_joins 18 = .ok (.iload_n 2, 1) := by decide +kernel
theorem dX6_joins_19 : decode cX6_joins 19 = .ok (.i2l, 1) := by decide +kernel
theorem dX6_joins_20 : decode cX6_joins 20 = .ok (.lconst 0, 1) := by decide +kernel
theorem dX6_joins_21 : decode cX6_joins 21 = .ok (.aload_n 0, 1) := by decide +kernel
theorem dX6_joins_22 : decode cX6_joins 22 = .ok (.getfield 7, 3) := by decide +kernel
theorem dX6_joins_25 : decode cX6_joins 25 = .ok (.iconst 0, 1) := by decide +kernel
theorem dX6_joins_26 : decode cX6_joins 26 = .ok (.iaload, 1) := by decide +kernel
theorem dX6_joins_27 : decode cX6_joins 27 = .ok (.iconst 1, 1) := by decide +kernel
theorem dX6_joins_28 : decode cX6_joins 28 = .ok (.isub, 1) := by decide +kernel
theorem dX6_joins_29 : decode cX6_joins 29 = .ok (.i2l, 1) := by decide +kernel
theorem dX6_joins_30 : decode cX6_joins 30 = .ok (.invokestatic 66, 3) := by decide +kernel
theorem dX6_joins_33 : decode cX6_joins 33 = .ok (.ifCond .eq 8, 3) := by decide +kernel
theorem dX6_joins_36 : decode cX6_joins 36 = .ok (.iload_n 1, 1) := by decide +kernel
theorem dX6_joins_37 : decode cX6_joins 37 = .ok (.iload_n 2, 1) := by decide +kernel
theorem dX6_joins_38 : decode cX6_joins 38 = .ok (.if_icmp .ne 5, 3) := by decide +kernel
theorem dX6_joins_41 : decode cX6_joins 41 = .ok (.iconst (-1), 1) := by decide +kernel
theorem dX6_joins_42 : decode cX6_joins 42 = .ok (.ireturn, 1) := by decide +kernel
theorem dX6_joins_43 : decode cX6_joins 43 = .ok (.aload_n 0, 1) := by decide +kernel
theorem dX6_joins_44 : decode cX6_joins 44 = .ok (.getfield 7, 3) := by decide +kernel
theorem dX6_joins_47 : decode cX6_joins 47 = .ok (.iconst 1, 1) := by decide +kernel
theorem dX6_joins_48 : decode cX6_joins 48 = .ok (.iload_n 1, 1) := by decide +kernel
theorem dX6_joins_49 : decode cX6_joins 49 = .ok (.iadd, 1) := by decide +kernel
theorem dX6_joins_50 : decode cX6_joins 50 = .ok (.iaload, 1) := by decide +kernel
theorem dX6_joins_51 : decode cX6_joins 51 = .ok (.i2l, 1) := by decide +kernel
theorem dX6_joins_52 : decode cX6_joins 52 = .ok (.lstore_n 3, 1) := by decide +kernel
theorem dX6_joins_53 : decode cX6_joins 53 = .ok (.aload_n 0, 1) := by decide +kernel
theorem dX6_joins_54 : decode cX6_joins 54 = .ok (.getfield 7, 3) := by decide +kernel
theorem dX6_joins_57 : decode cX6_joins 57 = .ok (.iconst 1, 1) := by decide +kernel
theorem dX6_joins_58 : decode cX6_joins 58 = .ok (.iload_n 2, 1) := by decide +kernel
theorem dX6_joins_59 : decode cX6_joins 59 = .ok (.iadd, 1) := by decide +kernel
theorem dX6_joins_60 : decode cX6_joins 60 = .ok (.iaload, 1) := by decide +kernel
theorem dX6_joins_61 : decode cX6_joins 61 = .ok (.i2l, 1) := by decide +kernel
theorem dX6_joins_62 : decode cX6_joins 62 = .ok (.lstore 5, 2) := by decide +kernel
theorem dX6_joins_64 : decode cX6_joins 64 = .ok (.lload_n 3, 1) := by decide +kernel
theorem dX6_joins_65 : decode cX6_joins 65 = .ok (.lload 5, 2) := by decide +kernel
theorem dX6_joins_67 : decode cX6_joins 67 = .ok (.lmul, 1) := by decide +kernel
theorem dX6_joins_68 : decode cX6_joins 68 = .ok (.lload_n 3, 1) := by decide +kernel
theorem dX6_joins_69 : decode cX6_joins 69 = .ok (.lload 5, 2) := by decide +kernel
theorem dX6_joins_71 : decode cX6_joins 71 = .ok (.ladd, 1) := by decide +kernel
theorem dX6_joins_72 : decode cX6_joins 72 = .ok (.ldiv, 1) := by decide +kernel
theorem dX6_joins_73 : decode cX6_joins 73 = .ok (.l2i, 1) := by decide +kernel
theorem dX6_joins_74 : decode cX6_joins 74 = .ok (.istore 7, 2) := by decide +kernel
theorem dX6_joins_76 : decode cX6_joins 76 = .ok (.lload_n 3, 1) := by decide +kernel
theorem dX6_joins_77 : decode cX6_joins 77 = .ok (.lload 5, 2) := by decide +kernel
theorem dX6_joins_79 : decode cX6_joins 79 = .ok (.lmul, 1) := by decide +kernel
theorem dX6_joins_80 : decode cX6_joins 80 = .ok (.lload_n 3, 1) := by decide +kernel
theorem dX6_joins_81 : decode cX6_joins 81 = .ok (.lload 5, 2) := by decide +kernel
theorem dX6_joins_83 : decode cX6_joins 83 = .ok (.ladd, 1) := by decide +kernel
theorem dX6_joins_84 : decode cX6_joins 84 = .ok (.lrem, 1) := by decide +kernel
theorem dX6_joins_85 : decode cX6_joins 85 = .ok (.lconst 0, 1) := by decide +kernel
theorem dX6_joins_86 : decode cX6_joins 86 = .ok (.lcmp, 1) := by decide +kernel
theorem dX6_joins_87 : decode cX6_joins 87 = .ok (.ifCond .ne 12, 3) := by decide +kernel
theorem dX6_joins_90 : decode cX6_joins 90 = .ok (.aload_n 0, 1) := by decide +kernel
theorem dX6_joins_91 : decode cX6_joins 91 = .ok (.iload 7, 2) := by decide +kernel
theorem dX6_joins_93 : decode cX6_joins 93 = .ok (.invokevirtual 176, 3) := by decide +kernel
theorem dX6_joins_96 : decode cX6_joins 96 = .ok (.ifCond .eq 6, 3) := by decide +kernel
theorem dX6_joins_99 : decode cX6_joins 99 = .ok (.bipush (-2), 2) := by decide +kernel
theorem dX6_joins_101 : decode cX6_joins 101 = .ok (.ireturn, 1) := by decide +kernel
theorem dX6_joins_102 : decode cX6_joins 102 = .ok (.aload_n 0, 1) := by decide +kernel
theorem dX6_joins_103 : decode cX6_joins 103 = .ok (.invokevirtual 165, 3) := by decide +kernel
theorem dX6_joins_106 : decode cX6_joins 106 = .ok (.aload_n 0, 1) := by decide +kernel
theorem dX6_joins_107 : decode cX6_joins 107 = .ok (.iload_n 1, 1) := by decide +kernel
theorem dX6_joins_108 : decode cX6_joins 108 = .ok (.iload_n 2, 1) := by decide +kernel
theorem dX6_joins_109 : decode cX6_joins 109 = .ok (.if_icmp .le 7, 3) := by decide +kernel
theorem dX6_joins_112 : decode cX6_joins 112 = .ok (.iload_n 1, 1) := by decide +kernel
theorem dX6_joins_113 : decode cX6_joins 113 = .ok (.goto 4, 3) := by decide +kernel
theorem dX6_joins_116 : decode cX6_joins 116 = .ok (.iload_n 2, 1) := by decide +kernel
theorem dX6_joins_117 : decode cX6_joins 117 = .ok (.invokevirtual 182, 3) := by decide +kernel
theorem dX6_joins_120 : decode cX6_joins 120 = .ok (.aload_n 0, 1) := by decide +kernel
theorem dX6_joins_121 : decode cX6_joins 121 = .ok (.iload_n 1, 1) := by decide +kernel
theorem dX6_joins_122 : decode cX6_joins 122 = .ok (.iload_n 2, 1) := by decide +kernel
theorem dX6_joins_123 : decode cX6_joins 123 = .ok (.if_icmp .le 7, 3) := by decide +kernel
theorem dX6_joins_126 : decode cX6_joins 126 = .ok (.iload_n 2, 1) := by decide +kernel
theorem dX6_joins_127 : decode cX6_joins 127 = .ok (.goto 4, 3) := by decide +kernel
theorem dX6_joins_130 : decode cX6_joins 130 = .ok (.iload_n 1, 1) := by decide +kernel
theorem dX6_joins_131 : decode cX6_joins 131 = .ok (.invokevirtual 182, 3) := by decide +kernel
theorem dX6_joins_134 : decode cX6_joins 134 = .ok (.aload_n 0, 1) := by decide +kernel
theorem dX6_joins_135 : decode cX6_joins 135 = .ok (.iload 7, 2) := by decide +kernel
theorem dX6_joins_137 : decode cX6_joins 137 = .ok (.invokevirtual 186, 3) := by decide +kernel
theorem dX6_joins_140 : decode cX6_joins 140 = .ok (.iload 7, 2) := by decide +kernel
theorem dX6_joins_142 : decode cX6_joins 142 = .ok (.ireturn, 1) := by decide +kernel
theorem dX6_undo_0 : decode cX6_undo 0 = .ok (.aload_n 0, 1) := by decide +kernel
theorem dX6_undo_1 : decode cX6_undo 1 = .ok (.getfield 55, 3) := by decide +kernel
theorem dX6_undo_4 : decode cX6_undo 4 = .ok (.ifCond .ne 6, 3) := by decide +kernel
theorem dX6_undo_7 : decode cX6_undo 7 = .ok (.bipush (-2), 2) := by decide +kernel
theorem dX6_undo_9 : decode cX6_undo 9 = .ok (.ireturn, 1) := by decide +kernel
theorem dX6_undo_10 : decode cX6_undo 10 = .ok (.aload_n 0, 1) := by decide +kernel
theorem dX6_undo_11 : decode cX6_undo 11 = .ok (.dup, 1) := by decide +kernel
theorem dX6_undo_12 : decode cX6_undo 12 = .ok (.getfield 55, 3) := by decide +kernel
theorem dX6_undo_15 : decode cX6_undo 15 = .ok (.iconst 1, 1) := by decide +kernel
theorem dX6_undo_16 : decode cX6_undo 16 = .ok (.isub, 1) := by decide +kernel
theorem dX6_undo_17 : decode cX6_undo 17 = .ok (.putfield 55, 3) := by decide +kernel
theorem dX6_undo_20 : decode cX6_undo 20 = .ok (.aload_n 0, 1) := by decide +kernel
theorem dX6_undo_21 : decode cX6_undo 21 = .ok (.bipush 27, 2) := by decide +kernel
theorem dX6_undo_23 : decode cX6_undo 23 = .ok (.bipush 9, 2) := by decide +kernel
theorem dX6_undo_25 : decode cX6_undo 25 = .ok (.aload_n 0, 1) := by decide +kernel
theorem dX6_undo_26 : decode cX6_undo 26 = .ok (.getfield 55, 3) := by decide +kernel
theorem dX6_undo_29 : decode cX6_undo 29 = .ok (.imul, 1) := by decide +kernel
theorem dX6_undo_30 : decode cX6_undo 30 = .ok (.iadd, 1) := by decide +kernel
theorem dX6_undo_31 : decode cX6_undo 31 = .ok (.iconst 0, 1) := by decide +kernel
theorem dX6_undo_32 : decode cX6_undo 32 = .ok (.invokevirtual 58, 3) := by decide +kernel
theorem dX6_undo_35 : decode cX6_undo 35 = .ok (.aload_n 0, 1) := by decide +kernel
theorem dX6_undo_36 : decode cX6_undo 36 = .ok (.getfield 55, 3) := by decide +kernel
theorem dX6_undo_39 : decode cX6_undo 39 = .ok (.ireturn, 1) := by decide +kernel
theorem dX6_term_0 : decode cX6_term 0 = .ok (.iload_n 1, 1) := by decide +kernel
theorem dX6_term_1 : decode cX6_term 1 = .ok (.ifCond .ge 7, 3) := by decide +kernel
theorem dX6_term_4 : decode cX6_term 4 = .ok (.iconst (-1), 1) := by decide +kernel
theorem dX6_term_5 : decode cX6_term 5 = .ok (.goto 26, 3) := by decide +kernel
theorem dX6_term_8 : decode cX6_term 8 = .ok (.iload_n 1, 1) := by decide +kernel
theorem dX6_term_9 : decode cX6_term 9 = .ok (.aload_n 0, 1) := by decide +kernel
theorem dX6_term_10 : decode cX6_term 10 = .ok (.getfield 7, 3) := by decide +kernel
theorem dX6_term_13 : decode cX6_term 13 = .ok (.iconst 0, 1) := by decide +kernel
theorem dX6_term_14 : decode cX6_term 14 = .ok (.iaload, 1) := by decide +kernel
theorem dX6_term_15 : decode cX6_term 15 = .ok (.if_icmp .ge 14, 3) := by decide +kernel
theorem dX6_term_18 : decode cX6_term 18 = .ok (.aload_n 0, 1) := by decide +kernel
theorem dX6_term_19 : decode cX6_term 19 = .ok (.getfield 7, 3) := by decide +kernel
theorem dX6_term_22 : decode cX6_term 22 = .ok (.iconst 1, 1) := by decide +kernel
theorem dX6_term_23 : decode cX6_term 23 = .ok (.iload_n 1, 1) := by decide +kernel
theorem dX6_term_24 : decode cX6_term 24 = .ok (.iadd, 1) := by decide +kernel
theorem dX6_term_25 : decode cX6_term 25 = .ok (.iaload, 1) := by decide +kernel
theorem dX6_term_26 : decode cX6_term 26 = .ok (.goto 5, 3) := by decide +kernel
theorem dX6_term_29 : decode cX6_term 29 = .ok (.bipush (-9), 2) := by decide +kernel
theorem dX6_term_31 : decode cX6_term 31 = .ok (.ireturn, 1) := by decide +kernel
theorem dX6_isHeld_0 : decode cX6_isHeld 0 = .ok (.iload_n 1, 1) := by decide +kernel
theorem dX6_isHeld_1 : decode cX6_isHeld 1 = .ok (.tableswitch 93 0 3 #[31, 43, 57, 77], 31) := by decide +kernel
theorem dX6_isHeld_32 : decode cX6_isHeld 32 = .ok (.iload_n 2, 1) := by decide +kernel
theorem dX6_isHeld_33 : decode cX6_isHeld 33 = .ok (.iload_n 0, 1) := by decide +kernel
theorem dX6_isHeld_34 : decode cX6_isHeld 34 = .ok (.irem, 1) := by decide +kernel
theorem dX6_isHeld_35 : decode cX6_isHeld 35 = .ok (.ifCond .ne 7, 3) := by decide +kernel
theorem dX6_isHeld_38 : decode cX6_isHeld 38 = .ok (.iconst 1, 1) := by decide +kernel
theorem dX6_isHeld_39 : decode cX6_isHeld 39 = .ok (.goto 4, 3) := by decide +kernel
theorem dX6_isHeld_42 : decode cX6_isHeld 42 = .ok (.iconst 0, 1) := by decide +kernel
theorem dX6_isHeld_43 : decode cX6_isHeld 43 = .ok (.ireturn, 1) := by decide +kernel
theorem dX6_isHeld_44 : decode cX6_isHeld 44 = .ok (.iload_n 2, 1) := by decide +kernel
theorem dX6_isHeld_45 : decode cX6_isHeld 45 = .ok (.iconst 1, 1) := by decide +kernel
theorem dX6_isHeld_46 : decode cX6_isHeld 46 = .ok (.iadd, 1) := by decide +kernel
theorem dX6_isHeld_47 : decode cX6_isHeld 47 = .ok (.iload_n 0, 1) := by decide +kernel
theorem dX6_isHeld_48 : decode cX6_isHeld 48 = .ok (.irem, 1) := by decide +kernel
theorem dX6_isHeld_49 : decode cX6_isHeld 49 = .ok (.ifCond .ne 7, 3) := by decide +kernel
theorem dX6_isHeld_52 : decode cX6_isHeld 52 = .ok (.iconst 1, 1) := by decide +kernel
theorem dX6_isHeld_53 : decode cX6_isHeld 53 = .ok (.goto 4, 3) := by decide +kernel
theorem dX6_isHeld_56 : decode cX6_isHeld 56 = .ok (.iconst 0, 1) := by decide +kernel
theorem dX6_isHeld_57 : decode cX6_isHeld 57 = .ok (.ireturn, 1) := by decide +kernel
theorem dX6_isHeld_58 : decode cX6_isHeld 58 = .ok (.iload_n 2, 1) := by decide +kernel
theorem dX6_isHeld_59 : decode cX6_isHeld 59 = .ok (.iconst 2, 1) := by decide +kernel
theorem dX6_isHeld_60 : decode cX6_isHeld 60 = .ok (.iadd, 1) := by decide +kernel
theorem dX6_isHeld_61 : decode cX6_isHeld 61 = .ok (.iload_n 0, 1) := by decide +kernel
theorem dX6_isHeld_62 : decode cX6_isHeld 62 = .ok (.irem, 1) := by decide +kernel
theorem dX6_isHeld_63 : decode cX6_isHeld 63 = .ok (.ifCond .ne 13, 3) := by decide +kernel
theorem dX6_isHeld_66 : decode cX6_isHeld 66 = .ok (.iload_n 2, 1) := by decide +kernel
theorem dX6_isHeld_67 : decode cX6_isHeld 67 = .ok (.iconst 2, 1) := by decide +kernel
theorem dX6_isHeld_68 : decode cX6_isHeld 68 = .ok (.irem, 1) := by decide +kernel
theorem dX6_isHeld_69 : decode cX6_isHeld 69 = .ok (.ifCond .ne 7, 3) := by decide +kernel
theorem dX6_isHeld_72 : decode cX6_isHeld 72 = .ok (.iconst 1, 1) := by decide +kernel
theorem dX6_isHeld_73 : decode cX6_isHeld 73 = .ok (.goto 4, 3) := by decide +kernel
theorem dX6_isHeld_76 : decode cX6_isHeld 76 = .ok (.iconst 0, 1) := by decide +kernel
theorem dX6_isHeld_77 : decode cX6_isHeld 77 = .ok (.ireturn, 1) := by decide +kernel
theorem dX6_isHeld_78 : decode cX6_isHeld 78 = .ok (.iload_n 2, 1) := by decide +kernel
theorem dX6_isHeld_79 : decode cX6_isHeld 79 = .ok (.iconst 1, 1) := by decide +kernel
theorem dX6_isHeld_80 : decode cX6_isHeld 80 = .ok (.iadd, 1) := by decide +kernel
theorem dX6_isHeld_81 : decode cX6_isHeld 81 = .ok (.iload_n 0, 1) := by decide +kernel
theorem dX6_isHeld_82 : decode cX6_isHeld 82 = .ok (.iconst 1, 1) := by decide +kernel
theorem dX6_isHeld_83 : decode cX6_isHeld 83 = .ok (.isub, 1) := by decide +kernel
theorem dX6_isHeld_84 : decode cX6_isHeld 84 = .ok (.irem, 1) := by decide +kernel
theorem dX6_isHeld_85 : decode cX6_isHeld 85 = .ok (.ifCond .ne 7, 3) := by decide +kernel
theorem dX6_isHeld_88 : decode cX6_isHeld 88 = .ok (.iconst 1, 1) := by decide +kernel
theorem dX6_isHeld_89 : decode cX6_isHeld 89 = .ok (.goto 4, 3) := by decide +kernel
theorem dX6_isHeld_92 : decode cX6_isHeld 92 = .ok (.iconst 0, 1) := by decide +kernel
theorem dX6_isHeld_93 : decode cX6_isHeld 93 = .ok (.ireturn, 1) := by decide +kernel
theorem dX6_isHeld_94 : decode cX6_isHeld 94 = .ok (.iload_n 2, 1) := by decide +kernel
theorem dX6_isHeld_95 : decode cX6_isHeld 95 = .ok (.iload_n 0, 1) := by decide +kernel
theorem dX6_isHeld_96 : decode cX6_isHeld 96 = .ok (.iconst 1, 1) := by decide +kernel
theorem dX6_isHeld_97 : decode cX6_isHeld 97 = .ok (.isub, 1) := by decide +kernel
theorem dX6_isHeld_98 : decode cX6_isHeld 98 = .ok (.irem, 1) := by decide +kernel
theorem dX6_isHeld_99 : decode cX6_isHeld 99 = .ok (.ifCond .ne 7, 3) := by decide +kernel
theorem dX6_isHeld_102 : decode cX6_isHeld 102 = .ok (.iconst 1, 1) := by decide +kernel
theorem dX6_isHeld_103 : decode cX6_isHeld 103 = .ok (.goto 4, 3) := by decide +kernel
theorem dX6_isHeld_106 : decode cX6_isHeld 106 = .ok (.iconst 0, 1) := by decide +kernel
theorem dX6_isHeld_107 : decode cX6_isHeld 107 = .ok (.ireturn, 1) := by decide +kernel
theorem dX6_held_0 : decode cX6_held 0 = .ok (.iconst 0, 1) := by decide +kernel
theorem dX6_held_1 : decode cX6_held 1 = .ok (.istore_n 2, 1) := by decide +kernel
theorem dX6_held_2 : decode cX6_held 2 = .ok (.iconst 0, 1) := by decide +kernel
theorem dX6_held_3 : decode cX6_held 3 = .ok (.istore_n 3, 1) := by decide +kernel
theorem dX6_held_4 : decode cX6_held 4 = .ok (.iload_n 3, 1) := by decide +kernel
theorem dX6_held_5 : decode cX6_held 5 = .ok (.iconst 5, 1) := by decide +kernel
theorem dX6_held_6 : decode cX6_held 6 = .ok (.if_icmp .ge 28, 3) := by decide +kernel
theorem dX6_held_9 : decode cX6_held 9 = .ok (.iload_n 2, 1) := by decide +kernel
theorem dX6_held_10 : decode cX6_held 10 = .ok (.iload_n 0, 1) := by decide +kernel
theorem dX6_held_11 : decode cX6_held 11 = .ok (.iload_n 3, 1) := by decide +kernel
theorem dX6_held_12 : decode cX6_held 12 = .ok (.iload_n 1, 1) := by decide +kernel
theorem dX6_held_13 : decode cX6_held 13 = .ok (.invokestatic 189, 3) := by decide +kernel
theorem dX6_held_16 : decode cX6_held 16 = .ok (.ifCond .eq 9, 3) := by decide +kernel
theorem dX6_held_19 : decode cX6_held 19 = .ok (.iconst 1, 1) := by decide +kernel
theorem dX6_held_20 : decode cX6_held 20 = .ok (.iload_n 3, 1) := by decide +kernel
theorem dX6_held_21 : decode cX6_held 21 = .ok (.ishl, 1) := by decide +kernel
theorem dX6_held_22 : decode cX6_held 22 = .ok (.goto 4, 3) := by decide +kernel
theorem dX6_held_25 : decode cX6_held 25 = .ok (.iconst 0, 1) := by decide +kernel
theorem dX6_held_26 : decode cX6_held 26 = .ok (.ior, 1) := by decide +kernel
theorem dX6_held_27 : decode cX6_held 27 = .ok (.istore_n 2, 1) := by decide +kernel
theorem dX6_held_28 : decode cX6_held 28 = .ok (.iinc 3 1, 3) := by decide +kernel
theorem dX6_held_31 : decode cX6_held 31 = .ok (.goto (-27), 3) := by decide +kernel
theorem dX6_held_34 : decode cX6_held 34 = .ok (.iload_n 2, 1) := by decide +kernel
theorem dX6_held_35 : decode cX6_held 35 = .ok (.ireturn, 1) := by decide +kernel
theorem dX6_holds_0 : decode cX6_holds 0 = .ok (.iload_n 1, 1) := by decide +kernel
theorem dX6_holds_1 : decode cX6_holds 1 = .ok (.i2l, 1) := by decide +kernel
theorem dX6_holds_2 : decode cX6_holds 2 = .ok (.ldc2_w 126, 3) := by decide +kernel
theorem dX6_holds_5 : decode cX6_holds 5 = .ok (.ldc2_w 193, 3) := by decide +kernel
theorem dX6_holds_8 : decode cX6_holds 8 = .ok (.invokestatic 66, 3) := by decide +kernel
theorem dX6_holds_11 : decode cX6_holds 11 = .ok (.ifCond .eq 27, 3) := by decide +kernel
theorem dX6_holds_14 : decode cX6_holds 14 = .ok (.iload_n 2, 1) := by decide +kernel
theorem dX6_holds_15 : decode cX6_holds 15 = .ok (.i2l, 1) := by decide +kernel
theorem dX6_holds_16 : decode cX6_holds 16 = .ok (.lconst 0, 1) := by decide +kernel
theorem dX6_holds_17 : decode cX6_holds 17 = .ok (.ldc2_w 168, 3) := by decide +kernel
theorem dX6_holds_20 : decode cX6_holds 20 = .ok (.invokestatic 66, 3) := by decide +kernel
theorem dX6_holds_23 : decode cX6_holds 23 = .ok (.ifCond .eq 15, 3) := by decide +kernel
theorem dX6_holds_26 : decode cX6_holds 26 = .ok (.iload_n 3, 1) := by decide +kernel
theorem dX6_holds_27 : decode cX6_holds 27 = .ok (.i2l, 1) := by decide +kernel
theorem dX6_holds_28 : decode cX6_holds 28 = .ok (.lconst 1, 1) := by decide +kernel
theorem dX6_holds_29 : decode cX6_holds 29 = .ok (.ldc2_w 195, 3) := by decide +kernel
theorem dX6_holds_32 : decode cX6_holds 32 = .ok (.invokestatic 66, 3) := by decide +kernel
theorem dX6_holds_35 : decode cX6_holds 35 = .ok (.ifCond .ne 7, 3) := by decide +kernel
theorem dX6_holds_38 : decode cX6_holds 38 = .ok (.iconst (-1), 1) := by decide +kernel
theorem dX6_holds_39 : decode cX6_holds 39 = .ok (.goto 12, 3) := by decide +kernel
theorem dX6_holds_42 : decode cX6_holds 42 = .ok (.iload_n 1, 1) := by decide +kernel
theorem dX6_holds_43 : decode cX6_holds 43 = .ok (.iload_n 3, 1) := by decide +kernel
theorem dX6_holds_44 : decode cX6_holds 44 = .ok (.invokestatic 197, 3) := by decide +kernel
theorem dX6_holds_47 : decode cX6_holds 47 = .ok (.iload_n 2, 1) := by decide +kernel
theorem dX6_holds_48 : decode cX6_holds 48 = .ok (.ishr, 1) := by decide +kernel
theorem dX6_holds_49 : decode cX6_holds 49 = .ok (.iconst 1, 1) := by decide +kernel
theorem dX6_holds_50 : decode cX6_holds 50 = .ok (.iand, 1) := by decide +kernel
theorem dX6_holds_51 : decode cX6_holds 51 = .ok (.ireturn, 1) := by decide +kernel
theorem dX6_covered_0 : decode cX6_covered 0 = .ok (.iload_n 1, 1) := by decide +kernel
theorem dX6_covered_1 : decode cX6_covered 1 = .ok (.i2l, 1) := by decide +kernel
theorem dX6_covered_2 : decode cX6_covered 2 = .ok (.ldc2_w 126, 3) := by decide +kernel
theorem dX6_covered_5 : decode cX6_covered 5 = .ok (.ldc2_w 193, 3) := by decide +kernel
theorem dX6_covered_8 : decode cX6_covered 8 = .ok (.invokestatic 66, 3) := by decide +kernel
theorem dX6_covered_11 : decode cX6_covered 11 = .ok (.ifCond .eq 27, 3) := by decide +kernel
theorem dX6_covered_14 : decode cX6_covered 14 = .ok (.iload_n 2, 1) := by decide +kernel
theorem dX6_covered_15 : decode cX6_covered 15 = .ok (.i2l, 1) := by decide +kernel
theorem dX6_covered_16 : decode cX6_covered 16 = .ok (.lconst 1, 1) := by decide +kernel
theorem dX6_covered_17 : decode cX6_covered 17 = .ok (.ldc2_w 200, 3) := by decide +kernel
theorem dX6_covered_20 : decode cX6_covered 20 = .ok (.invokestatic 66, 3) := by decide +kernel
theorem dX6_covered_23 : decode cX6_covered 23 = .ok (.ifCond .eq 15, 3) := by decide +kernel
theorem dX6_covered_26 : decode cX6_covered 26 = .ok (.iload_n 3, 1) := by decide +kernel
theorem dX6_covered_27 : decode cX6_covered 27 = .ok (.i2l, 1) := by decide +kernel
theorem dX6_covered_28 : decode cX6_covered 28 = .ok (.lconst 0, 1) := by decide +kernel
theorem dX6_covered_29 : decode cX6_covered 29 = .ok (.ldc2_w 202, 3) := by decide +kernel
theorem dX6_covered_32 : decode cX6_covered 32 = .ok (.invokestatic 66, 3) := by decide +kernel
theorem dX6_covered_35 : decode cX6_covered 35 = .ok (.ifCond .ne 5, 3) := by decide +kernel
theorem dX6_covered_38 : decode cX6_covered 38 = .ok (.iconst (-1), 1) := by decide +kernel
theorem dX6_covered_39 : decode cX6_covered 39 = .ok (.ireturn, 1) := by decide +kernel
theorem dX6_covered_40 : decode cX6_covered 40 = .ok (.iconst 0, 1) := by decide +kernel
theorem dX6_covered_41 : decode cX6_covered 41 = .ok (.istore 4, 2) := by decide +kernel
theorem dX6_covered_43 : decode cX6_covered 43 = .ok (.iconst 0, 1) := by decide +kernel
theorem dX6_covered_44 : decode cX6_covered 44 = .ok (.istore 5, 2) := by decide +kernel
theorem dX6_covered_46 : decode cX6_covered 46 = .ok (.iload 5, 2) := by decide +kernel
theorem dX6_covered_48 : decode cX6_covered 48 = .ok (.iload_n 2, 1) := by decide +kernel
theorem dX6_covered_49 : decode cX6_covered 49 = .ok (.if_icmp .ge 71, 3) := by decide +kernel
theorem dX6_covered_52 : decode cX6_covered 52 = .ok (.iload_n 3, 1) := by decide +kernel
theorem dX6_covered_53 : decode cX6_covered 53 = .ok (.istore 6, 2) := by decide +kernel
theorem dX6_covered_55 : decode cX6_covered 55 = .ok (.iload 5, 2) := by decide +kernel
theorem dX6_covered_57 : decode cX6_covered 57 = .ok (.ifCond .ne 7, 3) := by decide +kernel
theorem dX6_covered_60 : decode cX6_covered 60 = .ok (.iconst 1, 1) := by decide +kernel
theorem dX6_covered_61 : decode cX6_covered 61 = .ok (.goto 4, 3) := by decide +kernel
theorem dX6_covered_64 : decode cX6_covered 64 = .ok (.iconst 0, 1) := by decide +kernel
theorem dX6_covered_65 : decode cX6_covered 65 = .ok (.istore 7, 2) := by decide +kernel
theorem dX6_covered_67 : decode cX6_covered 67 = .ok (.iload 7, 2) := by decide +kernel
theorem dX6_covered_69 : decode cX6_covered 69 = .ok (.bipush 85, 2) := by decide +kernel
theorem dX6_covered_71 : decode cX6_covered 71 = .ok (.if_icmp .ge 25, 3) := by decide +kernel
theorem dX6_covered_74 : decode cX6_covered 74 = .ok (.iload 6, 2) := by decide +kernel
theorem dX6_covered_76 : decode cX6_covered 76 = .ok (.iload_n 1, 1) := by decide +kernel
theorem dX6_covered_77 : decode cX6_covered 77 = .ok (.iload 5, 2) := by decide +kernel
theorem dX6_covered_79 : decode cX6_covered 79 = .ok (.iload 7, 2) := by decide +kernel
theorem dX6_covered_81 : decode cX6_covered 81 = .ok (.iload_n 2, 1) := by decide +kernel
theorem dX6_covered_82 : decode cX6_covered 82 = .ok (.imul, 1) := by decide +kernel
theorem dX6_covered_83 : decode cX6_covered 83 = .ok (.iadd, 1) := by decide +kernel
theorem dX6_covered_84 : decode cX6_covered 84 = .ok (.invokestatic 197, 3) := by decide +kernel
theorem dX6_covered_87 : decode cX6_covered 87 = .ok (.iand, 1) := by decide +kernel
theorem dX6_covered_88 : decode cX6_covered 88 = .ok (.istore 6, 2) := by decide +kernel
theorem dX6_covered_90 : decode cX6_covered 90 = .ok (.iinc 7 1, 3) := by decide +kernel
theorem dX6_covered_93 : decode cX6_covered 93 = .ok (.goto (-26), 3) := by decide +kernel
theorem dX6_covered_96 : decode cX6_covered 96 = .ok (.iload 4, 2) := by decide +kernel
theorem dX6_covered_98 : decode cX6_covered 98 = .ok (.iload 6, 2) := by decide +kernel
theorem dX6_covered_100 : decode cX6_covered 100 = .ok (.ifCond .eq 10, 3) := by decide +kernel
theorem dX6_covered_103 : decode cX6_covered 103 = .ok (.iconst 1, 1) := by decide +kernel
theorem dX6_covered_104 : decode cX6_covered 104 = .ok (.iload 5, 2) := by decide +kernel
theorem dX6_covered_106 : decode cX6_covered 106 = .ok (.ishl, 1) := by decide +kernel
theorem dX6_covered_107 : decode cX6_covered 107 = .ok (.goto 4, 3) := by decide +kernel
theorem dX6_covered_110 : decode cX6_covered 110 = .ok (.iconst 0, 1) := by decide +kernel
theorem dX6_covered_111 : decode cX6_covered 111 = .ok (.ior, 1) := by decide +kernel
theorem dX6_covered_112 : decode cX6_covered 112 = .ok (.istore 4, 2) := by decide +kernel
theorem dX6_covered_114 : decode cX6_covered 114 = .ok (.iinc 5 1, 3) := by decide +kernel
theorem dX6_covered_117 : decode cX6_covered 117 = .ok (.goto (-71), 3) := by decide +kernel
theorem dX6_covered_120 : decode cX6_covered 120 = .ok (.iload 4, 2) := by decide +kernel
theorem dX6_covered_122 : decode cX6_covered 122 = .ok (.ireturn, 1) := by decide +kernel
theorem dX6_open_0 : decode cX6_open 0 = .ok (.iload_n 1, 1) := by decide +kernel
theorem dX6_open_1 : decode cX6_open 1 = .ok (.i2l, 1) := by decide +kernel
theorem dX6_open_2 : decode cX6_open 2 = .ok (.ldc2_w 126, 3) := by decide +kernel
theorem dX6_open_5 : decode cX6_open 5 = .ok (.ldc2_w 193, 3) := by decide +kernel
theorem dX6_open_8 : decode cX6_open 8 = .ok (.invokestatic 66, 3) := by decide +kernel
theorem dX6_open_11 : decode cX6_open 11 = .ok (.ifCond .eq 15, 3) := by decide +kernel
theorem dX6_open_14 : decode cX6_open 14 = .ok (.iload_n 2, 1) := by decide +kernel
theorem dX6_open_15 : decode cX6_open 15 = .ok (.i2l, 1) := by decide +kernel
theorem dX6_open_16 : decode cX6_open 16 = .ok (.lconst 0, 1) := by decide +kernel
theorem dX6_open_17 : decode cX6_open 17 = .ok (.ldc2_w 202, 3) := by decide +kernel
theorem dX6_open_20 : decode cX6_open 20 = .ok (.invokestatic 66, 3) := by decide +kernel
theorem dX6_open_23 : decode cX6_open 23 = .ok (.ifCond .ne 5, 3) := by decide +kernel
theorem dX6_open_26 : decode cX6_open 26 = .ok (.iconst (-1), 1) := by decide +kernel
theorem dX6_open_27 : decode cX6_open 27 = .ok (.ireturn, 1) := by decide +kernel
theorem dX6_open_28 : decode cX6_open 28 = .ok (.iconst 1, 1) := by decide +kernel
theorem dX6_open_29 : decode cX6_open 29 = .ok (.istore_n 3, 1) := by decide +kernel
theorem dX6_open_30 : decode cX6_open 30 = .ok (.iload_n 3, 1) := by decide +kernel
theorem dX6_open_31 : decode cX6_open 31 = .ok (.sipush 1000, 3) := by decide +kernel
theorem dX6_open_34 : decode cX6_open 34 = .ok (.if_icmp .ge 19, 3) := by decide +kernel
theorem dX6_open_37 : decode cX6_open 37 = .ok (.iload_n 1, 1) := by decide +kernel
theorem dX6_open_38 : decode cX6_open 38 = .ok (.iload_n 3, 1) := by decide +kernel
theorem dX6_open_39 : decode cX6_open 39 = .ok (.invokestatic 197, 3) := by decide +kernel
theorem dX6_open_42 : decode cX6_open 42 = .ok (.iload_n 2, 1) := by decide +kernel
theorem dX6_open_43 : decode cX6_open 43 = .ok (.iand, 1) := by decide +kernel
theorem dX6_open_44 : decode cX6_open 44 = .ok (.ifCond .eq 9, 3) := by decide +kernel
theorem dX6_open_47 : decode cX6_open 47 = .ok (.iinc 3 1, 3) := by decide +kernel
theorem dX6_open_50 : decode cX6_open 50 = .ok (.goto (-20), 3) := by decide +kernel
theorem dX6_open_53 : decode cX6_open 53 = .ok (.iload_n 3, 1) := by decide +kernel
theorem dX6_open_54 : decode cX6_open 54 = .ok (.sipush 1000, 3) := by decide +kernel
theorem dX6_open_57 : decode cX6_open 57 = .ok (.if_icmp .ge 7, 3) := by decide +kernel
theorem dX6_open_60 : decode cX6_open 60 = .ok (.iload_n 3, 1) := by decide +kernel
theorem dX6_open_61 : decode cX6_open 61 = .ok (.goto 5, 3) := by decide +kernel
theorem dX6_open_64 : decode cX6_open 64 = .ok (.bipush (-9), 2) := by decide +kernel
theorem dX6_open_66 : decode cX6_open 66 = .ok (.ireturn, 1) := by decide +kernel
theorem dX6_sees_0 : decode cX6_sees 0 = .ok (.iload_n 1, 1) := by decide +kernel
theorem dX6_sees_1 : decode cX6_sees 1 = .ok (.i2l, 1) := by decide +kernel
theorem dX6_sees_2 : decode cX6_sees 2 = .ok (.ldc2_w 126, 3) := by decide +kernel
theorem dX6_sees_5 : decode cX6_sees 5 = .ok (.ldc2_w 193, 3) := by decide +kernel
theorem dX6_sees_8 : decode cX6_sees 8 = .ok (.invokestatic 66, 3) := by decide +kernel
theorem dX6_sees_11 : decode cX6_sees 11 = .ok (.ifCond .eq 25, 3) := by decide +kernel
theorem dX6_sees_14 : decode cX6_sees 14 = .ok (.iload_n 2, 1) := by decide +kernel
theorem dX6_sees_15 : decode cX6_sees 15 = .ok (.i2l, 1) := by decide +kernel
theorem dX6_sees_16 : decode cX6_sees 16 = .ok (.lconst 1, 1) := by decide +kernel
theorem dX6_sees_17 : decode cX6_sees 17 = .ok (.ldc2_w 195, 3) := by decide +kernel
theorem dX6_sees_20 : decode cX6_sees 20 = .ok (.invokestatic 66, 3) := by decide +kernel
theorem dX6_sees_23 : decode cX6_sees 23 = .ok (.ifCond .eq 13, 3) := by decide +kernel
theorem dX6_sees_26 : decode cX6_sees 26 = .ok (.iload_n 3, 1) := by decide +kernel
theorem dX6_sees_27 : decode cX6_sees 27 = .ok (.i2l, 1) := by decide +kernel
theorem dX6_sees_28 : decode cX6_sees 28 = .ok (.lconst 0, 1) := by decide +kernel
theorem dX6_sees_29 : decode cX6_sees 29 = .ok (.lconst 1, 1) := by decide +kernel
theorem dX6_sees_30 : decode cX6_sees 30 = .ok (.invokestatic 66, 3) := by decide +kernel
theorem dX6_sees_33 : decode cX6_sees 33 = .ok (.ifCond .ne 5, 3) := by decide +kernel
theorem dX6_sees_36 : decode cX6_sees 36 = .ok (.iconst (-1), 1) := by decide +kernel
theorem dX6_sees_37 : decode cX6_sees 37 = .ok (.ireturn, 1) := by decide +kernel
theorem dX6_sees_38 : decode cX6_sees 38 = .ok (.aload_n 0, 1) := by decide +kernel
theorem dX6_sees_39 : decode cX6_sees 39 = .ok (.getfield 123, 3) := by decide +kernel
theorem dX6_sees_42 : decode cX6_sees 42 = .ok (.bipush 6, 2) := by decide +kernel
theorem dX6_sees_44 : decode cX6_sees 44 = .ok (.if_icmp .ne 6, 3) := by decide +kernel
theorem dX6_sees_47 : decode cX6_sees 47 = .ok (.bipush (-3), 2) := by decide +kernel
theorem dX6_sees_49 : decode cX6_sees 49 = .ok (.ireturn, 1) := by decide +kernel
theorem dX6_sees_50 : decode cX6_sees 50 = .ok (.aload_n 0, 1) := by decide +kernel
theorem dX6_sees_51 : decode cX6_sees 51 = .ok (.getfield 24, 3) := by decide +kernel
theorem dX6_sees_54 : decode cX6_sees 54 = .ok (.aload_n 0, 1) := by decide +kernel
theorem dX6_sees_55 : decode cX6_sees 55 = .ok (.getfield 123, 3) := by decide +kernel
theorem dX6_sees_58 : decode cX6_sees 58 = .ok (.iload_n 1, 1) := by decide +kernel
theorem dX6_sees_59 : decode cX6_sees 59 = .ok (.iastore, 1) := by decide +kernel
theorem dX6_sees_60 : decode cX6_sees 60 = .ok (.aload_n 0, 1) := by decide +kernel
theorem dX6_sees_61 : decode cX6_sees 61 = .ok (.getfield 27, 3) := by decide +kernel
theorem dX6_sees_64 : decode cX6_sees 64 = .ok (.aload_n 0, 1) := by decide +kernel
theorem dX6_sees_65 : decode cX6_sees 65 = .ok (.getfield 123, 3) := by decide +kernel
theorem dX6_sees_68 : decode cX6_sees 68 = .ok (.iload_n 2, 1) := by decide +kernel
theorem dX6_sees_69 : decode cX6_sees 69 = .ok (.iastore, 1) := by decide +kernel
theorem dX6_sees_70 : decode cX6_sees 70 = .ok (.aload_n 0, 1) := by decide +kernel
theorem dX6_sees_71 : decode cX6_sees 71 = .ok (.getfield 30, 3) := by decide +kernel
theorem dX6_sees_74 : decode cX6_sees 74 = .ok (.aload_n 0, 1) := by decide +kernel
theorem dX6_sees_75 : decode cX6_sees 75 = .ok (.getfield 123, 3) := by decide +kernel
theorem dX6_sees_78 : decode cX6_sees 78 = .ok (.iload_n 3, 1) := by decide +kernel
theorem dX6_sees_79 : decode cX6_sees 79 = .ok (.iastore, 1) := by decide +kernel
theorem dX6_sees_80 : decode cX6_sees 80 = .ok (.aload_n 0, 1) := by decide +kernel
theorem dX6_sees_81 : decode cX6_sees 81 = .ok (.dup, 1) := by decide +kernel
theorem dX6_sees_82 : decode cX6_sees 82 = .ok (.getfield 123, 3) := by decide +kernel
theorem dX6_sees_85 : decode cX6_sees 85 = .ok (.iconst 1, 1) := by decide +kernel
theorem dX6_sees_86 : decode cX6_sees 86 = .ok (.iadd, 1) := by decide +kernel
theorem dX6_sees_87 : decode cX6_sees 87 = .ok (.putfield 123, 3) := by decide +kernel
theorem dX6_sees_90 : decode cX6_sees 90 = .ok (.aload_n 0, 1) := by decide +kernel
theorem dX6_sees_91 : decode cX6_sees 91 = .ok (.getfield 123, 3) := by decide +kernel
theorem dX6_sees_94 : decode cX6_sees 94 = .ok (.ireturn, 1) := by decide +kernel
theorem dX6_forget_0 : decode cX6_forget 0 = .ok (.aload_n 0, 1) := by decide +kernel
theorem dX6_forget_1 : decode cX6_forget 1 = .ok (.getfield 123, 3) := by decide +kernel
theorem dX6_forget_4 : decode cX6_forget 4 = .ok (.istore_n 1, 1) := by decide +kernel
theorem dX6_forget_5 : decode cX6_forget 5 = .ok (.aload_n 0, 1) := by decide +kernel
theorem dX6_forget_6 : decode cX6_forget 6 = .ok (.iconst 0, 1) := by decide +kernel
theorem dX6_forget_7 : decode cX6_forget 7 = .ok (.putfield 123, 3) := by decide +kernel
theorem dX6_forget_10 : decode cX6_forget 10 = .ok (.iload_n 1, 1) := by decide +kernel
theorem dX6_forget_11 : decode cX6_forget 11 = .ok (.ireturn, 1) := by decide +kernel
theorem dX6_unseen_0 : decode cX6_unseen 0 = .ok (.bipush 31, 2) := by decide +kernel
theorem dX6_unseen_2 : decode cX6_unseen 2 = .ok (.istore_n 1, 1) := by decide +kernel
theorem dX6_unseen_3 : decode cX6_unseen 3 = .ok (.iconst 0, 1) := by decide +kernel
theorem dX6_unseen_4 : decode cX6_unseen 4 = .ok (.istore_n 2, 1) := by decide +kernel
theorem dX6_unseen_5 : decode cX6_unseen 5 = .ok (.iload_n 2, 1) := by decide +kernel
theorem dX6_unseen_6 : decode cX6_unseen 6 = .ok (.aload_n 0, 1) := by decide +kernel
theorem dX6_unseen_7 : decode cX6_unseen 7 = .ok (.getfield 123, 3) := by decide +kernel
theorem dX6_unseen_10 : decode cX6_unseen 10 = .ok (.if_icmp .ge 45, 3) := by decide +kernel
theorem dX6_unseen_13 : decode cX6_unseen 13 = .ok (.aload_n 0, 1) := by decide +kernel
theorem dX6_unseen_14 : decode cX6_unseen 14 = .ok (.getfield 24, 3) := by decide +kernel
theorem dX6_unseen_17 : decode cX6_unseen 17 = .ok (.iload_n 2, 1) := by decide +kernel
theorem dX6_unseen_18 : decode cX6_unseen 18 = .ok (.iaload, 1) := by decide +kernel
theorem dX6_unseen_19 : decode cX6_unseen 19 = .ok (.aload_n 0, 1) := by decide +kernel
theorem dX6_unseen_20 : decode cX6_unseen 20 = .ok (.getfield 27, 3) := by decide +kernel
theorem dX6_unseen_23 : decode cX6_unseen 23 = .ok (.iload_n 2, 1) := by decide +kernel
theorem dX6_unseen_24 : decode cX6_unseen 24 = .ok (.iaload, 1) := by decide +kernel
theorem dX6_unseen_25 : decode cX6_unseen 25 = .ok (.invokestatic 197, 3) := by decide +kernel
theorem dX6_unseen_28 : decode cX6_unseen 28 = .ok (.istore_n 3, 1) := by decide +kernel
theorem dX6_unseen_29 : decode cX6_unseen 29 = .ok (.iload_n 1, 1) := by decide +kernel
theorem dX6_unseen_30 : decode cX6_unseen 30 = .ok (.aload_n 0, 1) := by decide +kernel
theorem dX6_unseen_31 : decode cX6_unseen 31 = .ok (.getfield 30, 3) := by decide +kernel
theorem dX6_unseen_34 : decode cX6_unseen 34 = .ok (.iload_n 2, 1) := by decide +kernel
theorem dX6_unseen_35 : decode cX6_unseen 35 = .ok (.iaload, 1) := by decide +kernel
theorem dX6_unseen_36 : decode cX6_unseen 36 = .ok (.iconst 1, 1) := by decide +kernel
theorem dX6_unseen_37 : decode cX6_unseen 37 = .ok (.if_icmp .ne 7, 3) := by decide +kernel
theorem dX6_unseen_40 : decode cX6_unseen 40 = .ok (.iload_n 3, 1) := by decide +kernel
theorem dX6_unseen_41 : decode cX6_unseen 41 = .ok (.goto 6, 3) := by decide +kernel
theorem dX6_unseen_44 : decode cX6_unseen 44 = .ok (.iload_n 3, 1) := by decide +kernel
theorem dX6_unseen_45 : decode cX6_unseen 45 = .ok (.iconst (-1), 1) := by decide +kernel
theorem dX6_unseen_46 : decode cX6_unseen 46 = .ok (.ixor, 1) := by decide +kernel
theorem dX6_unseen_47 : decode cX6_unseen 47 = .ok (.iand, 1) := by decide +kernel
theorem dX6_unseen_48 : decode cX6_unseen 48 = .ok (.istore_n 1, 1) := by decide +kernel
theorem dX6_unseen_49 : decode cX6_unseen 49 = .ok (.iinc 2 1, 3) := by decide +kernel
theorem dX6_unseen_52 : decode cX6_unseen 52 = .ok (.goto (-47), 3) := by decide +kernel
theorem dX6_unseen_55 : decode cX6_unseen 55 = .ok (.iload_n 1, 1) := by decide +kernel
theorem dX6_unseen_56 : decode cX6_unseen 56 = .ok (.ireturn, 1) := by decide +kernel
theorem dX6_ones_0 : decode cX6_ones 0 = .ok (.iconst 0, 1) := by decide +kernel
theorem dX6_ones_1 : decode cX6_ones 1 = .ok (.istore_n 1, 1) := by decide +kernel
theorem dX6_ones_2 : decode cX6_ones 2 = .ok (.iconst 0, 1) := by decide +kernel
theorem dX6_ones_3 : decode cX6_ones 3 = .ok (.istore_n 2, 1) := by decide +kernel
theorem dX6_ones_4 : decode cX6_ones 4 = .ok (.iload_n 2, 1) := by decide +kernel
theorem dX6_ones_5 : decode cX6_ones 5 = .ok (.iconst 5, 1) := by decide +kernel
theorem dX6_ones_6 : decode cX6_ones 6 = .ok (.if_icmp .ge 17, 3) := by decide +kernel
theorem dX6_ones_9 : decode cX6_ones 9 = .ok (.iload_n 1, 1) := by decide +kernel
theorem dX6_ones_10 : decode cX6_ones 10 = .ok (.iload_n 0, 1) := by decide +kernel
theorem dX6_ones_11 : decode cX6_ones 11 = .ok (.iload_n 2, 1) := by decide +kernel
theorem dX6_ones_12 : decode cX6_ones 12 = .ok (.ishr, 1) := by decide +kernel
theorem dX6_ones_13 : decode cX6_ones 13 = .ok (.iconst 1, 1) := by decide +kernel
theorem dX6_ones_14 : decode cX6_ones 14 = .ok (.iand, 1) := by decide +kernel
theorem dX6_ones_15 : decode cX6_ones 15 = .ok (.iadd, 1) := by decide +kernel
theorem dX6_ones_16 : decode cX6_ones 16 = .ok (.istore_n 1, 1) := by decide +kernel
theorem dX6_ones_17 : decode cX6_ones 17 = .ok (.iinc 2 1, 3) := by decide +kernel
theorem dX6_ones_20 : decode cX6_ones 20 = .ok (.goto (-16), 3) := by decide +kernel
theorem dX6_ones_23 : decode cX6_ones 23 = .ok (.iload_n 1, 1) := by decide +kernel
theorem dX6_ones_24 : decode cX6_ones 24 = .ok (.ireturn, 1) := by decide +kernel
theorem dX6_ask_0 : decode cX6_ask 0 = .ok (.iload_n 1, 1) := by decide +kernel
theorem dX6_ask_1 : decode cX6_ask 1 = .ok (.i2l, 1) := by decide +kernel
theorem dX6_ask_2 : decode cX6_ask 2 = .ok (.ldc2_w 126, 3) := by decide +kernel
theorem dX6_ask_5 : decode cX6_ask 5 = .ok (.ldc2_w 193, 3) := by decide +kernel
theorem dX6_ask_8 : decode cX6_ask 8 = .ok (.invokestatic 66, 3) := by decide +kernel
theorem dX6_ask_11 : decode cX6_ask 11 = .ok (.ifCond .ne 5, 3) := by decide +kernel
theorem dX6_ask_14 : decode cX6_ask 14 = .ok (.iconst (-1), 1) := by decide +kernel
theorem dX6_ask_15 : decode cX6_ask 15 = .ok (.ireturn, 1) := by decide +kernel
theorem dX6_ask_16 : decode cX6_ask 16 = .ok (.aload_n 0, 1) := by decide +kernel
theorem dX6_ask_17 : decode cX6_ask 17 = .ok (.invokevirtual 204, 3) := by decide +kernel
theorem dX6_ask_20 : decode cX6_ask 20 = .ok (.istore_n 2, 1) := by decide +kernel
theorem dX6_ask_21 : decode cX6_ask 21 = .ok (.bipush (-9), 2) := by decide +kernel
theorem dX6_ask_23 : decode cX6_ask 23 = .ok (.istore_n 3, 1) := by decide +kernel
theorem dX6_ask_24 : decode cX6_ask 24 = .ok (.iload_n 2, 1) := by decide +kernel
theorem dX6_ask_25 : decode cX6_ask 25 = .ok (.invokestatic 207, 3) := by decide +kernel
theorem dX6_ask_28 : decode cX6_ask 28 = .ok (.iconst 1, 1) := by decide +kernel
theorem dX6_ask_29 : decode cX6_ask 29 = .ok (.if_icmp .le 8, 3) := by decide +kernel
theorem dX6_ask_32 : decode cX6_ask 32 = .ok (.bipush 6, 2) := by decide +kernel
theorem dX6_ask_34 : decode cX6_ask 34 = .ok (.goto 4, 3) := by decide +kernel
theorem dX6_ask_37 : decode cX6_ask 37 = .ok (.iconst 0, 1) := by decide +kernel
theorem dX6_ask_38 : decode cX6_ask 38 = .ok (.istore 4, 2) := by decide +kernel
theorem dX6_ask_40 : decode cX6_ask 40 = .ok (.iconst 1, 1) := by decide +kernel
theorem dX6_ask_41 : decode cX6_ask 41 = .ok (.istore 5, 2) := by decide +kernel
theorem dX6_ask_43 : decode cX6_ask 43 = .ok (.iload 5, 2) := by decide +kernel
theorem dX6_ask_45 : decode cX6_ask 45 = .ok (.bipush 100, 2) := by decide +kernel
theorem dX6_ask_47 : decode cX6_ask 47 = .ok (.if_icmp .ge 77, 3) := by decide +kernel
theorem dX6_ask_50 : decode cX6_ask 50 = .ok (.iload_n 2, 1) := by decide +kernel
theorem dX6_ask_51 : decode cX6_ask 51 = .ok (.iload_n 1, 1) := by decide +kernel
theorem dX6_ask_52 : decode cX6_ask 52 = .ok (.iload 5, 2) := by decide +kernel
theorem dX6_ask_54 : decode cX6_ask 54 = .ok (.invokestatic 197, 3) := by decide +kernel
theorem dX6_ask_57 : decode cX6_ask 57 = .ok (.iand, 1) := by decide +kernel
theorem dX6_ask_58 : decode cX6_ask 58 = .ok (.invokestatic 207, 3) := by decide +kernel
theorem dX6_ask_61 : decode cX6_ask 61 = .ok (.istore 6, 2) := by decide +kernel
theorem dX6_ask_63 : decode cX6_ask 63 = .ok (.iload_n 2, 1) := by decide +kernel
theorem dX6_ask_64 : decode cX6_ask 64 = .ok (.invokestatic 207, 3) := by decide +kernel
theorem dX6_ask_67 : decode cX6_ask 67 = .ok (.iload 6, 2) := by decide +kernel
theorem dX6_ask_69 : decode cX6_ask 69 = .ok (.isub, 1) := by decide +kernel
theorem dX6_ask_70 : decode cX6_ask 70 = .ok (.istore 7, 2) := by decide +kernel
theorem dX6_ask_72 : decode cX6_ask 72 = .ok (.iload 6, 2) := by decide +kernel
theorem dX6_ask_74 : decode cX6_ask 74 = .ok (.iload 7, 2) := by decide +kernel
theorem dX6_ask_76 : decode cX6_ask 76 = .ok (.if_icmp .le 8, 3) := by decide +kernel
theorem dX6_ask_79 : decode cX6_ask 79 = .ok (.iload 6, 2) := by decide +kernel
theorem dX6_ask_81 : decode cX6_ask 81 = .ok (.goto 5, 3) := by decide +kernel
theorem dX6_ask_84 : decode cX6_ask 84 = .ok (.iload 7, 2) := by decide +kernel
theorem dX6_ask_86 : decode cX6_ask 86 = .ok (.istore 8, 2) := by decide +kernel
theorem dX6_ask_88 : decode cX6_ask 88 = .ok (.iload 8, 2) := by decide +kernel
theorem dX6_ask_90 : decode cX6_ask 90 = .ok (.iload 4, 2) := by decide +kernel
theorem dX6_ask_92 : decode cX6_ask 92 = .ok (.if_icmp .ge 8, 3) := by decide +kernel
theorem dX6_ask_95 : decode cX6_ask 95 = .ok (.iload 5, 2) := by decide +kernel
theorem dX6_ask_97 : decode cX6_ask 97 = .ok (.goto 4, 3) := by decide +kernel
theorem dX6_ask_100 : decode cX6_ask 100 = .ok (.iload_n 3, 1) := by decide +kernel
theorem dX6_ask_101 : decode cX6_ask 101 = .ok (.istore_n 3, 1) := by decide +kernel
theorem dX6_ask_102 : decode cX6_ask 102 = .ok (.iload 8, 2) := by decide +kernel
theorem dX6_ask_104 : decode cX6_ask 104 = .ok (.iload 4, 2) := by decide +kernel
theorem dX6_ask_106 : decode cX6_ask 106 = .ok (.if_icmp .ge 8, 3) := by decide +kernel
theorem dX6_ask_109 : decode cX6_ask 109 = .ok (.iload 8, 2) := by decide +kernel
theorem dX6_ask_111 : decode cX6_ask 111 = .ok (.goto 5, 3) := by decide +kernel
theorem dX6_ask_114 : decode cX6_ask 114 = .ok (.iload 4, 2) := by decide +kernel
theorem dX6_ask_116 : decode cX6_ask 116 = .ok (.istore 4, 2) := by decide +kernel
theorem dX6_ask_118 : decode cX6_ask 118 = .ok (.iinc 5 1, 3) := by decide +kernel
theorem dX6_ask_121 : decode cX6_ask 121 = .ok (.goto (-78), 3) := by decide +kernel
theorem dX6_ask_124 : decode cX6_ask 124 = .ok (.iload_n 3, 1) := by decide +kernel
theorem dX6_ask_125 : decode cX6_ask 125 = .ok (.ireturn, 1) := by decide +kernel
theorem dX6_keep_0 : decode cX6_keep 0 = .ok (.iload_n 1, 1) := by decide +kernel
theorem dX6_keep_1 : decode cX6_keep 1 = .ok (.i2l, 1) := by decide +kernel
theorem dX6_keep_2 : decode cX6_keep 2 = .ok (.lconst 0, 1) := by decide +kernel
theorem dX6_keep_3 : decode cX6_keep 3 = .ok (.lconst 1, 1) := by decide +kernel
theorem dX6_keep_4 : decode cX6_keep 4 = .ok (.invokestatic 66, 3) := by decide +kernel
theorem dX6_keep_7 : decode cX6_keep 7 = .ok (.ifCond .ne 5, 3) := by decide +kernel
theorem dX6_keep_10 : decode cX6_keep 10 = .ok (.iconst (-1), 1) := by decide +kernel
theorem dX6_keep_11 : decode cX6_keep 11 = .ok (.ireturn, 1) := by decide +kernel
theorem dX6_keep_12 : decode cX6_keep 12 = .ok (.aload_n 0, 1) := by decide +kernel
theorem dX6_keep_13 : decode cX6_keep 13 = .ok (.iconst 0, 1) := by decide +kernel
theorem dX6_keep_14 : decode cX6_keep 14 = .ok (.bipush 9, 2) := by decide +kernel
theorem dX6_keep_16 : decode cX6_keep 16 = .ok (.bipush 9, 2) := by decide +kernel
theorem dX6_keep_18 : decode cX6_keep 18 = .ok (.iload_n 1, 1) := by decide +kernel
theorem dX6_keep_19 : decode cX6_keep 19 = .ok (.imul, 1) := by decide +kernel
theorem dX6_keep_20 : decode cX6_keep 20 = .ok (.iadd, 1) := by decide +kernel
theorem dX6_keep_21 : decode cX6_keep 21 = .ok (.invokevirtual 58, 3) := by decide +kernel
theorem dX6_keep_24 : decode cX6_keep 24 = .ok (.aload_n 0, 1) := by decide +kernel
theorem dX6_keep_25 : decode cX6_keep 25 = .ok (.getfield 13, 3) := by decide +kernel
theorem dX6_keep_28 : decode cX6_keep 28 = .ok (.iload_n 1, 1) := by decide +kernel
theorem dX6_keep_29 : decode cX6_keep 29 = .ok (.iconst 1, 1) := by decide +kernel
theorem dX6_keep_30 : decode cX6_keep 30 = .ok (.bastore, 1) := by decide +kernel
theorem dX6_keep_31 : decode cX6_keep 31 = .ok (.aload_n 0, 1) := by decide +kernel
theorem dX6_keep_32 : decode cX6_keep 32 = .ok (.getfield 7, 3) := by decide +kernel
theorem dX6_keep_35 : decode cX6_keep 35 = .ok (.iconst 0, 1) := by decide +kernel
theorem dX6_keep_36 : decode cX6_keep 36 = .ok (.iaload, 1) := by decide +kernel
theorem dX6_keep_37 : decode cX6_keep 37 = .ok (.ireturn, 1) := by decide +kernel
theorem dX6_back_0 : decode cX6_back 0 = .ok (.iload_n 1, 1) := by decide +kernel
theorem dX6_back_1 : decode cX6_back 1 = .ok (.i2l, 1) := by decide +kernel
theorem dX6_back_2 : decode cX6_back 2 = .ok (.lconst 0, 1) := by decide +kernel
theorem dX6_back_3 : decode cX6_back 3 = .ok (.lconst 1, 1) := by decide +kernel
theorem dX6_back_4 : decode cX6_back 4 = .ok (.invokestatic 66, 3) := by decide +kernel
theorem dX6_back_7 : decode cX6_back 7 = .ok (.ifCond .ne 5, 3) := by decide +kernel
theorem dX6_back_10 : decode cX6_back 10 = .ok (.iconst (-1), 1) := by decide +kernel
theorem dX6_back_11 : decode cX6_back 11 = .ok (.ireturn, 1) := by decide +kernel
theorem dX6_back_12 : decode cX6_back 12 = .ok (.aload_n 0, 1) := by decide +kernel
theorem dX6_back_13 : decode cX6_back 13 = .ok (.getfield 13, 3) := by decide +kernel
theorem dX6_back_16 : decode cX6_back 16 = .ok (.iload_n 1, 1) := by decide +kernel
theorem dX6_back_17 : decode cX6_back 17 = .ok (.baload, 1) := by decide +kernel
theorem dX6_back_18 : decode cX6_back 18 = .ok (.ifCond .ne 6, 3) := by decide +kernel
theorem dX6_back_21 : decode cX6_back 21 = .ok (.bipush (-2), 2) := by decide +kernel
theorem dX6_back_23 : decode cX6_back 23 = .ok (.ireturn, 1) := by decide +kernel
theorem dX6_back_24 : decode cX6_back 24 = .ok (.aload_n 0, 1) := by decide +kernel
theorem dX6_back_25 : decode cX6_back 25 = .ok (.bipush 9, 2) := by decide +kernel
theorem dX6_back_27 : decode cX6_back 27 = .ok (.bipush 9, 2) := by decide +kernel
theorem dX6_back_29 : decode cX6_back 29 = .ok (.iload_n 1, 1) := by decide +kernel
theorem dX6_back_30 : decode cX6_back 30 = .ok (.imul, 1) := by decide +kernel
theorem dX6_back_31 : decode cX6_back 31 = .ok (.iadd, 1) := by decide +kernel
theorem dX6_back_32 : decode cX6_back 32 = .ok (.iconst 0, 1) := by decide +kernel
theorem dX6_back_33 : decode cX6_back 33 = .ok (.invokevirtual 58, 3) := by decide +kernel
theorem dX6_back_36 : decode cX6_back 36 = .ok (.aload_n 0, 1) := by decide +kernel
theorem dX6_back_37 : decode cX6_back 37 = .ok (.iconst 0, 1) := by decide +kernel
theorem dX6_back_38 : decode cX6_back 38 = .ok (.putfield 55, 3) := by decide +kernel
theorem dX6_back_41 : decode cX6_back 41 = .ok (.aload_n 0, 1) := by decide +kernel
theorem dX6_back_42 : decode cX6_back 42 = .ok (.getfield 7, 3) := by decide +kernel
theorem dX6_back_45 : decode cX6_back 45 = .ok (.iconst 0, 1) := by decide +kernel
theorem dX6_back_46 : decode cX6_back 46 = .ok (.iaload, 1) := by decide +kernel
theorem dX6_back_47 : decode cX6_back 47 = .ok (.ireturn, 1) := by decide +kernel
theorem dX6_count_0 : decode cX6_count 0 = .ok (.iload_n 1, 1) := by decide +kernel
theorem dX6_count_1 : decode cX6_count 1 = .ok (.tableswitch 105 0 6 #[43, 48, 53, 60, 90, 95, 100], 43) := by decide +kernel
theorem dX6_count_44 : decode cX6_count 44 = .ok (.aload_n 0, 1) := by decide +kernel
theorem dX6_count_45 : decode cX6_count 45 = .ok (.getfield 17, 3) := by decide +kernel
theorem dX6_count_48 : decode cX6_count 48 = .ok (.ireturn, 1) := by decide +kernel
theorem dX6_count_49 : decode cX6_count 49 = .ok (.aload_n 0, 1) := by decide +kernel
theorem dX6_count_50 : decode cX6_count 50 = .ok (.getfield 21, 3) := by decide +kernel
theorem dX6_count_53 : decode cX6_count 53 = .ok (.ireturn, 1) := by decide +kernel
theorem dX6_count_54 : decode cX6_count 54 = .ok (.aload_n 0, 1) := by decide +kernel
theorem dX6_count_55 : decode cX6_count 55 = .ok (.getfield 7, 3) := by decide +kernel
theorem dX6_count_58 : decode cX6_count 58 = .ok (.iconst 0, 1) := by decide +kernel
theorem dX6_count_59 : decode cX6_count 59 = .ok (.iaload, 1) := by decide +kernel
theorem dX6_count_60 : decode cX6_count 60 = .ok (.ireturn, 1) := by decide +kernel
theorem dX6_count_61 : decode cX6_count 61 = .ok (.aload_n 0, 1) := by decide +kernel
theorem dX6_count_62 : decode cX6_count 62 = .ok (.getfield 7, 3) := by decide +kernel
theorem dX6_count_65 : decode cX6_count 65 = .ok (.iconst 0, 1) := by decide +kernel
theorem dX6_count_66 : decode cX6_count 66 = .ok (.iaload, 1) := by decide +kernel
theorem dX6_count_67 : decode cX6_count 67 = .ok (.ifCond .le 21, 3) := by decide +kernel
theorem dX6_count_70 : decode cX6_count 70 = .ok (.aload_n 0, 1) := by decide +kernel
theorem dX6_count_71 : decode cX6_count 71 = .ok (.getfield 7, 3) := by decide +kernel
theorem dX6_count_74 : decode cX6_count 74 = .ok (.iconst 1, 1) := by decide +kernel
theorem dX6_count_75 : decode cX6_count 75 = .ok (.aload_n 0, 1) := by decide +kernel
theorem dX6_count_76 : decode cX6_count 76 = .ok (.getfield 7, 3) := by decide +kernel
theorem dX6_count_79 : decode cX6_count 79 = .ok (.iconst 0, 1) := by decide +kernel
theorem dX6_count_80 : decode cX6_count 80 = .ok (.iaload, 1) := by decide +kernel
theorem dX6_count_81 : decode cX6_count 81 = .ok (.iadd, 1) := by decide +kernel
theorem dX6_count_82 : decode cX6_count 82 = .ok (.iconst 1, 1) := by decide +kernel
theorem dX6_count_83 : decode cX6_count 83 = .ok (.isub, 1) := by decide +kernel
theorem dX6_count_84 : decode cX6_count 84 = .ok (.iaload, 1) := by decide +kernel
theorem dX6_count_85 : decode cX6_count 85 = .ok (.goto 5, 3) := by decide +kernel
theorem dX6_count_88 : decode cX6_count 88 = .ok (.bipush (-9), 2) := by decide +kernel
theorem dX6_count_90 : decode cX6_count 90 = .ok (.ireturn, 1) := by decide +kernel
theorem dX6_count_91 : decode cX6_count 91 = .ok (.aload_n 0, 1) := by decide +kernel
theorem dX6_count_92 : decode cX6_count 92 = .ok (.getfield 123, 3) := by decide +kernel
theorem dX6_count_95 : decode cX6_count 95 = .ok (.ireturn, 1) := by decide +kernel
theorem dX6_count_96 : decode cX6_count 96 = .ok (.aload_n 0, 1) := by decide +kernel
theorem dX6_count_97 : decode cX6_count 97 = .ok (.getfield 73, 3) := by decide +kernel
theorem dX6_count_100 : decode cX6_count 100 = .ok (.ireturn, 1) := by decide +kernel
theorem dX6_count_101 : decode cX6_count 101 = .ok (.aload_n 0, 1) := by decide +kernel
theorem dX6_count_102 : decode cX6_count 102 = .ok (.getfield 55, 3) := by decide +kernel
theorem dX6_count_105 : decode cX6_count 105 = .ok (.ireturn, 1) := by decide +kernel
theorem dX6_count_106 : decode cX6_count 106 = .ok (.iconst (-1), 1) := by decide +kernel
theorem dX6_count_107 : decode cX6_count 107 = .ok (.ireturn, 1) := by decide +kernel
theorem dJ6_bitCount_0f7a4_0 : decode cJ6_bitCount_0f7a4 0 = .ok (.iload_n 0, 1) := by decide +kernel
theorem dJ6_bitCount_0f7a4_1 : decode cJ6_bitCount_0f7a4 1 = .ok (.iload_n 0, 1) := by decide +kernel
theorem dJ6_bitCount_0f7a4_2 : decode cJ6_bitCount_0f7a4 2 = .ok (.iconst 1, 1) := by decide +kernel
theorem dJ6_bitCount_0f7a4_3 : decode cJ6_bitCount_0f7a4 3 = .ok (.iushr, 1) := by decide +kernel
theorem dJ6_bitCount_0f7a4_4 : decode cJ6_bitCount_0f7a4 4 = .ok (.ldc_w 265, 3) := by decide +kernel
theorem dJ6_bitCount_0f7a4_7 : decode cJ6_bitCount_0f7a4 7 = .ok (.iand, 1) := by decide +kernel
theorem dJ6_bitCount_0f7a4_8 : decode cJ6_bitCount_0f7a4 8 = .ok (.isub, 1) := by decide +kernel
theorem dJ6_bitCount_0f7a4_9 : decode cJ6_bitCount_0f7a4 9 = .ok (.istore_n 0, 1) := by decide +kernel
theorem dJ6_bitCount_0f7a4_10 : decode cJ6_bitCount_0f7a4 10 = .ok (.iload_n 0, 1) := by decide +kernel
theorem dJ6_bitCount_0f7a4_11 : decode cJ6_bitCount_0f7a4 11 = .ok (.ldc_w 266, 3) := by decide +kernel
theorem dJ6_bitCount_0f7a4_14 : decode cJ6_bitCount_0f7a4 14 = .ok (.iand, 1) := by decide +kernel
theorem dJ6_bitCount_0f7a4_15 : decode cJ6_bitCount_0f7a4 15 = .ok (.iload_n 0, 1) := by decide +kernel
theorem dJ6_bitCount_0f7a4_16 : decode cJ6_bitCount_0f7a4 16 = .ok (.iconst 2, 1) := by decide +kernel
theorem dJ6_bitCount_0f7a4_17 : decode cJ6_bitCount_0f7a4 17 = .ok (.iushr, 1) := by decide +kernel
theorem dJ6_bitCount_0f7a4_18 : decode cJ6_bitCount_0f7a4 18 = .ok (.ldc_w 266, 3) := by decide +kernel
theorem dJ6_bitCount_0f7a4_21 : decode cJ6_bitCount_0f7a4 21 = .ok (.iand, 1) := by decide +kernel
theorem dJ6_bitCount_0f7a4_22 : decode cJ6_bitCount_0f7a4 22 = .ok (.iadd, 1) := by decide +kernel
theorem dJ6_bitCount_0f7a4_23 : decode cJ6_bitCount_0f7a4 23 = .ok (.istore_n 0, 1) := by decide +kernel
theorem dJ6_bitCount_0f7a4_24 : decode cJ6_bitCount_0f7a4 24 = .ok (.iload_n 0, 1) := by decide +kernel
theorem dJ6_bitCount_0f7a4_25 : decode cJ6_bitCount_0f7a4 25 = .ok (.iload_n 0, 1) := by decide +kernel
theorem dJ6_bitCount_0f7a4_26 : decode cJ6_bitCount_0f7a4 26 = .ok (.iconst 4, 1) := by decide +kernel
theorem dJ6_bitCount_0f7a4_27 : decode cJ6_bitCount_0f7a4 27 = .ok (.iushr, 1) := by decide +kernel
theorem dJ6_bitCount_0f7a4_28 : decode cJ6_bitCount_0f7a4 28 = .ok (.iadd, 1) := by decide +kernel
theorem dJ6_bitCount_0f7a4_29 : decode cJ6_bitCount_0f7a4 29 = .ok (.ldc_w 267, 3) := by decide +kernel
theorem dJ6_bitCount_0f7a4_32 : decode cJ6_bitCount_0f7a4 32 = .ok (.iand, 1) := by decide +kernel
theorem dJ6_bitCount_0f7a4_33 : decode cJ6_bitCount_0f7a4 33 = .ok (.istore_n 0, 1) := by decide +kernel
theorem dJ6_bitCount_0f7a4_34 : decode cJ6_bitCount_0f7a4 34 = .ok (.iload_n 0, 1) := by decide +kernel
theorem dJ6_bitCount_0f7a4_35 : decode cJ6_bitCount_0f7a4 35 = .ok (.iload_n 0, 1) := by decide +kernel
theorem dJ6_bitCount_0f7a4_36 : decode cJ6_bitCount_0f7a4 36 = .ok (.bipush 8, 2) := by decide +kernel
theorem dJ6_bitCount_0f7a4_38 : decode cJ6_bitCount_0f7a4 38 = .ok (.iushr, 1) := by decide +kernel
theorem dJ6_bitCount_0f7a4_39 : decode cJ6_bitCount_0f7a4 39 = .ok (.iadd, 1) := by decide +kernel
theorem dJ6_bitCount_0f7a4_40 : decode cJ6_bitCount_0f7a4 40 = .ok (.istore_n 0, 1) := by decide +kernel
theorem dJ6_bitCount_0f7a4_41 : decode cJ6_bitCount_0f7a4 41 = .ok (.iload_n 0, 1) := by decide +kernel
theorem dJ6_bitCount_0f7a4_42 : decode cJ6_bitCount_0f7a4 42 = .ok (.iload_n 0, 1) := by decide +kernel
theorem dJ6_bitCount_0f7a4_43 : decode cJ6_bitCount_0f7a4 43 = .ok (.bipush 16, 2) := by decide +kernel
theorem dJ6_bitCount_0f7a4_45 : decode cJ6_bitCount_0f7a4 45 = .ok (.iushr, 1) := by decide +kernel
theorem dJ6_bitCount_0f7a4_46 : decode cJ6_bitCount_0f7a4 46 = .ok (.iadd, 1) := by decide +kernel
theorem dJ6_bitCount_0f7a4_47 : decode cJ6_bitCount_0f7a4 47 = .ok (.istore_n 0, 1) := by decide +kernel
theorem dJ6_bitCount_0f7a4_48 : decode cJ6_bitCount_0f7a4 48 = .ok (.iload_n 0, 1) := by decide +kernel
theorem dJ6_bitCount_0f7a4_49 : decode cJ6_bitCount_0f7a4 49 = .ok (.bipush 63, 2) := by decide +kernel
theorem dJ6_bitCount_0f7a4_51 : decode cJ6_bitCount_0f7a4 51 = .ok (.iand, 1) := by decide +kernel
theorem dJ6_bitCount_0f7a4_52 : decode cJ6_bitCount_0f7a4 52 = .ok (.ireturn, 1) := by decide +kernel
theorem dJ9_max_7cf53_0 : decode cJ9_max_7cf53 0 = .ok (.iload_n 0, 1) := by decide +kernel
theorem dJ9_max_7cf53_1 : decode cJ9_max_7cf53 1 = .ok (.iload_n 1, 1) := by decide +kernel
theorem dJ9_max_7cf53_2 : decode cJ9_max_7cf53 2 = .ok (.if_icmp .lt 7, 3) := by decide +kernel
theorem dJ9_max_7cf53_5 : decode cJ9_max_7cf53 5 = .ok (.iload_n 0, 1) := by decide +kernel
theorem dJ9_max_7cf53_6 : decode cJ9_max_7cf53 6 = .ok (.goto 4, 3) := by decide +kernel
theorem dJ9_max_7cf53_9 : decode cJ9_max_7cf53 9 = .ok (.iload_n 1, 1) := by decide +kernel
theorem dJ9_max_7cf53_10 : decode cJ9_max_7cf53 10 = .ok (.ireturn, 1) := by decide +kernel
theorem dJ9_max_f86c9_0 : decode cJ9_max_f86c9 0 = .ok (.lload_n 0, 1) := by decide +kernel
theorem dJ9_max_f86c9_1 : decode cJ9_max_f86c9 1 = .ok (.lload_n 2, 1) := by decide +kernel
theorem dJ9_max_f86c9_2 : decode cJ9_max_f86c9 2 = .ok (.lcmp, 1) := by decide +kernel
theorem dJ9_max_f86c9_3 : decode cJ9_max_f86c9 3 = .ok (.ifCond .lt 7, 3) := by decide +kernel
theorem dJ9_max_f86c9_6 : decode cJ9_max_f86c9 6 = .ok (.lload_n 0, 1) := by decide +kernel
theorem dJ9_max_f86c9_7 : decode cJ9_max_f86c9 7 = .ok (.goto 4, 3) := by decide +kernel
theorem dJ9_max_f86c9_10 : decode cJ9_max_f86c9 10 = .ok (.lload_n 2, 1) := by decide +kernel
theorem dJ9_max_f86c9_11 : decode cJ9_max_f86c9 11 = .ok (.lreturn, 1) := by decide +kernel
theorem dJ9_min_7cf53_0 : decode cJ9_min_7cf53 0 = .ok (.iload_n 0, 1) := by decide +kernel
theorem dJ9_min_7cf53_1 : decode cJ9_min_7cf53 1 = .ok (.iload_n 1, 1) := by decide +kernel
theorem dJ9_min_7cf53_2 : decode cJ9_min_7cf53 2 = .ok (.if_icmp .gt 7, 3) := by decide +kernel
theorem dJ9_min_7cf53_5 : decode cJ9_min_7cf53 5 = .ok (.iload_n 0, 1) := by decide +kernel
theorem dJ9_min_7cf53_6 : decode cJ9_min_7cf53 6 = .ok (.goto 4, 3) := by decide +kernel
theorem dJ9_min_7cf53_9 : decode cJ9_min_7cf53 9 = .ok (.iload_n 1, 1) := by decide +kernel
theorem dJ9_min_7cf53_10 : decode cJ9_min_7cf53 10 = .ok (.ireturn, 1) := by decide +kernel
theorem dL_law_0 : decode cL_law 0 = .ok (.new 7, 3) := by decide +kernel
theorem dL_law_3 : decode cL_law 3 = .ok (.dup, 1) := by decide +kernel
theorem dL_law_4 : decode cL_law 4 = .ok (.invokespecial 9, 3) := by decide +kernel
theorem dL_law_7 : decode cL_law 7 = .ok (.astore_n 1, 1) := by decide +kernel
theorem dL_law_8 : decode cL_law 8 = .ok (.new 10, 3) := by decide +kernel
theorem dL_law_11 : decode cL_law 11 = .ok (.dup, 1) := by decide +kernel
theorem dL_law_12 : decode cL_law 12 = .ok (.invokespecial 12, 3) := by decide +kernel
theorem dL_law_15 : decode cL_law 15 = .ok (.astore_n 2, 1) := by decide +kernel
theorem dL_law_16 : decode cL_law 16 = .ok (.iconst 0, 1) := by decide +kernel
theorem dL_law_17 : decode cL_law 17 = .ok (.istore_n 3, 1) := by decide +kernel
theorem dL_law_18 : decode cL_law 18 = .ok (.iload_n 3, 1) := by decide +kernel
theorem dL_law_19 : decode cL_law 19 = .ok (.aload_n 0, 1) := by decide +kernel
theorem dL_law_20 : decode cL_law 20 = .ok (.arraylength, 1) := by decide +kernel
theorem dL_law_21 : decode cL_law 21 = .ok (.iconst 5, 1) := by decide +kernel
theorem dL_law_22 : decode cL_law 22 = .ok (.isub, 1) := by decide +kernel
theorem dL_law_23 : decode cL_law 23 = .ok (.if_icmp .gt 742, 3) := by decide +kernel
theorem dL_law_26 : decode cL_law 26 = .ok (.aload_n 0, 1) := by decide +kernel
theorem dL_law_27 : decode cL_law 27 = .ok (.iload_n 3, 1) := by decide +kernel
theorem dL_law_28 : decode cL_law 28 = .ok (.iaload, 1) := by decide +kernel
theorem dL_law_29 : decode cL_law 29 = .ok (.bipush 31, 2) := by decide +kernel
theorem dL_law_31 : decode cL_law 31 = .ok (.iand, 1) := by decide +kernel
theorem dL_law_32 : decode cL_law 32 = .ok (.tableswitch 727 0 22 #[108, 131, 144, 157, 180, 213, 246, 259, 282, 315, 348, 401, 424, 447, 490, 533, 566, 609, 622, 635, 658, 681, 704], 108) := by decide +kernel
theorem dL_law_140 : decode cL_law 140 = .ok (.aload_n 1, 1) := by decide +kernel
theorem dL_law_141 : decode cL_law 141 = .ok (.aload_n 0, 1) := by decide +kernel
theorem dL_law_142 : decode cL_law 142 = .ok (.iload_n 3, 1) := by decide +kernel
theorem dL_law_143 : decode cL_law 143 = .ok (.iconst 1, 1) := by decide +kernel
theorem dL_law_144 : decode cL_law 144 = .ok (.iadd, 1) := by decide +kernel
theorem dL_law_145 : decode cL_law 145 = .ok (.iaload, 1) := by decide +kernel
theorem dL_law_146 : decode cL_law 146 = .ok (.invokevirtual 13, 3) := by decide +kernel
theorem dL_law_149 : decode cL_law 149 = .ok (.aload_n 2, 1) := by decide +kernel
theorem dL_law_150 : decode cL_law 150 = .ok (.aload_n 0, 1) := by decide +kernel
theorem dL_law_151 : decode cL_law 151 = .ok (.iload_n 3, 1) := by decide +kernel
theorem dL_law_152 : decode cL_law 152 = .ok (.iconst 1, 1) := by decide +kernel
theorem dL_law_153 : decode cL_law 153 = .ok (.iadd, 1) := by decide +kernel
theorem dL_law_154 : decode cL_law 154 = .ok (.iaload, 1) := by decide +kernel
theorem dL_law_155 : decode cL_law 155 = .ok (.invokevirtual 17, 3) := by decide +kernel
theorem dL_law_158 : decode cL_law 158 = .ok (.if_icmp .eq 601, 3) := by decide +kernel
theorem dL_law_161 : decode cL_law 161 = .ok (.iconst 0, 1) := by decide +kernel
theorem dL_law_162 : decode cL_law 162 = .ok (.ireturn, 1) := by decide +kernel
theorem dL_law_163 : decode cL_law 163 = .ok (.aload_n 1, 1) := by decide +kernel
theorem dL_law_164 : decode cL_law 164 = .ok (.invokevirtual 18, 3) := by decide +kernel
theorem dL_law_167 : decode cL_law 167 = .ok (.aload_n 2, 1) := by decide +kernel
theorem dL_law_168 : decode cL_law 168 = .ok (.invokevirtual 22, 3) := by decide +kernel
theorem dL_law_171 : decode cL_law 171 = .ok (.if_icmp .eq 588, 3) := by decide +kernel
theorem dL_law_174 : decode cL_law 174 = .ok (.iconst 0, 1) := by decide +kernel
theorem dL_law_175 : decode cL_law 175 = .ok (.ireturn, 1) := by decide +kernel
theorem dL_law_176 : decode cL_law 176 = .ok (.aload_n 1, 1) := by decide +kernel
theorem dL_law_177 : decode cL_law 177 = .ok (.invokevirtual 23, 3) := by decide +kernel
theorem dL_law_180 : decode cL_law 180 = .ok (.aload_n 2, 1) := by decide +kernel
theorem dL_law_181 : decode cL_law 181 = .ok (.invokevirtual 26, 3) := by decide +kernel
theorem dL_law_184 : decode cL_law 184 = .ok (.if_icmp .eq 575, 3) := by decide +kernel
theorem dL_law_187 : decode cL_law 187 = .ok (.iconst 0, 1) := by decide +kernel
theorem dL_law_188 : decode cL_law 188 = .ok (.ireturn, 1) := by decide +kernel
theorem dL_law_189 : decode cL_law 189 = .ok (.aload_n 1, 1) := by decide +kernel
theorem dL_law_190 : decode cL_law 190 = .ok (.aload_n 0, 1) := by decide +kernel
theorem dL_law_191 : decode cL_law 191 = .ok (.iload_n 3, 1) := by decide +kernel
theorem dL_law_192 : decode cL_law 192 = .ok (.iconst 1, 1) := by decide +kernel
theorem dL_law_193 : decode cL_law 193 = .ok (.iadd, 1) := by decide +kernel
theorem dL_law_194 : decode cL_law 194 = .ok (.iaload, 1) := by decide +kernel
theorem dL_law_195 : decode cL_law 195 = .ok (.invokevirtual 27, 3) := by decide +kernel
theorem dL_law_198 : decode cL_law 198 = .ok (.aload_n 2, 1) := by decide +kernel
theorem dL_law_199 : decode cL_law 199 = .ok (.aload_n 0, 1) := by decide +kernel
theorem dL_law_200 : decode cL_law 200 = .ok (.iload_n 3, 1) := by decide +kernel
theorem dL_law_201 : decode cL_law 201 = .ok (.iconst 1, 1) := by decide +kernel
theorem dL_law_202 : decode cL_law 202 = .ok (.iadd, 1) := by decide +kernel
theorem dL_law_203 : decode cL_law 203 = .ok (.iaload, 1) := by decide +kernel
theorem dL_law_204 : decode cL_law 204 = .ok (.invokevirtual 30, 3) := by decide +kernel
theorem dL_law_207 : decode cL_law 207 = .ok (.if_icmp .eq 552, 3) := by decide +kernel
theorem dL_law_210 : decode cL_law 210 = .ok (.iconst 0, 1) := by decide +kernel
theorem dL_law_211 : decode cL_law 211 = .ok (.ireturn, 1) := by decide +kernel
theorem dL_law_212 : decode cL_law 212 = .ok (.aload_n 1, 1) := by decide +kernel
theorem dL_law_213 : decode cL_law 213 = .ok (.aload_n 0, 1) := by decide +kernel
theorem dL_law_214 : decode cL_law 214 = .ok (.iload_n 3, 1) := by decide +kernel
theorem dL_law_215 : decode cL_law 215 = .ok (.iconst 1, 1) := by decide +kernel
theorem dL_law_216 : decode cL_law 216 = .ok (.iadd, 1) := by decide +kernel
theorem dL_law_217 : decode cL_law 217 = .ok (.iaload, 1) := by decide +kernel
theorem dL_law_218 : decode cL_law 218 = .ok (.aload_n 0, 1) := by decide +kernel
theorem dL_law_219 : decode cL_law 219 = .ok (.iload_n 3, 1) := by decide +kernel
theorem dL_law_220 : decode cL_law 220 = .ok (.iconst 2, 1) := by decide +kernel
theorem dL_law_221 : decode cL_law 221 = .ok (.iadd, 1) := by decide +kernel
theorem dL_law_222 : decode cL_law 222 = .ok (.iaload, 1) := by decide +kernel
theorem dL_law_223 : decode cL_law 223 = .ok (.invokevirtual 31, 3) := by decide +kernel
theorem dL_law_226 : decode cL_law 226 = .ok (.aload_n 2, 1) := by decide +kernel
theorem dL_law_227 : decode cL_law 227 = .ok (.aload_n 0, 1) := by decide +kernel
theorem dL_law_228 : decode cL_law 228 = .ok (.iload_n 3, 1) := by decide +kernel
theorem dL_law_229 : decode cL_law 229 = .ok (.iconst 1, 1) := by decide +kernel
theorem dL_law_230 : decode cL_law 230 = .ok (.iadd, 1) := by decide +kernel
theorem dL_law_231 : decode cL_law 231 = .ok (.iaload, 1) := by decide +kernel
theorem dL_law_232 : decode cL_law 232 = .ok (.aload_n 0, 1) := by decide +kernel
theorem dL_law_233 : decode cL_law 233 = .ok (.iload_n 3, 1) := by decide +kernel
theorem dL_law_234 : decode cL_law 234 = .ok (.iconst 2, 1) := by decide +kernel
theorem dL_law_235 : decode cL_law 235 = .ok (.iadd, 1) := by decide +kernel
theorem dL_law_236 : decode cL_law 236 = .ok (.iaload, 1) := by decide +kernel
theorem dL_law_237 : decode cL_law 237 = .ok (.invokevirtual 35, 3) := by decide +kernel
theorem dL_law_240 : decode cL_law 240 = .ok (.if_icmp .eq 519, 3) := by decide +kernel
theorem dL_law_243 : decode cL_law 243 = .ok (.iconst 0, 1) := by decide +kernel
theorem dL_law_244 : decode cL_law 244 = .ok (.ireturn, 1) := by decide +kernel
theorem dL_law_245 : decode cL_law 245 = .ok (.aload_n 1, 1) := by decide +kernel
theorem dL_law_246 : decode cL_law 246 = .ok (.aload_n 0, 1) := by decide +kernel
theorem dL_law_247 : decode cL_law 247 = .ok (.iload_n 3, 1) := by decide +kernel
theorem dL_law_248 : decode cL_law 248 = .ok (.iconst 1, 1) := by decide +kernel
theorem dL_law_249 : decode cL_law 249 = .ok (.iadd, 1) := by decide +kernel
theorem dL_law_250 : decode cL_law 250 = .ok (.iaload, 1) := by decide +kernel
theorem dL_law_251 : decode cL_law 251 = .ok (.aload_n 0, 1) := by decide +kernel
theorem dL_law_252 : decode cL_law 252 = .ok (.iload_n 3, 1) := by decide +kernel
theorem dL_law_253 : decode cL_law 253 = .ok (.iconst 2, 1) := by decide +kernel
theorem dL_law_254 : decode cL_law 254 = .ok (.iadd, 1) := by decide +kernel
theorem dL_law_255 : decode cL_law 255 = .ok (.iaload, 1) := by decide +kernel
theorem dL_law_256 : decode cL_law 256 = .ok (.invokevirtual 36, 3) := by decide +kernel
theorem dL_law_259 : decode cL_law 259 = .ok (.aload_n 2, 1) := by decide +kernel
theorem dL_law_260 : decode cL_law 260 = .ok (.aload_n 0, 1) := by decide +kernel
theorem dL_law_261 : decode cL_law 261 = .ok (.iload_n 3, 1) := by decide +kernel
theorem dL_law_262 : decode cL_law 262 = .ok (.iconst 1, 1) := by decide +kernel
theorem dL_law_263 : decode cL_law 263 = .ok (.iadd, 1) := by decide +kernel
theorem dL_law_264 : decode cL_law 264 = .ok (.iaload, 1) := by decide +kernel
theorem dL_law_265 : decode cL_law 265 = .ok (.aload_n 0, 1) := by decide +kernel
theorem dL_law_266 : decode cL_law 266 = .ok (.iload_n 3, 1) := by decide +kernel
theorem dL_law_267 : decode cL_law 267 = .ok (.iconst 2, 1) := by decide +kernel
theorem dL_law_268 : decode cL_law 268 = .ok (.iadd, 1) := by decide +kernel
theorem dL_law_269 : decode cL_law 269 = .ok (.iaload, 1) := by decide +kernel
theorem dL_law_270 : decode cL_law 270 = .ok (.invokevirtual 39, 3) := by decide +kernel
theorem dL_law_273 : decode cL_law 273 = .ok (.if_icmp .eq 486, 3) := by decide +kernel
theorem dL_law_276 : decode cL_law 276 = .ok (.iconst 0, 1) := by decide +kernel
theorem dL_law_277 : decode cL_law 277 = .ok (.ireturn, 1) := by decide +kernel
theorem dL_law_278 : decode cL_law 278 = .ok (.aload_n 1, 1) := by decide +kernel
theorem dL_law_279 : decode cL_law 279 = .ok (.invokevirtual 40, 3) := by decide +kernel
theorem dL_law_282 : decode cL_law 282 = .ok (.aload_n 2, 1) := by decide +kernel
theorem dL_law_283 : decode cL_law 283 = .ok (.invokevirtual 43, 3) := by decide +kernel
theorem dL_law_286 : decode cL_law 286 = .ok (.if_icmp .eq 473, 3) := by decide +kernel
theorem dL_law_289 : decode cL_law 289 = .ok (.iconst 0, 1) := by decide +kernel
theorem dL_law_290 : decode cL_law 290 = .ok (.ireturn, 1) := by decide +kernel
theorem dL_law_291 : decode cL_law 291 = .ok (.aload_n 1, 1) := by decide +kernel
theorem dL_law_292 : decode cL_law 292 = .ok (.aload_n 0, 1) := by decide +kernel
theorem dL_law_293 : decode cL_law 293 = .ok (.iload_n 3, 1) := by decide +kernel
theorem dL_law_294 : decode cL_law 294 = .ok (.iconst 1, 1) := by decide +kernel
theorem dL_law_295 : decode cL_law 295 = .ok (.iadd, 1) := by decide +kernel
theorem dL_law_296 : decode cL_law 296 = .ok (.iaload, 1) := by decide +kernel
theorem dL_law_297 : decode cL_law 297 = .ok (.invokevirtual 44, 3) := by decide +kernel
theorem dL_law_300 : decode cL_law 300 = .ok (.aload_n 2, 1) := by decide +kernel
theorem dL_law_301 : decode cL_law 301 = .ok (.aload_n 0, 1) := by decide +kernel
theorem dL_law_302 : decode cL_law 302 = .ok (.iload_n 3, 1) := by decide +kernel
theorem dL_law_303 : decode cL_law 303 = .ok (.iconst 1, 1) := by decide +kernel
theorem dL_law_304 : decode cL_law 304 = .ok (.iadd, 1) := by decide +kernel
theorem dL_law_305 : decode cL_law 305 = .ok (.iaload, 1) := by decide +kernel
theorem dL_law_306 : decode cL_law 306 = .ok (.invokevirtual 47, 3) := by decide +kernel
theorem dL_law_309 : decode cL_law 309 = .ok (.if_icmp .eq 450, 3) := by decide +kernel
theorem dL_law_312 : decode cL_law 312 = .ok (.iconst 0, 1) := by decide +kernel
theorem dL_law_313 : decode cL_law 313 = .ok (.ireturn, 1) := by decide +kernel
theorem dL_law_314 : decode cL_law 314 = .ok (.aload_n 1, 1) := by decide +kernel
theorem dL_law_315 : decode cL_law 315 = .ok (.aload_n 0, 1) := by decide +kernel
theorem dL_law_316 : decode cL_law 316 = .ok (.iload_n 3, 1) := by decide +kernel
theorem dL_law_317 : decode cL_law 317 = .ok (.iconst 1, 1) := by decide +kernel
theorem dL_law_318 : decode cL_law 318 = .ok (.iadd, 1) := by decide +kernel
theorem dL_law_319 : decode cL_law 319 = .ok (.iaload, 1) := by decide +kernel
theorem dL_law_320 : decode cL_law 320 = .ok (.aload_n 0, 1) := by decide +kernel
theorem dL_law_321 : decode cL_law 321 = .ok (.iload_n 3, 1) := by decide +kernel
theorem dL_law_322 : decode cL_law 322 = .ok (.iconst 2, 1) := by decide +kernel
theorem dL_law_323 : decode cL_law 323 = .ok (.iadd, 1) := by decide +kernel
theorem dL_law_324 : decode cL_law 324 = .ok (.iaload, 1) := by decide +kernel
theorem dL_law_325 : decode cL_law 325 = .ok (.invokevirtual 48, 3) := by decide +kernel
theorem dL_law_328 : decode cL_law 328 = .ok (.aload_n 2, 1) := by decide +kernel
theorem dL_law_329 : decode cL_law 329 = .ok (.aload_n 0, 1) := by decide +kernel
theorem dL_law_330 : decode cL_law 330 = .ok (.iload_n 3, 1) := by decide +kernel
theorem dL_law_331 : decode cL_law 331 = .ok (.iconst 1, 1) := by decide +kernel
theorem dL_law_332 : decode cL_law 332 = .ok (.iadd, 1) := by decide +kernel
theorem dL_law_333 : decode cL_law 333 = .ok (.iaload, 1) := by decide +kernel
theorem dL_law_334 : decode cL_law 334 = .ok (.aload_n 0, 1) := by decide +kernel
theorem dL_law_335 : decode cL_law 335 = .ok (.iload_n 3, 1) := by decide +kernel
theorem dL_law_336 : decode cL_law 336 = .ok (.iconst 2, 1) := by decide +kernel
theorem dL_law_337 : decode cL_law 337 = .ok (.iadd, 1) := by decide +kernel
theorem dL_law_338 : decode cL_law 338 = .ok (.iaload, 1) := by decide +kernel
theorem dL_law_339 : decode cL_law 339 = .ok (.invokevirtual 51, 3) := by decide +kernel
theorem dL_law_342 : decode cL_law 342 = .ok (.if_icmp .eq 417, 3) := by decide +kernel
theorem dL_law_345 : decode cL_law 345 = .ok (.iconst 0, 1) := by decide +kernel
theorem dL_law_346 : decode cL_law 346 = .ok (.ireturn, 1) := by decide +kernel
theorem dL_law_347 : decode cL_law 347 = .ok (.aload_n 1, 1) := by decide +kernel
theorem dL_law_348 : decode cL_law 348 = .ok (.aload_n 0, 1) := by decide +kernel
theorem dL_law_349 : decode cL_law 349 = .ok (.iload_n 3, 1) := by decide +kernel
theorem dL_law_350 : decode cL_law 350 = .ok (.iconst 1, 1) := by decide +kernel
theorem dL_law_351 : decode cL_law 351 = .ok (.iadd, 1) := by decide +kernel
theorem dL_law_352 : decode cL_law 352 = .ok (.iaload, 1) := by decide +kernel
theorem dL_law_353 : decode cL_law 353 = .ok (.aload_n 0, 1) := by decide +kernel
theorem dL_law_354 : decode cL_law 354 = .ok (.iload_n 3, 1) := by decide +kernel
theorem dL_law_355 : decode cL_law 355 = .ok (.iconst 2, 1) := by decide +kernel
theorem dL_law_356 : decode cL_law 356 = .ok (.iadd, 1) := by decide +kernel
theorem dL_law_357 : decode cL_law 357 = .ok (.iaload, 1) := by decide +kernel
theorem dL_law_358 : decode cL_law 358 = .ok (.invokevirtual 52, 3) := by decide +kernel
theorem dL_law_361 : decode cL_law 361 = .ok (.aload_n 2, 1) := by decide +kernel
theorem dL_law_362 : decode cL_law 362 = .ok (.aload_n 0, 1) := by decide +kernel
theorem dL_law_363 : decode cL_law 363 = .ok (.iload_n 3, 1) := by decide +kernel
theorem dL_law_364 : decode cL_law 364 = .ok (.iconst 1, 1) := by decide +kernel
theorem dL_law_365 : decode cL_law 365 = .ok (.iadd, 1) := by decide +kernel
theorem dL_law_366 : decode cL_law 366 = .ok (.iaload, 1) := by decide +kernel
theorem dL_law_367 : decode cL_law 367 = .ok (.aload_n 0, 1) := by decide +kernel
theorem dL_law_368 : decode cL_law 368 = .ok (.iload_n 3, 1) := by decide +kernel
theorem dL_law_369 : decode cL_law 369 = .ok (.iconst 2, 1) := by decide +kernel
theorem dL_law_370 : decode cL_law 370 = .ok (.iadd, 1) := by decide +kernel
theorem dL_law_371 : decode cL_law 371 = .ok (.iaload, 1) := by decide +kernel
theorem dL_law_372 : decode cL_law 372 = .ok (.invokevirtual 55, 3) := by decide +kernel
theorem dL_law_375 : decode cL_law 375 = .ok (.if_icmp .eq 384, 3) := by decide +kernel
theorem dL_law_378 : decode cL_law 378 = .ok (.iconst 0, 1) := by decide +kernel
theorem dL_law_379 : decode cL_law 379 = .ok (.ireturn, 1) := by decide +kernel
theorem dL_law_380 : decode cL_law 380 = .ok (.aload_n 1, 1) := by decide +kernel
theorem dL_law_381 : decode cL_law 381 = .ok (.aload_n 0, 1) := by decide +kernel
theorem dL_law_382 : decode cL_law 382 = .ok (.iload_n 3, 1) := by decide +kernel
theorem dL_law_383 : decode cL_law 383 = .ok (.iconst 1, 1) := by decide +kernel
theorem dL_law_384 : decode cL_law 384 = .ok (.iadd, 1) := by decide +kernel
theorem dL_law_385 : decode cL_law 385 = .ok (.iaload, 1) := by decide +kernel
theorem dL_law_386 : decode cL_law 386 = .ok (.aload_n 0, 1) := by decide +kernel
theorem dL_law_387 : decode cL_law 387 = .ok (.iload_n 3, 1) := by decide +kernel
theorem dL_law_388 : decode cL_law 388 = .ok (.iconst 2, 1) := by decide +kernel
theorem dL_law_389 : decode cL_law 389 = .ok (.iadd, 1) := by decide +kernel
theorem dL_law_390 : decode cL_law 390 = .ok (.iaload, 1) := by decide +kernel
theorem dL_law_391 : decode cL_law 391 = .ok (.aload_n 0, 1) := by decide +kernel
theorem dL_law_392 : decode cL_law 392 = .ok (.iload_n 3, 1) := by decide +kernel
theorem dL_law_393 : decode cL_law 393 = .ok (.iconst 3, 1) := by decide +kernel
theorem dL_law_394 : decode cL_law 394 = .ok (.iadd, 1) := by decide +kernel
theorem dL_law_395 : decode cL_law 395 = .ok (.iaload, 1) := by decide +kernel
theorem dL_law_396 : decode cL_law 396 = .ok (.aload_n 0, 1) := by decide +kernel
theorem dL_law_397 : decode cL_law 397 = .ok (.iload_n 3, 1) := by decide +kernel
theorem dL_law_398 : decode cL_law 398 = .ok (.iconst 4, 1) := by decide +kernel
theorem dL_law_399 : decode cL_law 399 = .ok (.iadd, 1) := by decide +kernel
theorem dL_law_400 : decode cL_law 400 = .ok (.iaload, 1) := by decide +kernel
theorem dL_law_401 : decode cL_law 401 = .ok (.invokevirtual 56, 3) := by decide +kernel
theorem dL_law_404 : decode cL_law 404 = .ok (.aload_n 2, 1) := by decide +kernel
theorem dL_law_405 : decode cL_law 405 = .ok (.aload_n 0, 1) := by decide +kernel
theorem dL_law_406 : decode cL_law 406 = .ok (.iload_n 3, 1) := by decide +kernel
theorem dL_law_407 : decode cL_law 407 = .ok (.iconst 1, 1) := by decide +kernel
theorem dL_law_408 : decode cL_law 408 = .ok (.iadd, 1) := by decide +kernel
theorem dL_law_409 : decode cL_law 409 = .ok (.iaload, 1) := by decide +kernel
theorem dL_law_410 : decode cL_law 410 = .ok (.aload_n 0, 1) := by decide +kernel
theorem dL_law_411 : decode cL_law 411 = .ok (.iload_n 3, 1) := by decide +kernel
theorem dL_law_412 : decode cL_law 412 = .ok (.iconst 2, 1) := by decide +kernel
theorem dL_law_413 : decode cL_law 413 = .ok (.iadd, 1) := by decide +kernel
theorem dL_law_414 : decode cL_law 414 = .ok (.iaload, 1) := by decide +kernel
theorem dL_law_415 : decode cL_law 415 = .ok (.aload_n 0, 1) := by decide +kernel
theorem dL_law_416 : decode cL_law 416 = .ok (.iload_n 3, 1) := by decide +kernel
theorem dL_law_417 : decode cL_law 417 = .ok (.iconst 3, 1) := by decide +kernel
theorem dL_law_418 : decode cL_law 418 = .ok (.iadd, 1) := by decide +kernel
theorem dL_law_419 : decode cL_law 419 = .ok (.iaload, 1) := by decide +kernel
theorem dL_law_420 : decode cL_law 420 = .ok (.aload_n 0, 1) := by decide +kernel
theorem dL_law_421 : decode cL_law 421 = .ok (.iload_n 3, 1) := by decide +kernel
theorem dL_law_422 : decode cL_law 422 = .ok (.iconst 4, 1) := by decide +kernel
theorem dL_law_423 : decode cL_law 423 = .ok (.iadd, 1) := by decide +kernel
theorem dL_law_424 : decode cL_law 424 = .ok (.iaload, 1) := by decide +kernel
theorem dL_law_425 : decode cL_law 425 = .ok (.invokevirtual 60, 3) := by decide +kernel
theorem dL_law_428 : decode cL_law 428 = .ok (.if_icmp .eq 331, 3) := by decide +kernel
theorem dL_law_431 : decode cL_law 431 = .ok (.iconst 0, 1) := by decide +kernel
theorem dL_law_432 : decode cL_law 432 = .ok (.ireturn, 1) := by decide +kernel
theorem dL_law_433 : decode cL_law 433 = .ok (.aload_n 1, 1) := by decide +kernel
theorem dL_law_434 : decode cL_law 434 = .ok (.aload_n 0, 1) := by decide +kernel
theorem dL_law_435 : decode cL_law 435 = .ok (.iload_n 3, 1) := by decide +kernel
theorem dL_law_436 : decode cL_law 436 = .ok (.iconst 1, 1) := by decide +kernel
theorem dL_law_437 : decode cL_law 437 = .ok (.iadd, 1) := by decide +kernel
theorem dL_law_438 : decode cL_law 438 = .ok (.iaload, 1) := by decide +kernel
theorem dL_law_439 : decode cL_law 439 = .ok (.invokevirtual 61, 3) := by decide +kernel
theorem dL_law_442 : decode cL_law 442 = .ok (.aload_n 2, 1) := by decide +kernel
theorem dL_law_443 : decode cL_law 443 = .ok (.aload_n 0, 1) := by decide +kernel
theorem dL_law_444 : decode cL_law 444 = .ok (.iload_n 3, 1) := by decide +kernel
theorem dL_law_445 : decode cL_law 445 = .ok (.iconst 1, 1) := by decide +kernel
theorem dL_law_446 : decode cL_law 446 = .ok (.iadd, 1) := by decide +kernel
theorem dL_law_447 : decode cL_law 447 = .ok (.iaload, 1) := by decide +kernel
theorem dL_law_448 : decode cL_law 448 = .ok (.invokevirtual 64, 3) := by decide +kernel
theorem dL_law_451 : decode cL_law 451 = .ok (.if_icmp .eq 308, 3) := by decide +kernel
theorem dL_law_454 : decode cL_law 454 = .ok (.iconst 0, 1) := by decide +kernel
theorem dL_law_455 : decode cL_law 455 = .ok (.ireturn, 1) := by decide +kernel
theorem dL_law_456 : decode cL_law 456 = .ok (.aload_n 1, 1) := by decide +kernel
theorem dL_law_457 : decode cL_law 457 = .ok (.aload_n 0, 1) := by decide +kernel
theorem dL_law_458 : decode cL_law 458 = .ok (.iload_n 3, 1) := by decide +kernel
theorem dL_law_459 : decode cL_law 459 = .ok (.iconst 1, 1) := by decide +kernel
theorem dL_law_460 : decode cL_law 460 = .ok (.iadd, 1) := by decide +kernel
theorem dL_law_461 : decode cL_law 461 = .ok (.iaload, 1) := by decide +kernel
theorem dL_law_462 : decode cL_law 462 = .ok (.invokevirtual 65, 3) := by decide +kernel
theorem dL_law_465 : decode cL_law 465 = .ok (.aload_n 2, 1) := by decide +kernel
theorem dL_law_466 : decode cL_law 466 = .ok (.aload_n 0, 1) := by decide +kernel
theorem dL_law_467 : decode cL_law 467 = .ok (.iload_n 3, 1) := by decide +kernel
theorem dL_law_468 : decode cL_law 468 = .ok (.iconst 1, 1) := by decide +kernel
theorem dL_law_469 : decode cL_law 469 = .ok (.iadd, 1) := by decide +kernel
theorem dL_law_470 : decode cL_law 470 = .ok (.iaload, 1) := by decide +kernel
theorem dL_law_471 : decode cL_law 471 = .ok (.invokevirtual 68, 3) := by decide +kernel
theorem dL_law_474 : decode cL_law 474 = .ok (.if_icmp .eq 285, 3) := by decide +kernel
theorem dL_law_477 : decode cL_law 477 = .ok (.iconst 0, 1) := by decide +kernel
theorem dL_law_478 : decode cL_law 478 = .ok (.ireturn, 1) := by decide +kernel
theorem dL_law_479 : decode cL_law 479 = .ok (.aload_n 1, 1) := by decide +kernel
theorem dL_law_480 : decode cL_law 480 = .ok (.aload_n 0, 1) := by decide +kernel
theorem dL_law_481 : decode cL_law 481 = .ok (.iload_n 3, 1) := by decide +kernel
theorem dL_law_482 : decode cL_law 482 = .ok (.iconst 1, 1) := by decide +kernel
theorem dL_law_483 : decode cL_law 483 = .ok (.iadd, 1) := by decide +kernel
theorem dL_law_484 : decode cL_law 484 = .ok (.iaload, 1) := by decide +kernel
theorem dL_law_485 : decode cL_law 485 = .ok (.aload_n 0, 1) := by decide +kernel
theorem dL_law_486 : decode cL_law 486 = .ok (.iload_n 3, 1) := by decide +kernel
theorem dL_law_487 : decode cL_law 487 = .ok (.iconst 2, 1) := by decide +kernel
theorem dL_law_488 : decode cL_law 488 = .ok (.iadd, 1) := by decide +kernel
theorem dL_law_489 : decode cL_law 489 = .ok (.iaload, 1) := by decide +kernel
theorem dL_law_490 : decode cL_law 490 = .ok (.aload_n 0, 1) := by decide +kernel
theorem dL_law_491 : decode cL_law 491 = .ok (.iload_n 3, 1) := by decide +kernel
theorem dL_law_492 : decode cL_law 492 = .ok (.iconst 3, 1) := by decide +kernel
theorem dL_law_493 : decode cL_law 493 = .ok (.iadd, 1) := by decide +kernel
theorem dL_law_494 : decode cL_law 494 = .ok (.iaload, 1) := by decide +kernel
theorem dL_law_495 : decode cL_law 495 = .ok (.invokevirtual 69, 3) := by decide +kernel
theorem dL_law_498 : decode cL_law 498 = .ok (.aload_n 2, 1) := by decide +kernel
theorem dL_law_499 : decode cL_law 499 = .ok (.aload_n 0, 1) := by decide +kernel
theorem dL_law_500 : decode cL_law 500 = .ok (.iload_n 3, 1) := by decide +kernel
theorem dL_law_501 : decode cL_law 501 = .ok (.iconst 1, 1) := by decide +kernel
theorem dL_law_502 : decode cL_law 502 = .ok (.iadd, 1) := by decide +kernel
theorem dL_law_503 : decode cL_law 503 = .ok (.iaload, 1) := by decide +kernel
theorem dL_law_504 : decode cL_law 504 = .ok (.aload_n 0, 1) := by decide +kernel
theorem dL_law_505 : decode cL_law 505 = .ok (.iload_n 3, 1) := by decide +kernel
theorem dL_law_506 : decode cL_law 506 = .ok (.iconst 2, 1) := by decide +kernel
theorem dL_law_507 : decode cL_law 507 = .ok (.iadd, 1) := by decide +kernel
theorem dL_law_508 : decode cL_law 508 = .ok (.iaload, 1) := by decide +kernel
theorem dL_law_509 : decode cL_law 509 = .ok (.aload_n 0, 1) := by decide +kernel
theorem dL_law_510 : decode cL_law 510 = .ok (.iload_n 3, 1) := by decide +kernel
theorem dL_law_511 : decode cL_law 511 = .ok (.iconst 3, 1) := by decide +kernel
theorem dL_law_512 : decode cL_law 512 = .ok (.iadd, 1) := by decide +kernel
theorem dL_law_513 : decode cL_law 513 = .ok (.iaload, 1) := by decide +kernel
theorem dL_law_514 : decode cL_law 514 = .ok (.invokevirtual 73, 3) := by decide +kernel
theorem dL_law_517 : decode cL_law 517 = .ok (.if_icmp .eq 242, 3) := by decide +kernel
theorem dL_law_520 : decode cL_law 520 = .ok (.iconst 0, 1) := by decide +kernel
theorem dL_law_521 : decode cL_law 521 = .ok (.ireturn, 1) := by decide +kernel
theorem dL_law_522 : decode cL_law 522 = .ok (.aload_n 1, 1) := by decide +kernel
theorem dL_law_523 : decode cL_law 523 = .ok (.aload_n 0, 1) := by decide +kernel
theorem dL_law_524 : decode cL_law 524 = .ok (.iload_n 3, 1) := by decide +kernel
theorem dL_law_525 : decode cL_law 525 = .ok (.iconst 1, 1) := by decide +kernel
theorem dL_law_526 : decode cL_law 526 = .ok (.iadd, 1) := by decide +kernel
theorem dL_law_527 : decode cL_law 527 = .ok (.iaload, 1) := by decide +kernel
theorem dL_law_528 : decode cL_law 528 = .ok (.aload_n 0, 1) := by decide +kernel
theorem dL_law_529 : decode cL_law 529 = .ok (.iload_n 3, 1) := by decide +kernel
theorem dL_law_530 : decode cL_law 530 = .ok (.iconst 2, 1) := by decide +kernel
theorem dL_law_531 : decode cL_law 531 = .ok (.iadd, 1) := by decide +kernel
theorem dL_law_532 : decode cL_law 532 = .ok (.iaload, 1) := by decide +kernel
theorem dL_law_533 : decode cL_law 533 = .ok (.aload_n 0, 1) := by decide +kernel
theorem dL_law_534 : decode cL_law 534 = .ok (.iload_n 3, 1) := by decide +kernel
theorem dL_law_535 : decode cL_law 535 = .ok (.iconst 3, 1) := by decide +kernel
theorem dL_law_536 : decode cL_law 536 = .ok (.iadd, 1) := by decide +kernel
theorem dL_law_537 : decode cL_law 537 = .ok (.iaload, 1) := by decide +kernel
theorem dL_law_538 : decode cL_law 538 = .ok (.invokevirtual 74, 3) := by decide +kernel
theorem dL_law_541 : decode cL_law 541 = .ok (.aload_n 2, 1) := by decide +kernel
theorem dL_law_542 : decode cL_law 542 = .ok (.aload_n 0, 1) := by decide +kernel
theorem dL_law_543 : decode cL_law 543 = .ok (.iload_n 3, 1) := by decide +kernel
theorem dL_law_544 : decode cL_law 544 = .ok (.iconst 1, 1) := by decide +kernel
theorem dL_law_545 : decode cL_law 545 = .ok (.iadd, 1) := by decide +kernel
theorem dL_law_546 : decode cL_law 546 = .ok (.iaload, 1) := by decide +kernel
theorem dL_law_547 : decode cL_law 547 = .ok (.aload_n 0, 1) := by decide +kernel
theorem dL_law_548 : decode cL_law 548 = .ok (.iload_n 3, 1) := by decide +kernel
theorem dL_law_549 : decode cL_law 549 = .ok (.iconst 2, 1) := by decide +kernel
theorem dL_law_550 : decode cL_law 550 = .ok (.iadd, 1) := by decide +kernel
theorem dL_law_551 : decode cL_law 551 = .ok (.iaload, 1) := by decide +kernel
theorem dL_law_552 : decode cL_law 552 = .ok (.aload_n 0, 1) := by decide +kernel
theorem dL_law_553 : decode cL_law 553 = .ok (.iload_n 3, 1) := by decide +kernel
theorem dL_law_554 : decode cL_law 554 = .ok (.iconst 3, 1) := by decide +kernel
theorem dL_law_555 : decode cL_law 555 = .ok (.iadd, 1) := by decide +kernel
theorem dL_law_556 : decode cL_law 556 = .ok (.iaload, 1) := by decide +kernel
theorem dL_law_557 : decode cL_law 557 = .ok (.invokevirtual 77, 3) := by decide +kernel
theorem dL_law_560 : decode cL_law 560 = .ok (.if_icmp .eq 199, 3) := by decide +kernel
theorem dL_law_563 : decode cL_law 563 = .ok (.iconst 0, 1) := by decide +kernel
theorem dL_law_564 : decode cL_law 564 = .ok (.ireturn, 1) := by decide +kernel
theorem dL_law_565 : decode cL_law 565 = .ok (.aload_n 1, 1) := by decide +kernel
theorem dL_law_566 : decode cL_law 566 = .ok (.aload_n 0, 1) := by decide +kernel
theorem dL_law_567 : decode cL_law 567 = .ok (.iload_n 3, 1) := by decide +kernel
theorem dL_law_568 : decode cL_law 568 = .ok (.iconst 1, 1) := by decide +kernel
theorem dL_law_569 : decode cL_law 569 = .ok (.iadd, 1) := by decide +kernel
theorem dL_law_570 : decode cL_law 570 = .ok (.iaload, 1) := by decide +kernel
theorem dL_law_571 : decode cL_law 571 = .ok (.aload_n 0, 1) := by decide +kernel
theorem dL_law_572 : decode cL_law 572 = .ok (.iload_n 3, 1) := by decide +kernel
theorem dL_law_573 : decode cL_law 573 = .ok (.iconst 2, 1) := by decide +kernel
theorem dL_law_574 : decode cL_law 574 = .ok (.iadd, 1) := by decide +kernel
theorem dL_law_575 : decode cL_law 575 = .ok (.iaload, 1) := by decide +kernel
theorem dL_law_576 : decode cL_law 576 = .ok (.invokevirtual 78, 3) := by decide +kernel
theorem dL_law_579 : decode cL_law 579 = .ok (.aload_n 2, 1) := by decide +kernel
theorem dL_law_580 : decode cL_law 580 = .ok (.aload_n 0, 1) := by decide +kernel
theorem dL_law_581 : decode cL_law 581 = .ok (.iload_n 3, 1) := by decide +kernel
theorem dL_law_582 : decode cL_law 582 = .ok (.iconst 1, 1) := by decide +kernel
theorem dL_law_583 : decode cL_law 583 = .ok (.iadd, 1) := by decide +kernel
theorem dL_law_584 : decode cL_law 584 = .ok (.iaload, 1) := by decide +kernel
theorem dL_law_585 : decode cL_law 585 = .ok (.aload_n 0, 1) := by decide +kernel
theorem dL_law_586 : decode cL_law 586 = .ok (.iload_n 3, 1) := by decide +kernel
theorem dL_law_587 : decode cL_law 587 = .ok (.iconst 2, 1) := by decide +kernel
theorem dL_law_588 : decode cL_law 588 = .ok (.iadd, 1) := by decide +kernel
theorem dL_law_589 : decode cL_law 589 = .ok (.iaload, 1) := by decide +kernel
theorem dL_law_590 : decode cL_law 590 = .ok (.invokevirtual 81, 3) := by decide +kernel
theorem dL_law_593 : decode cL_law 593 = .ok (.if_icmp .eq 166, 3) := by decide +kernel
theorem dL_law_596 : decode cL_law 596 = .ok (.iconst 0, 1) := by decide +kernel
theorem dL_law_597 : decode cL_law 597 = .ok (.ireturn, 1) := by decide +kernel
theorem dL_law_598 : decode cL_law 598 = .ok (.aload_n 1, 1) := by decide +kernel
theorem dL_law_599 : decode cL_law 599 = .ok (.aload_n 0, 1) := by decide +kernel
theorem dL_law_600 : decode cL_law 600 = .ok (.iload_n 3, 1) := by decide +kernel
theorem dL_law_601 : decode cL_law 601 = .ok (.iconst 1, 1) := by decide +kernel
theorem dL_law_602 : decode cL_law 602 = .ok (.iadd, 1) := by decide +kernel
theorem dL_law_603 : decode cL_law 603 = .ok (.iaload, 1) := by decide +kernel
theorem dL_law_604 : decode cL_law 604 = .ok (.aload_n 0, 1) := by decide +kernel
theorem dL_law_605 : decode cL_law 605 = .ok (.iload_n 3, 1) := by decide +kernel
theorem dL_law_606 : decode cL_law 606 = .ok (.iconst 2, 1) := by decide +kernel
theorem dL_law_607 : decode cL_law 607 = .ok (.iadd, 1) := by decide +kernel
theorem dL_law_608 : decode cL_law 608 = .ok (.iaload, 1) := by decide +kernel
theorem dL_law_609 : decode cL_law 609 = .ok (.aload_n 0, 1) := by decide +kernel
theorem dL_law_610 : decode cL_law 610 = .ok (.iload_n 3, 1) := by decide +kernel
theorem dL_law_611 : decode cL_law 611 = .ok (.iconst 3, 1) := by decide +kernel
theorem dL_law_612 : decode cL_law 612 = .ok (.iadd, 1) := by decide +kernel
theorem dL_law_613 : decode cL_law 613 = .ok (.iaload, 1) := by decide +kernel
theorem dL_law_614 : decode cL_law 614 = .ok (.invokevirtual 82, 3) := by decide +kernel
theorem dL_law_617 : decode cL_law 617 = .ok (.aload_n 2, 1) := by decide +kernel
theorem dL_law_618 : decode cL_law 618 = .ok (.aload_n 0, 1) := by decide +kernel
theorem dL_law_619 : decode cL_law 619 = .ok (.iload_n 3, 1) := by decide +kernel
theorem dL_law_620 : decode cL_law 620 = .ok (.iconst 1, 1) := by decide +kernel
theorem dL_law_621 : decode cL_law 621 = .ok (.iadd, 1) := by decide +kernel
theorem dL_law_622 : decode cL_law 622 = .ok (.iaload, 1) := by decide +kernel
theorem dL_law_623 : decode cL_law 623 = .ok (.aload_n 0, 1) := by decide +kernel
theorem dL_law_624 : decode cL_law 624 = .ok (.iload_n 3, 1) := by decide +kernel
theorem dL_law_625 : decode cL_law 625 = .ok (.iconst 2, 1) := by decide +kernel
theorem dL_law_626 : decode cL_law 626 = .ok (.iadd, 1) := by decide +kernel
theorem dL_law_627 : decode cL_law 627 = .ok (.iaload, 1) := by decide +kernel
theorem dL_law_628 : decode cL_law 628 = .ok (.aload_n 0, 1) := by decide +kernel
theorem dL_law_629 : decode cL_law 629 = .ok (.iload_n 3, 1) := by decide +kernel
theorem dL_law_630 : decode cL_law 630 = .ok (.iconst 3, 1) := by decide +kernel
theorem dL_law_631 : decode cL_law 631 = .ok (.iadd, 1) := by decide +kernel
theorem dL_law_632 : decode cL_law 632 = .ok (.iaload, 1) := by decide +kernel
theorem dL_law_633 : decode cL_law 633 = .ok (.invokevirtual 85, 3) := by decide +kernel
theorem dL_law_636 : decode cL_law 636 = .ok (.if_icmp .eq 123, 3) := by decide +kernel
theorem dL_law_639 : decode cL_law 639 = .ok (.iconst 0, 1) := by decide +kernel
theorem dL_law_640 : decode cL_law 640 = .ok (.ireturn, 1) := by decide +kernel
theorem dL_law_641 : decode cL_law 641 = .ok (.aload_n 1, 1) := by decide +kernel
theorem dL_law_642 : decode cL_law 642 = .ok (.invokevirtual 86, 3) := by decide +kernel
theorem dL_law_645 : decode cL_law 645 = .ok (.aload_n 2, 1) := by decide +kernel
theorem dL_law_646 : decode cL_law 646 = .ok (.invokevirtual 89, 3) := by decide +kernel
theorem dL_law_649 : decode cL_law 649 = .ok (.if_icmp .eq 110, 3) := by decide +kernel
theorem dL_law_652 : decode cL_law 652 = .ok (.iconst 0, 1) := by decide +kernel
theorem dL_law_653 : decode cL_law 653 = .ok (.ireturn, 1) := by decide +kernel
theorem dL_law_654 : decode cL_law 654 = .ok (.aload_n 1, 1) := by decide +kernel
theorem dL_law_655 : decode cL_law 655 = .ok (.invokevirtual 90, 3) := by decide +kernel
theorem dL_law_658 : decode cL_law 658 = .ok (.aload_n 2, 1) := by decide +kernel
theorem dL_law_659 : decode cL_law 659 = .ok (.invokevirtual 93, 3) := by decide +kernel
theorem dL_law_662 : decode cL_law 662 = .ok (.if_icmp .eq 97, 3) := by decide +kernel
theorem dL_law_665 : decode cL_law 665 = .ok (.iconst 0, 1) := by decide +kernel
theorem dL_law_666 : decode cL_law 666 = .ok (.ireturn, 1) := by decide +kernel
theorem dL_law_667 : decode cL_law 667 = .ok (.aload_n 1, 1) := by decide +kernel
theorem dL_law_668 : decode cL_law 668 = .ok (.aload_n 0, 1) := by decide +kernel
theorem dL_law_669 : decode cL_law 669 = .ok (.iload_n 3, 1) := by decide +kernel
theorem dL_law_670 : decode cL_law 670 = .ok (.iconst 1, 1) := by decide +kernel
theorem dL_law_671 : decode cL_law 671 = .ok (.iadd, 1) := by decide +kernel
theorem dL_law_672 : decode cL_law 672 = .ok (.iaload, 1) := by decide +kernel
theorem dL_law_673 : decode cL_law 673 = .ok (.invokevirtual 94, 3) := by decide +kernel
theorem dL_law_676 : decode cL_law 676 = .ok (.aload_n 2, 1) := by decide +kernel
theorem dL_law_677 : decode cL_law 677 = .ok (.aload_n 0, 1) := by decide +kernel
theorem dL_law_678 : decode cL_law 678 = .ok (.iload_n 3, 1) := by decide +kernel
theorem dL_law_679 : decode cL_law 679 = .ok (.iconst 1, 1) := by decide +kernel
theorem dL_law_680 : decode cL_law 680 = .ok (.iadd, 1) := by decide +kernel
theorem dL_law_681 : decode cL_law 681 = .ok (.iaload, 1) := by decide +kernel
theorem dL_law_682 : decode cL_law 682 = .ok (.invokevirtual 97, 3) := by decide +kernel
theorem dL_law_685 : decode cL_law 685 = .ok (.if_icmp .eq 74, 3) := by decide +kernel
theorem dL_law_688 : decode cL_law 688 = .ok (.iconst 0, 1) := by decide +kernel
theorem dL_law_689 : decode cL_law 689 = .ok (.ireturn, 1) := by decide +kernel
theorem dL_law_690 : decode cL_law 690 = .ok (.aload_n 1, 1) := by decide +kernel
theorem dL_law_691 : decode cL_law 691 = .ok (.aload_n 0, 1) := by decide +kernel
theorem dL_law_692 : decode cL_law 692 = .ok (.iload_n 3, 1) := by decide +kernel
theorem dL_law_693 : decode cL_law 693 = .ok (.iconst 1, 1) := by decide +kernel
theorem dL_law_694 : decode cL_law 694 = .ok (.iadd, 1) := by decide +kernel
theorem dL_law_695 : decode cL_law 695 = .ok (.iaload, 1) := by decide +kernel
theorem dL_law_696 : decode cL_law 696 = .ok (.invokevirtual 98, 3) := by decide +kernel
theorem dL_law_699 : decode cL_law 699 = .ok (.aload_n 2, 1) := by decide +kernel
theorem dL_law_700 : decode cL_law 700 = .ok (.aload_n 0, 1) := by decide +kernel
theorem dL_law_701 : decode cL_law 701 = .ok (.iload_n 3, 1) := by decide +kernel
theorem dL_law_702 : decode cL_law 702 = .ok (.iconst 1, 1) := by decide +kernel
theorem dL_law_703 : decode cL_law 703 = .ok (.iadd, 1) := by decide +kernel
theorem dL_law_704 : decode cL_law 704 = .ok (.iaload, 1) := by decide +kernel
theorem dL_law_705 : decode cL_law 705 = .ok (.invokevirtual 101, 3) := by decide +kernel
theorem dL_law_708 : decode cL_law 708 = .ok (.if_icmp .eq 51, 3) := by decide +kernel
theorem dL_law_711 : decode cL_law 711 = .ok (.iconst 0, 1) := by decide +kernel
theorem dL_law_712 : decode cL_law 712 = .ok (.ireturn, 1) := by decide +kernel
theorem dL_law_713 : decode cL_law 713 = .ok (.aload_n 1, 1) := by decide +kernel
theorem dL_law_714 : decode cL_law 714 = .ok (.aload_n 0, 1) := by decide +kernel
theorem dL_law_715 : decode cL_law 715 = .ok (.iload_n 3, 1) := by decide +kernel
theorem dL_law_716 : decode cL_law 716 = .ok (.iconst 1, 1) := by decide +kernel
theorem dL_law_717 : decode cL_law 717 = .ok (.iadd, 1) := by decide +kernel
theorem dL_law_718 : decode cL_law 718 = .ok (.iaload, 1) := by decide +kernel
theorem dL_law_719 : decode cL_law 719 = .ok (.invokevirtual 102, 3) := by decide +kernel
theorem dL_law_722 : decode cL_law 722 = .ok (.aload_n 2, 1) := by decide +kernel
theorem dL_law_723 : decode cL_law 723 = .ok (.aload_n 0, 1) := by decide +kernel
theorem dL_law_724 : decode cL_law 724 = .ok (.iload_n 3, 1) := by decide +kernel
theorem dL_law_725 : decode cL_law 725 = .ok (.iconst 1, 1) := by decide +kernel
theorem dL_law_726 : decode cL_law 726 = .ok (.iadd, 1) := by decide +kernel
theorem dL_law_727 : decode cL_law 727 = .ok (.iaload, 1) := by decide +kernel
theorem dL_law_728 : decode cL_law 728 = .ok (.invokevirtual 105, 3) := by decide +kernel
theorem dL_law_731 : decode cL_law 731 = .ok (.if_icmp .eq 28, 3) := by decide +kernel
theorem dL_law_734 : decode cL_law 734 = .ok (.iconst 0, 1) := by decide +kernel
theorem dL_law_735 : decode cL_law 735 = .ok (.ireturn, 1) := by decide +kernel
theorem dL_law_736 : decode cL_law 736 = .ok (.aload_n 1, 1) := by decide +kernel
theorem dL_law_737 : decode cL_law 737 = .ok (.aload_n 0, 1) := by decide +kernel
theorem dL_law_738 : decode cL_law 738 = .ok (.iload_n 3, 1) := by decide +kernel
theorem dL_law_739 : decode cL_law 739 = .ok (.iconst 1, 1) := by decide +kernel
theorem dL_law_740 : decode cL_law 740 = .ok (.iadd, 1) := by decide +kernel
theorem dL_law_741 : decode cL_law 741 = .ok (.iaload, 1) := by decide +kernel
theorem dL_law_742 : decode cL_law 742 = .ok (.invokevirtual 106, 3) := by decide +kernel
theorem dL_law_745 : decode cL_law 745 = .ok (.aload_n 2, 1) := by decide +kernel
theorem dL_law_746 : decode cL_law 746 = .ok (.aload_n 0, 1) := by decide +kernel
theorem dL_law_747 : decode cL_law 747 = .ok (.iload_n 3, 1) := by decide +kernel
theorem dL_law_748 : decode cL_law 748 = .ok (.iconst 1, 1) := by decide +kernel
theorem dL_law_749 : decode cL_law 749 = .ok (.iadd, 1) := by decide +kernel
theorem dL_law_750 : decode cL_law 750 = .ok (.iaload, 1) := by decide +kernel
theorem dL_law_751 : decode cL_law 751 = .ok (.invokevirtual 109, 3) := by decide +kernel
theorem dL_law_754 : decode cL_law 754 = .ok (.if_icmp .eq 5, 3) := by decide +kernel
theorem dL_law_757 : decode cL_law 757 = .ok (.iconst 0, 1) := by decide +kernel
theorem dL_law_758 : decode cL_law 758 = .ok (.ireturn, 1) := by decide +kernel
theorem dL_law_759 : decode cL_law 759 = .ok (.iinc 3 5, 3) := by decide +kernel
theorem dL_law_762 : decode cL_law 762 = .ok (.goto (-744), 3) := by decide +kernel
theorem dL_law_765 : decode cL_law 765 = .ok (.iconst 1, 1) := by decide +kernel
theorem dL_law_766 : decode cL_law 766 = .ok (.ireturn, 1) := by decide +kernel
