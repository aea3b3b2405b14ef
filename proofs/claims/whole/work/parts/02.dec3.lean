theorem dX6_take_58 : decode cX6_take 58 = .ok (.aload_n 0, 1) := by decide +kernel
theorem dX6_take_59 : decode cX6_take 59 = .ok (.getfield 33, 3) := by decide +kernel
theorem dX6_take_62 : decode cX6_take 62 = .ok (.aload_n 0, 1) := by decide +kernel
theorem dX6_take_63 : decode cX6_take 63 = .ok (.getfield 70, 3) := by decide +kernel
theorem dX6_take_66 : decode cX6_take 66 = .ok (.iaload, 1) := by decide +kernel
theorem dX6_take_67 : decode cX6_take 67 = .ok (.goto 4, 3) := by decide +kernel
theorem dX6_take_70 : decode cX6_take 70 = .ok (.iconst (-1), 1) := by decide +kernel
theorem dX6_take_71 : decode cX6_take 71 = .ok (.putfield 79, 3) := by decide +kernel
theorem dX6_take_74 : decode cX6_take 74 = .ok (.aload_n 0, 1) := by decide +kernel
theorem dX6_take_75 : decode cX6_take 75 = .ok (.dup, 1) := by decide +kernel
theorem dX6_take_76 : decode cX6_take 76 = .ok (.getfield 70, 3) := by decide +kernel
theorem dX6_take_79 : decode cX6_take 79 = .ok (.aload_n 0, 1) := by decide +kernel
theorem dX6_take_80 : decode cX6_take 80 = .ok (.getfield 70, 3) := by decide +kernel
theorem dX6_take_83 : decode cX6_take 83 = .ok (.aload_n 0, 1) := by decide +kernel
theorem dX6_take_84 : decode cX6_take 84 = .ok (.getfield 73, 3) := by decide +kernel
theorem dX6_take_87 : decode cX6_take 87 = .ok (.if_icmp .ge 7, 3) := by decide +kernel
theorem dX6_take_90 : decode cX6_take 90 = .ok (.iconst 1, 1) := by decide +kernel
theorem dX6_take_91 : decode cX6_take 91 = .ok (.goto 4, 3) := by decide +kernel
theorem dX6_take_94 : decode cX6_take 94 = .ok (.iconst 0, 1) := by decide +kernel
theorem dX6_take_95 : decode cX6_take 95 = .ok (.iadd, 1) := by decide +kernel
theorem dX6_take_96 : decode cX6_take 96 = .ok (.putfield 70, 3) := by decide +kernel
theorem dX6_take_99 : decode cX6_take 99 = .ok (.aload_n 0, 1) := by decide +kernel
theorem dX6_take_100 : decode cX6_take 100 = .ok (.getfield 79, 3) := by decide +kernel
theorem dX6_take_103 : decode cX6_take 103 = .ok (.invokestatic 82, 3) := by decide +kernel
theorem dX6_take_106 : decode cX6_take 106 = .ok (.ifCond .eq 100, 3) := by decide +kernel
theorem dX6_take_109 : decode cX6_take 109 = .ok (.aload_n 0, 1) := by decide +kernel
theorem dX6_take_110 : decode cX6_take 110 = .ok (.getfield 79, 3) := by decide +kernel
theorem dX6_take_113 : decode cX6_take 113 = .ok (.bipush 48, 2) := by decide +kernel
theorem dX6_take_115 : decode cX6_take 115 = .ok (.isub, 1) := by decide +kernel
theorem dX6_take_116 : decode cX6_take 116 = .ok (.istore_n 1, 1) := by decide +kernel
theorem dX6_take_117 : decode cX6_take 117 = .ok (.aload_n 0, 1) := by decide +kernel
theorem dX6_take_118 : decode cX6_take 118 = .ok (.getfield 70, 3) := by decide +kernel
theorem dX6_take_121 : decode cX6_take 121 = .ok (.aload_n 0, 1) := by decide +kernel
theorem dX6_take_122 : decode cX6_take 122 = .ok (.getfield 73, 3) := by decide +kernel
theorem dX6_take_125 : decode cX6_take 125 = .ok (.if_icmp .ge 72, 3) := by decide +kernel
theorem dX6_take_128 : decode cX6_take 128 = .ok (.aload_n 0, 1) := by decide +kernel
theorem dX6_take_129 : decode cX6_take 129 = .ok (.getfield 33, 3) := by decide +kernel
theorem dX6_take_132 : decode cX6_take 132 = .ok (.aload_n 0, 1) := by decide +kernel
theorem dX6_take_133 : decode cX6_take 133 = .ok (.getfield 70, 3) := by decide +kernel
theorem dX6_take_136 : decode cX6_take 136 = .ok (.iaload, 1) := by decide +kernel
theorem dX6_take_137 : decode cX6_take 137 = .ok (.invokestatic 82, 3) := by decide +kernel
theorem dX6_take_140 : decode cX6_take 140 = .ok (.ifCond .eq 57, 3) := by decide +kernel
theorem dX6_take_143 : decode cX6_take 143 = .ok (.aload_n 0, 1) := by decide +kernel
theorem dX6_take_144 : decode cX6_take 144 = .ok (.getfield 70, 3) := by decide +kernel
theorem dX6_take_147 : decode cX6_take 147 = .ok (.aload_n 0, 1) := by decide +kernel
theorem dX6_take_148 : decode cX6_take 148 = .ok (.getfield 76, 3) := by decide +kernel
theorem dX6_take_151 : decode cX6_take 151 = .ok (.iconst 1, 1) := by decide +kernel
theorem dX6_take_152 : decode cX6_take 152 = .ok (.iadd, 1) := by decide +kernel
theorem dX6_take_153 : decode cX6_take 153 = .ok (.if_icmp .ne 27, 3) := by decide +kernel
theorem dX6_take_156 : decode cX6_take 156 = .ok (.iload_n 1, 1) := by decide +kernel
theorem dX6_take_157 : decode cX6_take 157 = .ok (.ifCond .le 23, 3) := by decide +kernel
theorem dX6_take_160 : decode cX6_take 160 = .ok (.bipush 10, 2) := by decide +kernel
theorem dX6_take_162 : decode cX6_take 162 = .ok (.iload_n 1, 1) := by decide +kernel
theorem dX6_take_163 : decode cX6_take 163 = .ok (.imul, 1) := by decide +kernel
theorem dX6_take_164 : decode cX6_take 164 = .ok (.aload_n 0, 1) := by decide +kernel
theorem dX6_take_165 : decode cX6_take 165 = .ok (.getfield 33, 3) := by decide +kernel
theorem dX6_take_168 : decode cX6_take 168 = .ok (.aload_n 0, 1) := by decide +kernel
theorem dX6_take_169 : decode cX6_take 169 = .ok (.getfield 70, 3) := by decide +kernel
theorem dX6_take_172 : decode cX6_take 172 = .ok (.iaload, 1) := by decide +kernel
theorem dX6_take_173 : decode cX6_take 173 = .ok (.iadd, 1) := by decide +kernel
theorem dX6_take_174 : decode cX6_take 174 = .ok (.bipush 48, 2) := by decide +kernel
theorem dX6_take_176 : decode cX6_take 176 = .ok (.isub, 1) := by decide +kernel
theorem dX6_take_177 : decode cX6_take 177 = .ok (.goto 6, 3) := by decide +kernel
theorem dX6_take_180 : decode cX6_take 180 = .ok (.sipush 1000, 3) := by decide +kernel
theorem dX6_take_183 : decode cX6_take 183 = .ok (.istore_n 1, 1) := by decide +kernel
theorem dX6_take_184 : decode cX6_take 184 = .ok (.aload_n 0, 1) := by decide +kernel
theorem dX6_take_185 : decode cX6_take 185 = .ok (.dup, 1) := by decide +kernel
theorem dX6_take_186 : decode cX6_take 186 = .ok (.getfield 70, 3) := by decide +kernel
theorem dX6_take_189 : decode cX6_take 189 = .ok (.iconst 1, 1) := by decide +kernel
theorem dX6_take_190 : decode cX6_take 190 = .ok (.iadd, 1) := by decide +kernel
theorem dX6_take_191 : decode cX6_take 191 = .ok (.putfield 70, 3) := by decide +kernel
theorem dX6_take_194 : decode cX6_take 194 = .ok (.goto (-77), 3) := by decide +kernel
theorem dX6_take_197 : decode cX6_take 197 = .ok (.aload_n 0, 1) := by decide +kernel
theorem dX6_take_198 : decode cX6_take 198 = .ok (.sipush 1000, 3) := by decide +kernel
theorem dX6_take_201 : decode cX6_take 201 = .ok (.iload_n 1, 1) := by decide +kernel
theorem dX6_take_202 : decode cX6_take 202 = .ok (.iadd, 1) := by decide +kernel
theorem dX6_take_203 : decode cX6_take 203 = .ok (.putfield 79, 3) := by decide +kernel
theorem dX6_take_206 : decode cX6_take 206 = .ok (.return_, 1) := by decide +kernel
theorem dX6_isNumber_0 : decode cX6_isNumber 0 = .ok (.aload_n 0, 1) := by decide +kernel
theorem dX6_isNumber_1 : decode cX6_isNumber 1 = .ok (.getfield 79, 3) := by decide +kernel
theorem dX6_isNumber_4 : decode cX6_isNumber 4 = .ok (.i2l, 1) := by decide +kernel
theorem dX6_isNumber_5 : decode cX6_isNumber 5 = .ok (.sipush 1000, 3) := by decide +kernel
theorem dX6_isNumber_8 : decode cX6_isNumber 8 = .ok (.iload_n 1, 1) := by decide +kernel
theorem dX6_isNumber_9 : decode cX6_isNumber 9 = .ok (.iadd, 1) := by decide +kernel
theorem dX6_isNumber_10 : decode cX6_isNumber 10 = .ok (.i2l, 1) := by decide +kernel
theorem dX6_isNumber_11 : decode cX6_isNumber 11 = .ok (.sipush 1000, 3) := by decide +kernel
theorem dX6_isNumber_14 : decode cX6_isNumber 14 = .ok (.iload_n 2, 1) := by decide +kernel
theorem dX6_isNumber_15 : decode cX6_isNumber 15 = .ok (.iadd, 1) := by decide +kernel
theorem dX6_isNumber_16 : decode cX6_isNumber 16 = .ok (.i2l, 1) := by decide +kernel
theorem dX6_isNumber_17 : decode cX6_isNumber 17 = .ok (.invokestatic 66, 3) := by decide +kernel
theorem dX6_isNumber_20 : decode cX6_isNumber 20 = .ok (.ireturn, 1) := by decide +kernel
theorem dX6_readsEnd_0 : decode cX6_readsEnd 0 = .ok (.aload_n 0, 1) := by decide +kernel
theorem dX6_readsEnd_1 : decode cX6_readsEnd 1 = .ok (.getfield 79, 3) := by decide +kernel
theorem dX6_readsEnd_4 : decode cX6_readsEnd 4 = .ok (.bipush 59, 2) := by decide +kernel
theorem dX6_readsEnd_6 : decode cX6_readsEnd 6 = .ok (.if_icmp .ne 7, 3) := by decide +kernel
theorem dX6_readsEnd_9 : decode cX6_readsEnd 9 = .ok (.iconst 1, 1) := by decide +kernel
theorem dX6_readsEnd_10 : decode cX6_readsEnd 10 = .ok (.goto 4, 3) := by decide +kernel
theorem dX6_readsEnd_13 : decode cX6_readsEnd 13 = .ok (.iconst 0, 1) := by decide +kernel
theorem dX6_readsEnd_14 : decode cX6_readsEnd 14 = .ok (.istore_n 1, 1) := by decide +kernel
theorem dX6_readsEnd_15 : decode cX6_readsEnd 15 = .ok (.iload_n 1, 1) := by decide +kernel
theorem dX6_readsEnd_16 : decode cX6_readsEnd 16 = .ok (.ifCond .eq 17, 3) := by decide +kernel
theorem dX6_readsEnd_19 : decode cX6_readsEnd 19 = .ok (.aload_n 0, 1) := by decide +kernel
theorem dX6_readsEnd_20 : decode cX6_readsEnd 20 = .ok (.invokevirtual 86, 3) := by decide +kernel
theorem dX6_readsEnd_23 : decode cX6_readsEnd 23 = .ok (.aload_n 0, 1) := by decide +kernel
theorem dX6_readsEnd_24 : decode cX6_readsEnd 24 = .ok (.dup, 1) := by decide +kernel
theorem dX6_readsEnd_25 : decode cX6_readsEnd 25 = .ok (.getfield 89, 3) := by decide +kernel
theorem dX6_readsEnd_28 : decode cX6_readsEnd 28 = .ok (.iconst 1, 1) := by decide +kernel
theorem dX6_readsEnd_29 : decode cX6_readsEnd 29 = .ok (.iadd, 1) := by decide +kernel
theorem dX6_readsEnd_30 : decode cX6_readsEnd 30 = .ok (.putfield 89, 3) := by decide +kernel
theorem dX6_readsEnd_33 : decode cX6_readsEnd 33 = .ok (.iload_n 1, 1) := by decide +kernel
theorem dX6_readsEnd_34 : decode cX6_readsEnd 34 = .ok (.ireturn, 1) := by decide +kernel
theorem dX6_readsFraction_0 : decode cX6_readsFraction 0 = .ok (.aload_n 0, 1) := by decide +kernel
theorem dX6_readsFraction_1 : decode cX6_readsFraction 1 = .ok (.invokevirtual 86, 3) := by decide +kernel
theorem dX6_readsFraction_4 : decode cX6_readsFraction 4 = .ok (.aload_n 0, 1) := by decide +kernel
theorem dX6_readsFraction_5 : decode cX6_readsFraction 5 = .ok (.iconst 1, 1) := by decide +kernel
theorem dX6_readsFraction_6 : decode cX6_readsFraction 6 = .ok (.bipush 99, 2) := by decide +kernel
theorem dX6_readsFraction_8 : decode cX6_readsFraction 8 = .ok (.invokevirtual 92, 3) := by decide +kernel
theorem dX6_readsFraction_11 : decode cX6_readsFraction 11 = .ok (.ifCond .ne 5, 3) := by decide +kernel
theorem dX6_readsFraction_14 : decode cX6_readsFraction 14 = .ok (.iconst 0, 1) := by decide +kernel
theorem dX6_readsFraction_15 : decode cX6_readsFraction 15 = .ok (.ireturn, 1) := by decide +kernel
theorem dX6_readsFraction_16 : decode cX6_readsFraction 16 = .ok (.aload_n 0, 1) := by decide +kernel
theorem dX6_readsFraction_17 : decode cX6_readsFraction 17 = .ok (.aload_n 0, 1) := by decide +kernel
theorem dX6_readsFraction_18 : decode cX6_readsFraction 18 = .ok (.getfield 79, 3) := by decide +kernel
theorem dX6_readsFraction_21 : decode cX6_readsFraction 21 = .ok (.sipush 1000, 3) := by decide +kernel
theorem dX6_readsFraction_24 : decode cX6_readsFraction 24 = .ok (.isub, 1) := by decide +kernel
theorem dX6_readsFraction_25 : decode cX6_readsFraction 25 = .ok (.putfield 96, 3) := by decide +kernel
theorem dX6_readsFraction_28 : decode cX6_readsFraction 28 = .ok (.aload_n 0, 1) := by decide +kernel
theorem dX6_readsFraction_29 : decode cX6_readsFraction 29 = .ok (.invokevirtual 86, 3) := by decide +kernel
theorem dX6_readsFraction_32 : decode cX6_readsFraction 32 = .ok (.aload_n 0, 1) := by decide +kernel
theorem dX6_readsFraction_33 : decode cX6_readsFraction 33 = .ok (.iconst 1, 1) := by decide +kernel
theorem dX6_readsFraction_34 : decode cX6_readsFraction 34 = .ok (.bipush 99, 2) := by decide +kernel
theorem dX6_readsFraction_36 : decode cX6_readsFraction 36 = .ok (.invokevirtual 92, 3) := by decide +kernel
theorem dX6_readsFraction_39 : decode cX6_readsFraction 39 = .ok (.ifCond .eq 20, 3) := by decide +kernel
theorem dX6_readsFraction_42 : decode cX6_readsFraction 42 = .ok (.aload_n 0, 1) := by decide +kernel
theorem dX6_readsFraction_43 : decode cX6_readsFraction 43 = .ok (.getfield 96, 3) := by decide +kernel
theorem dX6_readsFraction_46 : decode cX6_readsFraction 46 = .ok (.iconst 2, 1) := by decide +kernel
theorem dX6_readsFraction_47 : decode cX6_readsFraction 47 = .ok (.aload_n 0, 1) := by decide +kernel
theorem dX6_readsFraction_48 : decode cX6_readsFraction 48 = .ok (.getfield 79, 3) := by decide +kernel
theorem dX6_readsFraction_51 : decode cX6_readsFraction 51 = .ok (.sipush 1000, 3) := by decide +kernel
theorem dX6_readsFraction_54 : decode cX6_readsFraction 54 = .ok (.isub, 1) := by decide +kernel
theorem dX6_readsFraction_55 : decode cX6_readsFraction 55 = .ok (.imul, 1) := by decide +kernel
theorem dX6_readsFraction_56 : decode cX6_readsFraction 56 = .ok (.if_icmp .le 5, 3) := by decide +kernel
theorem dX6_readsFraction_59 : decode cX6_readsFraction 59 = .ok (.iconst 0, 1) := by decide +kernel
theorem dX6_readsFraction_60 : decode cX6_readsFraction 60 = .ok (.ireturn, 1) := by decide +kernel
theorem dX6_readsFraction_61 : decode cX6_readsFraction 61 = .ok (.aload_n 0, 1) := by decide +kernel
theorem dX6_readsFraction_62 : decode cX6_readsFraction 62 = .ok (.aload_n 0, 1) := by decide +kernel
theorem dX6_readsFraction_63 : decode cX6_readsFraction 63 = .ok (.getfield 79, 3) := by decide +kernel
theorem dX6_readsFraction_66 : decode cX6_readsFraction 66 = .ok (.sipush 1000, 3) := by decide +kernel
theorem dX6_readsFraction_69 : decode cX6_readsFraction 69 = .ok (.isub, 1) := by decide +kernel
theorem dX6_readsFraction_70 : decode cX6_readsFraction 70 = .ok (.putfield 99, 3) := by decide +kernel
theorem dX6_readsFraction_73 : decode cX6_readsFraction 73 = .ok (.aload_n 0, 1) := by decide +kernel
theorem dX6_readsFraction_74 : decode cX6_readsFraction 74 = .ok (.invokevirtual 86, 3) := by decide +kernel
theorem dX6_readsFraction_77 : decode cX6_readsFraction 77 = .ok (.aload_n 0, 1) := by decide +kernel
theorem dX6_readsFraction_78 : decode cX6_readsFraction 78 = .ok (.invokevirtual 102, 3) := by decide +kernel
theorem dX6_readsFraction_81 : decode cX6_readsFraction 81 = .ok (.ireturn, 1) := by decide +kernel
theorem dX6_isWhole_0 : decode cX6_isWhole 0 = .ok (.aload_n 0, 1) := by decide +kernel
theorem dX6_isWhole_1 : decode cX6_isWhole 1 = .ok (.getfield 96, 3) := by decide +kernel
theorem dX6_isWhole_4 : decode cX6_isWhole 4 = .ok (.i2l, 1) := by decide +kernel
theorem dX6_isWhole_5 : decode cX6_isWhole 5 = .ok (.lstore_n 1, 1) := by decide +kernel
theorem dX6_isWhole_6 : decode cX6_isWhole 6 = .ok (.aload_n 0, 1) := by decide +kernel
theorem dX6_isWhole_7 : decode cX6_isWhole 7 = .ok (.getfield 99, 3) := by decide +kernel
theorem dX6_isWhole_10 : decode cX6_isWhole 10 = .ok (.i2l, 1) := by decide +kernel
theorem dX6_isWhole_11 : decode cX6_isWhole 11 = .ok (.lstore_n 3, 1) := by decide +kernel
theorem dX6_isWhole_12 : decode cX6_isWhole 12 = .ok (.iconst 0, 1) := by decide +kernel
theorem dX6_isWhole_13 : decode cX6_isWhole 13 = .ok (.istore 5, 2) := by decide +kernel
theorem dX6_isWhole_15 : decode cX6_isWhole 15 = .ok (.iload 5, 2) := by decide +kernel
theorem dX6_isWhole_17 : decode cX6_isWhole 17 = .ok (.aload_n 0, 1) := by decide +kernel
theorem dX6_isWhole_18 : decode cX6_isWhole 18 = .ok (.getfield 106, 3) := by decide +kernel
theorem dX6_isWhole_21 : decode cX6_isWhole 21 = .ok (.if_icmp .ge 33, 3) := by decide +kernel
theorem dX6_isWhole_24 : decode cX6_isWhole 24 = .ok (.lload_n 1, 1) := by decide +kernel
theorem dX6_isWhole_25 : decode cX6_isWhole 25 = .ok (.aload_n 0, 1) := by decide +kernel
theorem dX6_isWhole_26 : decode cX6_isWhole 26 = .ok (.getfield 36, 3) := by decide +kernel
theorem dX6_isWhole_29 : decode cX6_isWhole 29 = .ok (.iload 5, 2) := by decide +kernel
theorem dX6_isWhole_31 : decode cX6_isWhole 31 = .ok (.iaload, 1) := by decide +kernel
theorem dX6_isWhole_32 : decode cX6_isWhole 32 = .ok (.i2l, 1) := by decide +kernel
theorem dX6_isWhole_33 : decode cX6_isWhole 33 = .ok (.lmul, 1) := by decide +kernel
theorem dX6_isWhole_34 : decode cX6_isWhole 34 = .ok (.lload_n 3, 1) := by decide +kernel
theorem dX6_isWhole_35 : decode cX6_isWhole 35 = .ok (.lsub, 1) := by decide +kernel
theorem dX6_isWhole_36 : decode cX6_isWhole 36 = .ok (.lstore_n 1, 1) := by decide +kernel
theorem dX6_isWhole_37 : decode cX6_isWhole 37 = .ok (.lload_n 3, 1) := by decide +kernel
theorem dX6_isWhole_38 : decode cX6_isWhole 38 = .ok (.aload_n 0, 1) := by decide +kernel
theorem dX6_isWhole_39 : decode cX6_isWhole 39 = .ok (.getfield 36, 3) := by decide +kernel
theorem dX6_isWhole_42 : decode cX6_isWhole 42 = .ok (.iload 5, 2) := by decide +kernel
theorem dX6_isWhole_44 : decode cX6_isWhole 44 = .ok (.iaload, 1) := by decide +kernel
theorem dX6_isWhole_45 : decode cX6_isWhole 45 = .ok (.i2l, 1) := by decide +kernel
theorem dX6_isWhole_46 : decode cX6_isWhole 46 = .ok (.lmul, 1) := by decide +kernel
theorem dX6_isWhole_47 : decode cX6_isWhole 47 = .ok (.lstore_n 3, 1) := by decide +kernel
theorem dX6_isWhole_48 : decode cX6_isWhole 48 = .ok (.iinc 5 1, 3) := by decide +kernel
theorem dX6_isWhole_51 : decode cX6_isWhole 51 = .ok (.goto (-36), 3) := by decide +kernel
theorem dX6_isWhole_54 : decode cX6_isWhole 54 = .ok (.lload_n 1, 1) := by decide +kernel
theorem dX6_isWhole_55 : decode cX6_isWhole 55 = .ok (.lconst 0, 1) := by decide +kernel
theorem dX6_isWhole_56 : decode cX6_isWhole 56 = .ok (.lcmp, 1) := by decide +kernel
theorem dX6_isWhole_57 : decode cX6_isWhole 57 = .ok (.ifCond .ne 7, 3) := by decide +kernel
theorem dX6_isWhole_60 : decode cX6_isWhole 60 = .ok (.iconst 1, 1) := by decide +kernel
theorem dX6_isWhole_61 : decode cX6_isWhole 61 = .ok (.goto 4, 3) := by decide +kernel
theorem dX6_isWhole_64 : decode cX6_isWhole 64 = .ok (.iconst 0, 1) := by decide +kernel
theorem dX6_isWhole_65 : decode cX6_isWhole 65 = .ok (.ireturn, 1) := by decide +kernel
theorem dX6_readsSum_0 : decode cX6_readsSum 0 = .ok (.aload_n 0, 1) := by decide +kernel
theorem dX6_readsSum_1 : decode cX6_readsSum 1 = .ok (.invokevirtual 86, 3) := by decide +kernel
theorem dX6_readsSum_4 : decode cX6_readsSum 4 = .ok (.aload_n 0, 1) := by decide +kernel
theorem dX6_readsSum_5 : decode cX6_readsSum 5 = .ok (.iconst 1, 1) := by decide +kernel
theorem dX6_readsSum_6 : decode cX6_readsSum 6 = .ok (.bipush 60, 2) := by decide +kernel
theorem dX6_readsSum_8 : decode cX6_readsSum 8 = .ok (.invokevirtual 92, 3) := by decide +kernel
theorem dX6_readsSum_11 : decode cX6_readsSum 11 = .ok (.ifCond .eq 77, 3) := by decide +kernel
theorem dX6_readsSum_14 : decode cX6_readsSum 14 = .ok (.aload_n 0, 1) := by decide +kernel
theorem dX6_readsSum_15 : decode cX6_readsSum 15 = .ok (.getfield 106, 3) := by decide +kernel
theorem dX6_readsSum_18 : decode cX6_readsSum 18 = .ok (.bipush 8, 2) := by decide +kernel
theorem dX6_readsSum_20 : decode cX6_readsSum 20 = .ok (.if_icmp .eq 32, 3) := by decide +kernel
theorem dX6_readsSum_23 : decode cX6_readsSum 23 = .ok (.aload_n 0, 1) := by decide +kernel
theorem dX6_readsSum_24 : decode cX6_readsSum 24 = .ok (.getfield 106, 3) := by decide +kernel
theorem dX6_readsSum_27 : decode cX6_readsSum 27 = .ok (.ifCond .le 27, 3) := by decide +kernel
theorem dX6_readsSum_30 : decode cX6_readsSum 30 = .ok (.aload_n 0, 1) := by decide +kernel
theorem dX6_readsSum_31 : decode cX6_readsSum 31 = .ok (.getfield 79, 3) := by decide +kernel
theorem dX6_readsSum_34 : decode cX6_readsSum 34 = .ok (.sipush 1000, 3) := by decide +kernel
theorem dX6_readsSum_37 : decode cX6_readsSum 37 = .ok (.isub, 1) := by decide +kernel
theorem dX6_readsSum_38 : decode cX6_readsSum 38 = .ok (.aload_n 0, 1) := by decide +kernel
theorem dX6_readsSum_39 : decode cX6_readsSum 39 = .ok (.getfield 36, 3) := by decide +kernel
theorem dX6_readsSum_42 : decode cX6_readsSum 42 = .ok (.aload_n 0, 1) := by decide +kernel
theorem dX6_readsSum_43 : decode cX6_readsSum 43 = .ok (.getfield 106, 3) := by decide +kernel
theorem dX6_readsSum_46 : decode cX6_readsSum 46 = .ok (.iconst 1, 1) := by decide +kernel
theorem dX6_readsSum_47 : decode cX6_readsSum 47 = .ok (.isub, 1) := by decide +kernel
theorem dX6_readsSum_48 : decode cX6_readsSum 48 = .ok (.iaload, 1) := by decide +kernel
theorem dX6_readsSum_49 : decode cX6_readsSum 49 = .ok (.if_icmp .gt 5, 3) := by decide +kernel
theorem dX6_readsSum_52 : decode cX6_readsSum 52 = .ok (.iconst 0, 1) := by decide +kernel
theorem dX6_readsSum_53 : decode cX6_readsSum 53 = .ok (.ireturn, 1) := by decide +kernel
theorem dX6_readsSum_54 : decode cX6_readsSum 54 = .ok (.aload_n 0, 1) := by decide +kernel
theorem dX6_readsSum_55 : decode cX6_readsSum 55 = .ok (.getfield 36, 3) := by decide +kernel
theorem dX6_readsSum_58 : decode cX6_readsSum 58 = .ok (.aload_n 0, 1) := by decide +kernel
theorem dX6_readsSum_59 : decode cX6_readsSum 59 = .ok (.getfield 106, 3) := by decide +kernel
theorem dX6_readsSum_62 : decode cX6_readsSum 62 = .ok (.aload_n 0, 1) := by decide +kernel
theorem dX6_readsSum_63 : decode cX6_readsSum 63 = .ok (.getfield 79, 3) := by decide +kernel
theorem dX6_readsSum_66 : decode cX6_readsSum 66 = .ok (.sipush 1000, 3) := by decide +kernel
theorem dX6_readsSum_69 : decode cX6_readsSum 69 = .ok (.isub, 1) := by decide +kernel
theorem dX6_readsSum_70 : decode cX6_readsSum 70 = .ok (.iastore, 1) := by decide +kernel
theorem dX6_readsSum_71 : decode cX6_readsSum 71 = .ok (.aload_n 0, 1) := by decide +kernel
theorem dX6_readsSum_72 : decode cX6_readsSum 72 = .ok (.dup, 1) := by decide +kernel
theorem dX6_readsSum_73 : decode cX6_readsSum 73 = .ok (.getfield 106, 3) := by decide +kernel
theorem dX6_readsSum_76 : decode cX6_readsSum 76 = .ok (.iconst 1, 1) := by decide +kernel
theorem dX6_readsSum_77 : decode cX6_readsSum 77 = .ok (.iadd, 1) := by decide +kernel
theorem dX6_readsSum_78 : decode cX6_readsSum 78 = .ok (.putfield 106, 3) := by decide +kernel
theorem dX6_readsSum_81 : decode cX6_readsSum 81 = .ok (.aload_n 0, 1) := by decide +kernel
theorem dX6_readsSum_82 : decode cX6_readsSum 82 = .ok (.invokevirtual 86, 3) := by decide +kernel
theorem dX6_readsSum_85 : decode cX6_readsSum 85 = .ok (.goto (-81), 3) := by decide +kernel
theorem dX6_readsSum_88 : decode cX6_readsSum 88 = .ok (.aload_n 0, 1) := by decide +kernel
theorem dX6_readsSum_89 : decode cX6_readsSum 89 = .ok (.getfield 106, 3) := by decide +kernel
theorem dX6_readsSum_92 : decode cX6_readsSum 92 = .ok (.ifCond .le 30, 3) := by decide +kernel
theorem dX6_readsSum_95 : decode cX6_readsSum 95 = .ok (.aload_n 0, 1) := by decide +kernel
theorem dX6_readsSum_96 : decode cX6_readsSum 96 = .ok (.getfield 79, 3) := by decide +kernel
theorem dX6_readsSum_99 : decode cX6_readsSum 99 = .ok (.bipush 59, 2) := by decide +kernel
theorem dX6_readsSum_101 : decode cX6_readsSum 101 = .ok (.if_icmp .ne 10, 3) := by decide +kernel
theorem dX6_readsSum_104 : decode cX6_readsSum 104 = .ok (.aload_n 0, 1) := by decide +kernel
theorem dX6_readsSum_105 : decode cX6_readsSum 105 = .ok (.invokevirtual 109, 3) := by decide +kernel
theorem dX6_readsSum_108 : decode cX6_readsSum 108 = .ok (.ifCond .eq 14, 3) := by decide +kernel
theorem dX6_readsSum_111 : decode cX6_readsSum 111 = .ok (.aload_n 0, 1) := by decide +kernel
theorem dX6_readsSum_112 : decode cX6_readsSum 112 = .ok (.invokevirtual 102, 3) := by decide +kernel
theorem dX6_readsSum_115 : decode cX6_readsSum 115 = .ok (.ifCond .eq 7, 3) := by decide +kernel
theorem dX6_readsSum_118 : decode cX6_readsSum 118 = .ok (.iconst 1, 1) := by decide +kernel
theorem dX6_readsSum_119 : decode cX6_readsSum 119 = .ok (.goto 4, 3) := by decide +kernel
theorem dX6_readsSum_122 : decode cX6_readsSum 122 = .ok (.iconst 0, 1) := by decide +kernel
theorem dX6_readsSum_123 : decode cX6_readsSum 123 = .ok (.ireturn, 1) := by decide +kernel
theorem dX6_reads_0 : decode cX6_reads 0 = .ok (.aload_n 0, 1) := by decide +kernel
theorem dX6_reads_1 : decode cX6_reads 1 = .ok (.iconst 0, 1) := by decide +kernel
theorem dX6_reads_2 : decode cX6_reads 2 = .ok (.putfield 70, 3) := by decide +kernel
theorem dX6_reads_5 : decode cX6_reads 5 = .ok (.aload_n 0, 1) := by decide +kernel
theorem dX6_reads_6 : decode cX6_reads 6 = .ok (.iconst 0, 1) := by decide +kernel
theorem dX6_reads_7 : decode cX6_reads 7 = .ok (.putfield 89, 3) := by decide +kernel
theorem dX6_reads_10 : decode cX6_reads 10 = .ok (.aload_n 0, 1) := by decide +kernel
theorem dX6_reads_11 : decode cX6_reads 11 = .ok (.iconst 2, 1) := by decide +kernel
theorem dX6_reads_12 : decode cX6_reads 12 = .ok (.putfield 96, 3) := by decide +kernel
theorem dX6_reads_15 : decode cX6_reads 15 = .ok (.aload_n 0, 1) := by decide +kernel
theorem dX6_reads_16 : decode cX6_reads 16 = .ok (.iconst 3, 1) := by decide +kernel
theorem dX6_reads_17 : decode cX6_reads 17 = .ok (.putfield 99, 3) := by decide +kernel
theorem dX6_reads_20 : decode cX6_reads 20 = .ok (.aload_n 0, 1) := by decide +kernel
theorem dX6_reads_21 : decode cX6_reads 21 = .ok (.iconst 0, 1) := by decide +kernel
theorem dX6_reads_22 : decode cX6_reads 22 = .ok (.putfield 106, 3) := by decide +kernel
theorem dX6_reads_25 : decode cX6_reads 25 = .ok (.aload_n 0, 1) := by decide +kernel
theorem dX6_reads_26 : decode cX6_reads 26 = .ok (.invokevirtual 86, 3) := by decide +kernel
theorem dX6_reads_29 : decode cX6_reads 29 = .ok (.aload_n 0, 1) := by decide +kernel
theorem dX6_reads_30 : decode cX6_reads 30 = .ok (.getfield 79, 3) := by decide +kernel
theorem dX6_reads_33 : decode cX6_reads 33 = .ok (.iconst (-1), 1) := by decide +kernel
theorem dX6_reads_34 : decode cX6_reads 34 = .ok (.if_icmp .eq 19, 3) := by decide +kernel
theorem dX6_reads_37 : decode cX6_reads 37 = .ok (.aload_n 0, 1) := by decide +kernel
theorem dX6_reads_38 : decode cX6_reads 38 = .ok (.getfield 79, 3) := by decide +kernel
theorem dX6_reads_41 : decode cX6_reads 41 = .ok (.bipush 112, 2) := by decide +kernel
theorem dX6_reads_43 : decode cX6_reads 43 = .ok (.if_icmp .ne 14, 3) := by decide +kernel
theorem dX6_reads_46 : decode cX6_reads 46 = .ok (.aload_n 0, 1) := by decide +kernel
theorem dX6_reads_47 : decode cX6_reads 47 = .ok (.invokevirtual 112, 3) := by decide +kernel
theorem dX6_reads_50 : decode cX6_reads 50 = .ok (.ifCond .eq 7, 3) := by decide +kernel
theorem dX6_reads_53 : decode cX6_reads 53 = .ok (.iconst 1, 1) := by decide +kernel
theorem dX6_reads_54 : decode cX6_reads 54 = .ok (.goto 4, 3) := by decide +kernel
theorem dX6_reads_57 : decode cX6_reads 57 = .ok (.iconst 0, 1) := by decide +kernel
theorem dX6_reads_58 : decode cX6_reads 58 = .ok (.istore_n 1, 1) := by decide +kernel
theorem dX6_reads_59 : decode cX6_reads 59 = .ok (.iload_n 1, 1) := by decide +kernel
theorem dX6_reads_60 : decode cX6_reads 60 = .ok (.ifCond .eq 31, 3) := by decide +kernel
theorem dX6_reads_63 : decode cX6_reads 63 = .ok (.aload_n 0, 1) := by decide +kernel
theorem dX6_reads_64 : decode cX6_reads 64 = .ok (.getfield 79, 3) := by decide +kernel
theorem dX6_reads_67 : decode cX6_reads 67 = .ok (.iconst (-1), 1) := by decide +kernel
theorem dX6_reads_68 : decode cX6_reads 68 = .ok (.if_icmp .eq 19, 3) := by decide +kernel
theorem dX6_reads_71 : decode cX6_reads 71 = .ok (.aload_n 0, 1) := by decide +kernel
theorem dX6_reads_72 : decode cX6_reads 72 = .ok (.getfield 79, 3) := by decide +kernel
theorem dX6_reads_75 : decode cX6_reads 75 = .ok (.bipush 115, 2) := by decide +kernel
theorem dX6_reads_77 : decode cX6_reads 77 = .ok (.if_icmp .ne 14, 3) := by decide +kernel
theorem dX6_reads_80 : decode cX6_reads 80 = .ok (.aload_n 0, 1) := by decide +kernel
theorem dX6_reads_81 : decode cX6_reads 81 = .ok (.invokevirtual 115, 3) := by decide +kernel
theorem dX6_reads_84 : decode cX6_reads 84 = .ok (.ifCond .eq 7, 3) := by decide +kernel
theorem dX6_reads_87 : decode cX6_reads 87 = .ok (.iconst 1, 1) := by decide +kernel
theorem dX6_reads_88 : decode cX6_reads 88 = .ok (.goto 4, 3) := by decide +kernel
theorem dX6_reads_91 : decode cX6_reads 91 = .ok (.iconst 0, 1) := by decide +kernel
theorem dX6_reads_92 : decode cX6_reads 92 = .ok (.istore_n 1, 1) := by decide +kernel
theorem dX6_reads_93 : decode cX6_reads 93 = .ok (.iload_n 1, 1) := by decide +kernel
theorem dX6_reads_94 : decode cX6_reads 94 = .ok (.ifCond .eq 15, 3) := by decide +kernel
theorem dX6_reads_97 : decode cX6_reads 97 = .ok (.aload_n 0, 1) := by decide +kernel
theorem dX6_reads_98 : decode cX6_reads 98 = .ok (.getfield 79, 3) := by decide +kernel
theorem dX6_reads_101 : decode cX6_reads 101 = .ok (.iconst (-1), 1) := by decide +kernel
theorem dX6_reads_102 : decode cX6_reads 102 = .ok (.if_icmp .ne 7, 3) := by decide +kernel
theorem dX6_reads_105 : decode cX6_reads 105 = .ok (.iconst 1, 1) := by decide +kernel
theorem dX6_reads_106 : decode cX6_reads 106 = .ok (.goto 4, 3) := by decide +kernel
theorem dX6_reads_109 : decode cX6_reads 109 = .ok (.iconst 0, 1) := by decide +kernel
theorem dX6_reads_110 : decode cX6_reads 110 = .ok (.ireturn, 1) := by decide +kernel
theorem dX6_type_0 : decode cX6_type 0 = .ok (.iload_n 1, 1) := by decide +kernel
theorem dX6_type_1 : decode cX6_type 1 = .ok (.i2l, 1) := by decide +kernel
theorem dX6_type_2 : decode cX6_type 2 = .ok (.lconst 0, 1) := by decide +kernel
theorem dX6_type_3 : decode cX6_type 3 = .ok (.ldc2_w 118, 3) := by decide +kernel
theorem dX6_type_6 : decode cX6_type 6 = .ok (.invokestatic 66, 3) := by decide +kernel
theorem dX6_type_9 : decode cX6_type 9 = .ok (.ifCond .ne 5, 3) := by decide +kernel
theorem dX6_type_12 : decode cX6_type 12 = .ok (.iconst (-1), 1) := by decide +kernel
theorem dX6_type_13 : decode cX6_type 13 = .ok (.ireturn, 1) := by decide +kernel
theorem dX6_type_14 : decode cX6_type 14 = .ok (.aload_n 0, 1) := by decide +kernel
theorem dX6_type_15 : decode cX6_type 15 = .ok (.getfield 73, 3) := by decide +kernel
theorem dX6_type_18 : decode cX6_type 18 = .ok (.bipush 60, 2) := by decide +kernel
theorem dX6_type_20 : decode cX6_type 20 = .ok (.if_icmp .ne 6, 3) := by decide +kernel
theorem dX6_type_23 : decode cX6_type 23 = .ok (.bipush (-3), 2) := by decide +kernel
theorem dX6_type_25 : decode cX6_type 25 = .ok (.ireturn, 1) := by decide +kernel
theorem dX6_type_26 : decode cX6_type 26 = .ok (.aload_n 0, 1) := by decide +kernel
theorem dX6_type_27 : decode cX6_type 27 = .ok (.getfield 33, 3) := by decide +kernel
theorem dX6_type_30 : decode cX6_type 30 = .ok (.aload_n 0, 1) := by decide +kernel
theorem dX6_type_31 : decode cX6_type 31 = .ok (.getfield 73, 3) := by decide +kernel
theorem dX6_type_34 : decode cX6_type 34 = .ok (.iload_n 1, 1) := by decide +kernel
theorem dX6_type_35 : decode cX6_type 35 = .ok (.iastore, 1) := by decide +kernel
theorem dX6_type_36 : decode cX6_type 36 = .ok (.aload_n 0, 1) := by decide +kernel
theorem dX6_type_37 : decode cX6_type 37 = .ok (.dup, 1) := by decide +kernel
theorem dX6_type_38 : decode cX6_type 38 = .ok (.getfield 73, 3) := by decide +kernel
theorem dX6_type_41 : decode cX6_type 41 = .ok (.iconst 1, 1) := by decide +kernel
theorem dX6_type_42 : decode cX6_type 42 = .ok (.iadd, 1) := by decide +kernel
theorem dX6_type_43 : decode cX6_type 43 = .ok (.putfield 73, 3) := by decide +kernel
theorem dX6_type_46 : decode cX6_type 46 = .ok (.aload_n 0, 1) := by decide +kernel
theorem dX6_type_47 : decode cX6_type 47 = .ok (.getfield 73, 3) := by decide +kernel
theorem dX6_type_50 : decode cX6_type 50 = .ok (.ireturn, 1) := by decide +kernel
theorem dX6_clear_0 : decode cX6_clear 0 = .ok (.aload_n 0, 1) := by decide +kernel
theorem dX6_clear_1 : decode cX6_clear 1 = .ok (.getfield 73, 3) := by decide +kernel
theorem dX6_clear_4 : decode cX6_clear 4 = .ok (.istore_n 1, 1) := by decide +kernel
theorem dX6_clear_5 : decode cX6_clear 5 = .ok (.aload_n 0, 1) := by decide +kernel
theorem dX6_clear_6 : decode cX6_clear 6 = .ok (.iconst 0, 1) := by decide +kernel
theorem dX6_clear_7 : decode cX6_clear 7 = .ok (.putfield 73, 3) := by decide +kernel
theorem dX6_clear_10 : decode cX6_clear 10 = .ok (.iload_n 1, 1) := by decide +kernel
theorem dX6_clear_11 : decode cX6_clear 11 = .ok (.ireturn, 1) := by decide +kernel
theorem dX6_fraction_0 : decode cX6_fraction 0 = .ok (.aload_n 0, 1) := by decide +kernel
theorem dX6_fraction_1 : decode cX6_fraction 1 = .ok (.invokevirtual 120, 3) := by decide +kernel
theorem dX6_fraction_4 : decode cX6_fraction 4 = .ok (.ifCond .ne 11, 3) := by decide +kernel
theorem dX6_fraction_7 : decode cX6_fraction 7 = .ok (.bipush (-10), 2) := by decide +kernel
theorem dX6_fraction_9 : decode cX6_fraction 9 = .ok (.aload_n 0, 1) := by decide +kernel
theorem dX6_fraction_10 : decode cX6_fraction 10 = .ok (.getfield 76, 3) := by decide +kernel
theorem dX6_fraction_13 : decode cX6_fraction 13 = .ok (.isub, 1) := by decide +kernel
theorem dX6_fraction_14 : decode cX6_fraction 14 = .ok (.ireturn, 1) := by decide +kernel
theorem dX6_fraction_15 : decode cX6_fraction 15 = .ok (.aload_n 0, 1) := by decide +kernel
theorem dX6_fraction_16 : decode cX6_fraction 16 = .ok (.aload_n 0, 1) := by decide +kernel
theorem dX6_fraction_17 : decode cX6_fraction 17 = .ok (.getfield 96, 3) := by decide +kernel
theorem dX6_fraction_20 : decode cX6_fraction 20 = .ok (.putfield 17, 3) := by decide +kernel
theorem dX6_fraction_23 : decode cX6_fraction 23 = .ok (.aload_n 0, 1) := by decide +kernel
theorem dX6_fraction_24 : decode cX6_fraction 24 = .ok (.aload_n 0, 1) := by decide +kernel
theorem dX6_fraction_25 : decode cX6_fraction 25 = .ok (.getfield 99, 3) := by decide +kernel
theorem dX6_fraction_28 : decode cX6_fraction 28 = .ok (.putfield 21, 3) := by decide +kernel
theorem dX6_fraction_31 : decode cX6_fraction 31 = .ok (.aload_n 0, 1) := by decide +kernel
theorem dX6_fraction_32 : decode cX6_fraction 32 = .ok (.getfield 7, 3) := by decide +kernel
theorem dX6_fraction_35 : decode cX6_fraction 35 = .ok (.iconst 0, 1) := by decide +kernel
theorem dX6_fraction_36 : decode cX6_fraction 36 = .ok (.aload_n 0, 1) := by decide +kernel
theorem dX6_fraction_37 : decode cX6_fraction 37 = .ok (.getfield 106, 3) := by decide +kernel
theorem dX6_fraction_40 : decode cX6_fraction 40 = .ok (.iastore, 1) := by decide +kernel
theorem dX6_fraction_41 : decode cX6_fraction 41 = .ok (.iconst 0, 1) := by decide +kernel
theorem dX6_fraction_42 : decode cX6_fraction 42 = .ok (.istore_n 1, 1) := by decide +kernel
theorem dX6_fraction_43 : decode cX6_fraction 43 = .ok (.iload_n 1, 1) := by decide +kernel
theorem dX6_fraction_44 : decode cX6_fraction 44 = .ok (.aload_n 0, 1) := by decide +kernel
theorem dX6_fraction_45 : decode cX6_fraction 45 = .ok (.getfield 106, 3) := by decide +kernel
theorem dX6_fraction_48 : decode cX6_fraction 48 = .ok (.if_icmp .ge 23, 3) := by decide +kernel
theorem dX6_fraction_51 : decode cX6_fraction 51 = .ok (.aload_n 0, 1) := by decide +kernel
theorem dX6_fraction_52 : decode cX6_fraction 52 = .ok (.getfield 7, 3) := by decide +kernel
theorem dX6_fraction_55 : decode cX6_fraction 55 = .ok (.iconst 1, 1) := by decide +kernel
theorem dX6_fraction_56 : decode cX6_fraction 56 = .ok (.iload_n 1, 1) := by decide +kernel
theorem dX6_fraction_57 : decode cX6_fraction 57 = .ok (.iadd, 1) := by decide +kernel
theorem dX6_fraction_58 : decode cX6_fraction 58 = .ok (.aload_n 0, 1) := by decide +kernel
theorem dX6_fraction_59 : decode cX6_fraction 59 = .ok (.getfield 36, 3) := by decide +kernel
theorem dX6_fraction_62 : decode cX6_fraction 62 = .ok (.iload_n 1, 1) := by decide +kernel
theorem dX6_fraction_63 : decode cX6_fraction 63 = .ok (.iaload, 1) := by decide +kernel
theorem dX6_fraction_64 : decode cX6_fraction 64 = .ok (.iastore, 1) := by decide +kernel
theorem dX6_fraction_65 : decode cX6_fraction 65 = .ok (.iinc 1 1, 3) := by decide +kernel
theorem dX6_fraction_68 : decode cX6_fraction 68 = .ok (.goto (-25), 3) := by decide +kernel
theorem dX6_fraction_71 : decode cX6_fraction 71 = .ok (.aload_n 0, 1) := by decide +kernel
theorem dX6_fraction_72 : decode cX6_fraction 72 = .ok (.iconst 0, 1) := by decide +kernel
theorem dX6_fraction_73 : decode cX6_fraction 73 = .ok (.putfield 73, 3) := by decide +kernel
theorem dX6_fraction_76 : decode cX6_fraction 76 = .ok (.aload_n 0, 1) := by decide +kernel
theorem dX6_fraction_77 : decode cX6_fraction 77 = .ok (.iconst 0, 1) := by decide +kernel
theorem dX6_fraction_78 : decode cX6_fraction 78 = .ok (.putfield 55, 3) := by decide +kernel
theorem dX6_fraction_81 : decode cX6_fraction 81 = .ok (.aload_n 0, 1) := by decide +kernel
theorem dX6_fraction_82 : decode cX6_fraction 82 = .ok (.iconst 0, 1) := by decide +kernel
theorem dX6_fraction_83 : decode cX6_fraction 83 = .ok (.putfield 123, 3) := by decide +kernel
theorem dX6_fraction_86 : decode cX6_fraction 86 = .ok (.aload_n 0, 1) := by decide +kernel
theorem dX6_fraction_87 : decode cX6_fraction 87 = .ok (.getfield 13, 3) := by decide +kernel
theorem dX6_fraction_90 : decode cX6_fraction 90 = .ok (.iconst 0, 1) := by decide +kernel
theorem dX6_fraction_91 : decode cX6_fraction 91 = .ok (.iconst 0, 1) := by decide +kernel
theorem dX6_fraction_92 : decode cX6_fraction 92 = .ok (.bastore, 1) := by decide +kernel
theorem dX6_fraction_93 : decode cX6_fraction 93 = .ok (.aload_n 0, 1) := by decide +kernel
theorem dX6_fraction_94 : decode cX6_fraction 94 = .ok (.getfield 13, 3) := by decide +kernel
theorem dX6_fraction_97 : decode cX6_fraction 97 = .ok (.iconst 1, 1) := by decide +kernel
theorem dX6_fraction_98 : decode cX6_fraction 98 = .ok (.iconst 0, 1) := by decide +kernel
theorem dX6_fraction_99 : decode cX6_fraction 99 = .ok (.bastore, 1) := by decide +kernel
theorem dX6_fraction_100 : decode cX6_fraction 100 = .ok (.aload_n 0, 1) := by decide +kernel
theorem dX6_fraction_101 : decode cX6_fraction 101 = .ok (.getfield 89, 3) := by decide +kernel
theorem dX6_fraction_104 : decode cX6_fraction 104 = .ok (.ireturn, 1) := by decide +kernel
theorem dX6_common_0 : decode cX6_common 0 = .ok (.lload_n 0, 1) := by decide +kernel
theorem dX6_common_1 : decode cX6_common 1 = .ok (.lstore 4, 2) := by decide +kernel
theorem dX6_common_3 : decode cX6_common 3 = .ok (.lload_n 2, 1) := by decide +kernel
theorem dX6_common_4 : decode cX6_common 4 = .ok (.lstore 6, 2) := by decide +kernel
theorem dX6_common_6 : decode cX6_common 6 = .ok (.lload 6, 2) := by decide +kernel
theorem dX6_common_8 : decode cX6_common 8 = .ok (.lconst 0, 1) := by decide +kernel
theorem dX6_common_9 : decode cX6_common 9 = .ok (.lcmp, 1) := by decide +kernel
theorem dX6_common_10 : decode cX6_common 10 = .ok (.ifCond .le 21, 3) := by decide +kernel
theorem dX6_common_13 : decode cX6_common 13 = .ok (.lload 4, 2) := by decide +kernel
theorem dX6_common_15 : decode cX6_common 15 = .ok (.lload 6, 2) := by decide +kernel
theorem dX6_common_17 : decode cX6_common 17 = .ok (.lrem, 1) := by decide +kernel
theorem dX6_common_18 : decode cX6_common 18 = .ok (.lstore 8, 2) := by decide +kernel
theorem dX6_common_20 : decode cX6_common 20 = .ok (.lload 6, 2) := by decide +kernel
theorem dX6_common_22 : decode cX6_common 22 = .ok (.lstore 4, 2) := by decide +kernel
theorem dX6_common_24 : decode cX6_common 24 = .ok (.lload 8, 2) := by decide +kernel
theorem dX6_common_26 : decode cX6_common 26 = .ok (.lstore 6, 2) := by decide +kernel
theorem dX6_common_28 : decode cX6_common 28 = .ok (.goto (-22), 3) := by decide +kernel
theorem dX6_common_31 : decode cX6_common 31 = .ok (.lload 4, 2) := by decide +kernel
theorem dX6_common_33 : decode cX6_common 33 = .ok (.lreturn, 1) := by decide +kernel
theorem dX6_least_0 : decode cX6_least 0 = .ok (.aload_n 0, 1) := by decide +kernel
theorem dX6_least_1 : decode cX6_least 1 = .ok (.getfield 17, 3) := by decide +kernel
theorem dX6_least_4 : decode cX6_least 4 = .ok (.i2l, 1) := by decide +kernel
theorem dX6_least_5 : decode cX6_least 5 = .ok (.lstore_n 2, 1) := by decide +kernel
theorem dX6_least_6 : decode cX6_least 6 = .ok (.aload_n 0, 1) := by decide +kernel
theorem dX6_least_7 : decode cX6_least 7 = .ok (.getfield 21, 3) := by decide +kernel
theorem dX6_least_10 : decode cX6_least 10 = .ok (.i2l, 1) := by decide +kernel
theorem dX6_least_11 : decode cX6_least 11 = .ok (.lstore 4, 2) := by decide +kernel
theorem dX6_least_13 : decode cX6_least 13 = .ok (.lconst 0, 1) := by decide +kernel
theorem dX6_least_14 : decode cX6_least 14 = .ok (.lstore 6, 2) := by decide +kernel
theorem dX6_least_16 : decode cX6_least 16 = .ok (.iconst 0, 1) := by decide +kernel
theorem dX6_least_17 : decode cX6_least 17 = .ok (.istore 8, 2) := by decide +kernel
theorem dX6_least_19 : decode cX6_least 19 = .ok (.lload_n 2, 1) := by decide +kernel
theorem dX6_least_20 : decode cX6_least 20 = .ok (.lconst 0, 1) := by decide +kernel
theorem dX6_least_21 : decode cX6_least 21 = .ok (.lcmp, 1) := by decide +kernel
theorem dX6_least_22 : decode cX6_least 22 = .ok (.ifCond .le 133, 3) := by decide +kernel
theorem dX6_least_25 : decode cX6_least 25 = .ok (.lload 4, 2) := by decide +kernel
theorem dX6_least_27 : decode cX6_least 27 = .ok (.lload_n 2, 1) := by decide +kernel
theorem dX6_least_28 : decode cX6_least 28 = .ok (.ladd, 1) := by decide +kernel
theorem dX6_least_29 : decode cX6_least 29 = .ok (.lconst 1, 1) := by decide +kernel
theorem dX6_least_30 : decode cX6_least 30 = .ok (.lsub, 1) := by decide +kernel
theorem dX6_least_31 : decode cX6_least 31 = .ok (.lload_n 2, 1) := by decide +kernel
theorem dX6_least_32 : decode cX6_least 32 = .ok (.ldiv, 1) := by decide +kernel
theorem dX6_least_33 : decode cX6_least 33 = .ok (.lstore 9, 2) := by decide +kernel
theorem dX6_least_35 : decode cX6_least 35 = .ok (.lload 9, 2) := by decide +kernel
theorem dX6_least_37 : decode cX6_least 37 = .ok (.iload_n 1, 1) := by decide +kernel
theorem dX6_least_38 : decode cX6_least 38 = .ok (.iconst 2, 1) := by decide +kernel
theorem dX6_least_39 : decode cX6_least 39 = .ok (.if_icmp .ne 18, 3) := by decide +kernel
theorem dX6_least_42 : decode cX6_least 42 = .ok (.lload 9, 2) := by decide +kernel
theorem dX6_least_44 : decode cX6_least 44 = .ok (.ldc2_w 126, 3) := by decide +kernel
theorem dX6_least_47 : decode cX6_least 47 = .ok (.lrem, 1) := by decide +kernel
theorem dX6_least_48 : decode cX6_least 48 = .ok (.lconst 0, 1) := by decide +kernel
theorem dX6_least_49 : decode cX6_least 49 = .ok (.lcmp, 1) := by decide +kernel
theorem dX6_least_50 : decode cX6_least 50 = .ok (.ifCond .ne 7, 3) := by decide +kernel
theorem dX6_least_53 : decode cX6_least 53 = .ok (.lconst 1, 1) := by decide +kernel
theorem dX6_least_54 : decode cX6_least 54 = .ok (.goto 4, 3) := by decide +kernel
theorem dX6_least_57 : decode cX6_least 57 = .ok (.lconst 0, 1) := by decide +kernel
theorem dX6_least_58 : decode cX6_least 58 = .ok (.ladd, 1) := by decide +kernel
theorem dX6_least_59 : decode cX6_least 59 = .ok (.lstore 9, 2) := by decide +kernel
theorem dX6_least_61 : decode cX6_least 61 = .ok (.lload 9, 2) := by decide +kernel
theorem dX6_least_63 : decode cX6_least 63 = .ok (.lload 6, 2) := by decide +kernel
theorem dX6_least_65 : decode cX6_least 65 = .ok (.lcmp, 1) := by decide +kernel
theorem dX6_least_66 : decode cX6_least 66 = .ok (.ifCond .gt 11, 3) := by decide +kernel
theorem dX6_least_69 : decode cX6_least 69 = .ok (.lload 6, 2) := by decide +kernel
theorem dX6_least_71 : decode cX6_least 71 = .ok (.iload_n 1, 1) := by decide +kernel
theorem dX6_least_72 : decode cX6_least 72 = .ok (.i2l, 1) := by decide +kernel
theorem dX6_least_73 : decode cX6_least 73 = .ok (.ladd, 1) := by decide +kernel
theorem dX6_least_74 : decode cX6_least 74 = .ok (.goto 5, 3) := by decide +kernel
theorem dX6_least_77 : decode cX6_least 77 = .ok (.lload 9, 2) := by decide +kernel
theorem dX6_least_79 : decode cX6_least 79 = .ok (.lstore 9, 2) := by decide +kernel
theorem dX6_least_81 : decode cX6_least 81 = .ok (.iload 8, 2) := by decide +kernel
theorem dX6_least_83 : decode cX6_least 83 = .ok (.bipush 8, 2) := by decide +kernel
theorem dX6_least_85 : decode cX6_least 85 = .ok (.if_icmp .eq 12, 3) := by decide +kernel
theorem dX6_least_88 : decode cX6_least 88 = .ok (.lload 9, 2) := by decide +kernel
theorem dX6_least_90 : decode cX6_least 90 = .ok (.ldc2_w 128, 3) := by decide +kernel
theorem dX6_least_93 : decode cX6_least 93 = .ok (.lcmp, 1) := by decide +kernel
theorem dX6_least_94 : decode cX6_least 94 = .ok (.ifCond .le 6, 3) := by decide +kernel
theorem dX6_least_97 : decode cX6_least 97 = .ok (.bipush (-9), 2) := by decide +kernel
theorem dX6_least_99 : decode cX6_least 99 = .ok (.ireturn, 1) := by decide +kernel
theorem dX6_least_100 : decode cX6_least 100 = .ok (.aload_n 0, 1) := by decide +kernel
theorem dX6_least_101 : decode cX6_least 101 = .ok (.getfield 39, 3) := by decide +kernel
theorem dX6_least_104 : decode cX6_least 104 = .ok (.iload 8, 2) := by decide +kernel
theorem dX6_least_106 : decode cX6_least 106 = .ok (.lload 9, 2) := by decide +kernel
theorem dX6_least_108 : decode cX6_least 108 = .ok (.l2i, 1) := by decide +kernel
theorem dX6_least_109 : decode cX6_least 109 = .ok (.iastore, 1) := by decide +kernel
theorem dX6_least_110 : decode cX6_least 110 = .ok (.iinc 8 1, 3) := by decide +kernel
theorem dX6_least_113 : decode cX6_least 113 = .ok (.lload_n 2, 1) := by decide +kernel
theorem dX6_least_114 : decode cX6_least 114 = .ok (.lload 9, 2) := by decide +kernel
theorem dX6_least_116 : decode cX6_least 116 = .ok (.lmul, 1) := by decide +kernel
theorem dX6_least_117 : decode cX6_least 117 = .ok (.lload 4, 2) := by decide +kernel
theorem dX6_least_119 : decode cX6_least 119 = .ok (.lsub, 1) := by decide +kernel
theorem dX6_least_120 : decode cX6_least 120 = .ok (.lstore_n 2, 1) := by decide +kernel
theorem dX6_least_121 : decode cX6_least 121 = .ok (.lload 4, 2) := by decide +kernel
theorem dX6_least_123 : decode cX6_least 123 = .ok (.lload 9, 2) := by decide +kernel
theorem dX6_least_125 : decode cX6_least 125 = .ok (.lmul, 1) := by decide +kernel
theorem dX6_least_126 : decode cX6_least 126 = .ok (.lstore 4, 2) := by decide +kernel
theorem dX6_least_128 : decode cX6_least 128 = .ok (.lload 4, 2) := by decide +kernel
theorem dX6_least_130 : decode cX6_least 130 = .ok (.lload_n 2, 1) := by decide +kernel
theorem dX6_least_131 : decode cX6_least 131 = .ok (.invokestatic 130, 3) := by decide +kernel
theorem dX6_least_134 : decode cX6_least 134 = .ok (.lstore 11, 2) := by decide +kernel
theorem dX6_least_136 : decode cX6_least 136 = .ok (.lload_n 2, 1) := by decide +kernel
theorem dX6_least_137 : decode cX6_least 137 = .ok (.lload 11, 2) := by decide +kernel
theorem dX6_least_139 : decode cX6_least 139 = .ok (.ldiv, 1) := by decide +kernel
theorem dX6_least_140 : decode cX6_least 140 = .ok (.lstore_n 2, 1) := by decide +kernel
theorem dX6_least_141 : decode cX6_least 141 = .ok (.lload 4, 2) := by decide +kernel
theorem dX6_least_143 : decode cX6_least 143 = .ok (.lload 11, 2) := by decide +kernel
theorem dX6_least_145 : decode cX6_least 145 = .ok (.ldiv, 1) := by decide +kernel
theorem dX6_least_146 : decode cX6_least 146 = .ok (.lstore 4, 2) := by decide +kernel
theorem dX6_least_148 : decode cX6_least 148 = .ok (.lload 9, 2) := by decide +kernel
theorem dX6_least_150 : decode cX6_least 150 = .ok (.lstore 6, 2) := by decide +kernel
theorem dX6_least_152 : decode cX6_least 152 = .ok (.goto (-133), 3) := by decide +kernel
theorem dX6_least_155 : decode cX6_least 155 = .ok (.iload 8, 2) := by decide +kernel
theorem dX6_least_157 : decode cX6_least 157 = .ok (.ireturn, 1) := by decide +kernel
theorem dX6_goesThrough_0 : decode cX6_goesThrough 0 = .ok (.iconst 0, 1) := by decide +kernel
theorem dX6_goesThrough_1 : decode cX6_goesThrough 1 = .ok (.istore 4, 2) := by decide +kernel
theorem dX6_goesThrough_3 : decode cX6_goesThrough 3 = .ok (.iconst 0, 1) := by decide +kernel
theorem dX6_goesThrough_4 : decode cX6_goesThrough 4 = .ok (.istore 5, 2) := by decide +kernel
theorem dX6_goesThrough_6 : decode cX6_goesThrough 6 = .ok (.aload_n 0, 1) := by decide +kernel
theorem dX6_goesThrough_7 : decode cX6_goesThrough 7 = .ok (.bipush (-9), 2) := by decide +kernel
theorem dX6_goesThrough_9 : decode cX6_goesThrough 9 = .ok (.putfield 134, 3) := by decide +kernel
theorem dX6_goesThrough_12 : decode cX6_goesThrough 12 = .ok (.aload_n 0, 1) := by decide +kernel
theorem dX6_goesThrough_13 : decode cX6_goesThrough 13 = .ok (.getfield 42, 3) := by decide +kernel
theorem dX6_goesThrough_16 : decode cX6_goesThrough 16 = .ok (.iconst 0, 1) := by decide +kernel
theorem dX6_goesThrough_17 : decode cX6_goesThrough 17 = .ok (.aload_n 0, 1) := by decide +kernel
theorem dX6_goesThrough_18 : decode cX6_goesThrough 18 = .ok (.getfield 17, 3) := by decide +kernel
theorem dX6_goesThrough_21 : decode cX6_goesThrough 21 = .ok (.i2l, 1) := by decide +kernel
theorem dX6_goesThrough_22 : decode cX6_goesThrough 22 = .ok (.lastore, 1) := by decide +kernel
theorem dX6_goesThrough_23 : decode cX6_goesThrough 23 = .ok (.aload_n 0, 1) := by decide +kernel
theorem dX6_goesThrough_24 : decode cX6_goesThrough 24 = .ok (.getfield 46, 3) := by decide +kernel
theorem dX6_goesThrough_27 : decode cX6_goesThrough 27 = .ok (.iconst 0, 1) := by decide +kernel
theorem dX6_goesThrough_28 : decode cX6_goesThrough 28 = .ok (.aload_n 0, 1) := by decide +kernel
theorem dX6_goesThrough_29 : decode cX6_goesThrough 29 = .ok (.getfield 21, 3) := by decide +kernel
theorem dX6_goesThrough_32 : decode cX6_goesThrough 32 = .ok (.i2l, 1) := by decide +kernel
theorem dX6_goesThrough_33 : decode cX6_goesThrough 33 = .ok (.lastore, 1) := by decide +kernel
theorem dX6_goesThrough_34 : decode cX6_goesThrough 34 = .ok (.aload_n 0, 1) := by decide +kernel
theorem dX6_goesThrough_35 : decode cX6_goesThrough 35 = .ok (.getfield 49, 3) := by decide +kernel
theorem dX6_goesThrough_38 : decode cX6_goesThrough 38 = .ok (.iconst 0, 1) := by decide +kernel
theorem dX6_goesThrough_39 : decode cX6_goesThrough 39 = .ok (.iconst 0, 1) := by decide +kernel
theorem dX6_goesThrough_40 : decode cX6_goesThrough 40 = .ok (.iastore, 1) := by decide +kernel
theorem dX6_goesThrough_41 : decode cX6_goesThrough 41 = .ok (.iload 5, 2) := by decide +kernel
theorem dX6_goesThrough_43 : decode cX6_goesThrough 43 = .ok (.ifCond .lt 273, 3) := by decide +kernel
theorem dX6_goesThrough_46 : decode cX6_goesThrough 46 = .ok (.aload_n 0, 1) := by decide +kernel
theorem dX6_goesThrough_47 : decode cX6_goesThrough 47 = .ok (.getfield 49, 3) := by decide +kernel
theorem dX6_goesThrough_50 : decode cX6_goesThrough 50 = .ok (.iload 5, 2) := by decide +kernel
theorem dX6_goesThrough_52 : decode cX6_goesThrough 52 = .ok (.dup2, 1) := by decide +kernel
theorem dX6_goesThrough_53 : decode cX6_goesThrough 53 = .ok (.iaload, 1) := by decide +kernel
theorem dX6_goesThrough_54 : decode cX6_goesThrough 54 = .ok (.iconst 1, 1) := by decide +kernel
theorem dX6_goesThrough_55 : decode cX6_goesThrough 55 = .ok (.iadd, 1) := by decide +kernel
theorem dX6_goesThrough_56 : decode cX6_goesThrough 56 = .ok (.iastore, 1) := by decide +kernel
theorem dX6_goesThrough_57 : decode cX6_goesThrough 57 = .ok (.aload_n 0, 1) := by decide +kernel
theorem dX6_goesThrough_58 : decode cX6_goesThrough 58 = .ok (.getfield 42, 3) := by decide +kernel
theorem dX6_goesThrough_61 : decode cX6_goesThrough 61 = .ok (.iload 5, 2) := by decide +kernel
theorem dX6_goesThrough_63 : decode cX6_goesThrough 63 = .ok (.laload, 1) := by decide +kernel
theorem dX6_goesThrough_64 : decode cX6_goesThrough 64 = .ok (.lstore 6, 2) := by decide +kernel
theorem dX6_goesThrough_66 : decode cX6_goesThrough 66 = .ok (.aload_n 0, 1) := by decide +kernel
theorem dX6_goesThrough_67 : decode cX6_goesThrough 67 = .ok (.getfield 46, 3) := by decide +kernel
theorem dX6_goesThrough_70 : decode cX6_goesThrough 70 = .ok (.iload 5, 2) := by decide +kernel
theorem dX6_goesThrough_72 : decode cX6_goesThrough 72 = .ok (.laload, 1) := by decide +kernel
theorem dX6_goesThrough_73 : decode cX6_goesThrough 73 = .ok (.lstore 8, 2) := by decide +kernel
theorem dX6_goesThrough_75 : decode cX6_goesThrough 75 = .ok (.aload_n 0, 1) := by decide +kernel
theorem dX6_goesThrough_76 : decode cX6_goesThrough 76 = .ok (.getfield 49, 3) := by decide +kernel
theorem dX6_goesThrough_79 : decode cX6_goesThrough 79 = .ok (.iload 5, 2) := by decide +kernel
theorem dX6_goesThrough_81 : decode cX6_goesThrough 81 = .ok (.iaload, 1) := by decide +kernel
theorem dX6_goesThrough_82 : decode cX6_goesThrough 82 = .ok (.istore 10, 2) := by decide +kernel
theorem dX6_goesThrough_84 : decode cX6_goesThrough 84 = .ok (.iload_n 1, 1) := by decide +kernel
theorem dX6_goesThrough_85 : decode cX6_goesThrough 85 = .ok (.iload 5, 2) := by decide +kernel
theorem dX6_goesThrough_87 : decode cX6_goesThrough 87 = .ok (.isub, 1) := by decide +kernel
theorem dX6_goesThrough_88 : decode cX6_goesThrough 88 = .ok (.istore 11, 2) := by decide +kernel
theorem dX6_goesThrough_90 : decode cX6_goesThrough 90 = .ok (.lload 6, 2) := by decide +kernel
theorem dX6_goesThrough_92 : decode cX6_goesThrough 92 = .ok (.iload 10, 2) := by decide +kernel
theorem dX6_goesThrough_94 : decode cX6_goesThrough 94 = .ok (.i2l, 1) := by decide +kernel
theorem dX6_goesThrough_95 : decode cX6_goesThrough 95 = .ok (.lmul, 1) := by decide +kernel
theorem dX6_goesThrough_96 : decode cX6_goesThrough 96 = .ok (.lload 8, 2) := by decide +kernel
theorem dX6_goesThrough_98 : decode cX6_goesThrough 98 = .ok (.lsub, 1) := by decide +kernel
theorem dX6_goesThrough_99 : decode cX6_goesThrough 99 = .ok (.lstore 12, 2) := by decide +kernel
theorem dX6_goesThrough_101 : decode cX6_goesThrough 101 = .ok (.iload 10, 2) := by decide +kernel
theorem dX6_goesThrough_103 : decode cX6_goesThrough 103 = .ok (.iload_n 2, 1) := by decide +kernel
theorem dX6_goesThrough_104 : decode cX6_goesThrough 104 = .ok (.if_icmp .gt 19, 3) := by decide +kernel
theorem dX6_goesThrough_107 : decode cX6_goesThrough 107 = .ok (.lload 6, 2) := by decide +kernel
theorem dX6_goesThrough_109 : decode cX6_goesThrough 109 = .ok (.iload 10, 2) := by decide +kernel
theorem dX6_goesThrough_111 : decode cX6_goesThrough 111 = .ok (.i2l, 1) := by decide +kernel
theorem dX6_goesThrough_112 : decode cX6_goesThrough 112 = .ok (.lmul, 1) := by decide +kernel
theorem dX6_goesThrough_113 : decode cX6_goesThrough 113 = .ok (.iload 11, 2) := by decide +kernel
theorem dX6_goesThrough_115 : decode cX6_goesThrough 115 = .ok (.i2l, 1) := by decide +kernel
theorem dX6_goesThrough_116 : decode cX6_goesThrough 116 = .ok (.lload 8, 2) := by decide +kernel
theorem dX6_goesThrough_118 : decode cX6_goesThrough 118 = .ok (.lmul, 1) := by decide +kernel
theorem dX6_goesThrough_119 : decode cX6_goesThrough 119 = .ok (.lcmp, 1) := by decide +kernel
theorem dX6_goesThrough_120 : decode cX6_goesThrough 120 = .ok (.ifCond .le 9, 3) := by decide +kernel
theorem dX6_goesThrough_123 : decode cX6_goesThrough 123 = .ok (.iinc 5 (-1), 3) := by decide +kernel
theorem dX6_goesThrough_126 : decode cX6_goesThrough 126 = .ok (.goto 187, 3) := by decide +kernel
theorem dX6_goesThrough_129 : decode cX6_goesThrough 129 = .ok (.iload 11, 2) := by decide +kernel
theorem dX6_goesThrough_131 : decode cX6_goesThrough 131 = .ok (.iconst 1, 1) := by decide +kernel
theorem dX6_goesThrough_132 : decode cX6_goesThrough 132 = .ok (.if_icmp .ne 92, 3) := by decide +kernel
theorem dX6_goesThrough_135 : decode cX6_goesThrough 135 = .ok (.lload 12, 2) := by decide +kernel
theorem dX6_goesThrough_137 : decode cX6_goesThrough 137 = .ok (.lconst 0, 1) := by decide +kernel
theorem dX6_goesThrough_138 : decode cX6_goesThrough 138 = .ok (.lcmp, 1) := by decide +kernel
theorem dX6_goesThrough_139 : decode cX6_goesThrough 139 = .ok (.ifCond .ne 85, 3) := by decide +kernel
theorem dX6_goesThrough_142 : decode cX6_goesThrough 142 = .ok (.iconst 0, 1) := by decide +kernel
theorem dX6_goesThrough_143 : decode cX6_goesThrough 143 = .ok (.istore 14, 2) := by decide +kernel
theorem dX6_goesThrough_145 : decode cX6_goesThrough 145 = .ok (.iload 14, 2) := by decide +kernel
theorem dX6_goesThrough_147 : decode cX6_goesThrough 147 = .ok (.iload_n 1, 1) := by decide +kernel
theorem dX6_goesThrough_148 : decode cX6_goesThrough 148 = .ok (.if_icmp .ge 39, 3) := by decide +kernel
theorem dX6_goesThrough_151 : decode cX6_goesThrough 151 = .ok (.aload_n 0, 1) := by decide +kernel
theorem dX6_goesThrough_152 : decode cX6_goesThrough 152 = .ok (.getfield 52, 3) := by decide +kernel
theorem dX6_goesThrough_155 : decode cX6_goesThrough 155 = .ok (.iload 14, 2) := by decide +kernel
theorem dX6_goesThrough_157 : decode cX6_goesThrough 157 = .ok (.iload 4, 2) := by decide +kernel
theorem dX6_goesThrough_159 : decode cX6_goesThrough 159 = .ok (.iload_n 3, 1) := by decide +kernel
theorem dX6_goesThrough_160 : decode cX6_goesThrough 160 = .ok (.if_icmp .ne 13, 3) := by decide +kernel
theorem dX6_goesThrough_163 : decode cX6_goesThrough 163 = .ok (.aload_n 0, 1) := by decide +kernel
theorem dX6_goesThrough_164 : decode cX6_goesThrough 164 = .ok (.getfield 49, 3) := by decide +kernel
theorem dX6_goesThrough_167 : decode cX6_goesThrough 167 = .ok (.iload 14, 2) := by decide +kernel
theorem dX6_goesThrough_169 : decode cX6_goesThrough 169 = .ok (.iaload, 1) := by decide +kernel
theorem dX6_goesThrough_170 : decode cX6_goesThrough 170 = .ok (.goto 10, 3) := by decide +kernel
theorem dX6_goesThrough_173 : decode cX6_goesThrough 173 = .ok (.aload_n 0, 1) := by decide +kernel
theorem dX6_goesThrough_174 : decode cX6_goesThrough 174 = .ok (.getfield 52, 3) := by decide +kernel
theorem dX6_goesThrough_177 : decode cX6_goesThrough 177 = .ok (.iload 14, 2) := by decide +kernel
theorem dX6_goesThrough_179 : decode cX6_goesThrough 179 = .ok (.iaload, 1) := by decide +kernel
theorem dX6_goesThrough_180 : decode cX6_goesThrough 180 = .ok (.iastore, 1) := by decide +kernel
theorem dX6_goesThrough_181 : decode cX6_goesThrough 181 = .ok (.iinc 14 1, 3) := by decide +kernel
theorem dX6_goesThrough_184 : decode cX6_goesThrough 184 = .ok (.goto (-39), 3) := by decide +kernel
theorem dX6_goesThrough_187 : decode cX6_goesThrough 187 = .ok (.aload_n 0, 1) := by decide +kernel
theorem dX6_goesThrough_188 : decode cX6_goesThrough 188 = .ok (.aload_n 0, 1) := by decide +kernel
theorem dX6_goesThrough_189 : decode cX6_goesThrough 189 = .ok (.getfield 134, 3) := by decide +kernel
theorem dX6_goesThrough_192 : decode cX6_goesThrough 192 = .ok (.bipush (-9), 2) := by decide +kernel
theorem dX6_goesThrough_194 : decode cX6_goesThrough 194 = .ok (.if_icmp .eq 12, 3) := by decide +kernel
theorem dX6_goesThrough_197 : decode cX6_goesThrough 197 = .ok (.iload 10, 2) := by decide +kernel
theorem dX6_goesThrough_199 : decode cX6_goesThrough 199 = .ok (.aload_n 0, 1) := by decide +kernel
theorem dX6_goesThrough_200 : decode cX6_goesThrough 200 = .ok (.getfield 134, 3) := by decide +kernel
theorem dX6_goesThrough_203 : decode cX6_goesThrough 203 = .ok (.if_icmp .ge 8, 3) := by decide +kernel
theorem dX6_goesThrough_206 : decode cX6_goesThrough 206 = .ok (.iload 10, 2) := by decide +kernel
theorem dX6_goesThrough_208 : decode cX6_goesThrough 208 = .ok (.goto 7, 3) := by decide +kernel
theorem dX6_goesThrough_211 : decode cX6_goesThrough 211 = .ok (.aload_n 0, 1) := by decide +kernel
theorem dX6_goesThrough_212 : decode cX6_goesThrough 212 = .ok (.getfield 134, 3) := by decide +kernel
theorem dX6_goesThrough_215 : decode cX6_goesThrough 215 = .ok (.putfield 134, 3) := by decide +kernel
theorem dX6_goesThrough_218 : decode cX6_goesThrough 218 = .ok (.iinc 4 1, 3) := by decide +kernel
theorem dX6_goesThrough_221 : decode cX6_goesThrough 221 = .ok (.goto 92, 3) := by decide +kernel
theorem dX6_goesThrough_224 : decode cX6_goesThrough 224 = .ok (.iload 11, 2) := by decide +kernel
theorem dX6_goesThrough_226 : decode cX6_goesThrough 226 = .ok (.iconst 1, 1) := by decide +kernel
theorem dX6_goesThrough_227 : decode cX6_goesThrough 227 = .ok (.if_icmp .le 86, 3) := by decide +kernel
theorem dX6_goesThrough_230 : decode cX6_goesThrough 230 = .ok (.lload 12, 2) := by decide +kernel
theorem dX6_goesThrough_232 : decode cX6_goesThrough 232 = .ok (.lconst 0, 1) := by decide +kernel
theorem dX6_goesThrough_233 : decode cX6_goesThrough 233 = .ok (.lcmp, 1) := by decide +kernel
theorem dX6_goesThrough_234 : decode cX6_goesThrough 234 = .ok (.ifCond .le 79, 3) := by decide +kernel
theorem dX6_goesThrough_237 : decode cX6_goesThrough 237 = .ok (.iinc 5 1, 3) := by decide +kernel
theorem dX6_goesThrough_240 : decode cX6_goesThrough 240 = .ok (.aload_n 0, 1) := by decide +kernel
theorem dX6_goesThrough_241 : decode cX6_goesThrough 241 = .ok (.getfield 42, 3) := by decide +kernel
theorem dX6_goesThrough_244 : decode cX6_goesThrough 244 = .ok (.iload 5, 2) := by decide +kernel
theorem dX6_goesThrough_246 : decode cX6_goesThrough 246 = .ok (.lload 12, 2) := by decide +kernel
theorem dX6_goesThrough_248 : decode cX6_goesThrough 248 = .ok (.lastore, 1) := by decide +kernel
theorem dX6_goesThrough_249 : decode cX6_goesThrough 249 = .ok (.aload_n 0, 1) := by decide +kernel
theorem dX6_goesThrough_250 : decode cX6_goesThrough 250 = .ok (.getfield 46, 3) := by decide +kernel
theorem dX6_goesThrough_253 : decode cX6_goesThrough 253 = .ok (.iload 5, 2) := by decide +kernel
theorem dX6_goesThrough_255 : decode cX6_goesThrough 255 = .ok (.lload 8, 2) := by decide +kernel
theorem dX6_goesThrough_257 : decode cX6_goesThrough 257 = .ok (.iload 10, 2) := by decide +kernel
theorem dX6_goesThrough_259 : decode cX6_goesThrough 259 = .ok (.i2l, 1) := by decide +kernel
theorem dX6_goesThrough_260 : decode cX6_goesThrough 260 = .ok (.lmul, 1) := by decide +kernel
theorem dX6_goesThrough_261 : decode cX6_goesThrough 261 = .ok (.lastore, 1) := by decide +kernel
theorem dX6_goesThrough_262 : decode cX6_goesThrough 262 = .ok (.lload 8, 2) := by decide +kernel
theorem dX6_goesThrough_264 : decode cX6_goesThrough 264 = .ok (.iload 10, 2) := by decide +kernel
theorem dX6_goesThrough_266 : decode cX6_goesThrough 266 = .ok (.i2l, 1) := by decide +kernel
theorem dX6_goesThrough_267 : decode cX6_goesThrough 267 = .ok (.lmul, 1) := by decide +kernel
theorem dX6_goesThrough_268 : decode cX6_goesThrough 268 = .ok (.lload 12, 2) := by decide +kernel
theorem dX6_goesThrough_270 : decode cX6_goesThrough 270 = .ok (.ldiv, 1) := by decide +kernel
theorem dX6_goesThrough_271 : decode cX6_goesThrough 271 = .ok (.lconst 1, 1) := by decide +kernel
theorem dX6_goesThrough_272 : decode cX6_goesThrough 272 = .ok (.lsub, 1) := by decide +kernel
theorem dX6_goesThrough_273 : decode cX6_goesThrough 273 = .ok (.lstore 14, 2) := by decide +kernel
theorem dX6_goesThrough_275 : decode cX6_goesThrough 275 = .ok (.aload_n 0, 1) := by decide +kernel
theorem dX6_goesThrough_276 : decode cX6_goesThrough 276 = .ok (.getfield 49, 3) := by decide +kernel
theorem dX6_goesThrough_279 : decode cX6_goesThrough 279 = .ok (.iload 5, 2) := by decide +kernel
theorem dX6_goesThrough_281 : decode cX6_goesThrough 281 = .ok (.lload 14, 2) := by decide +kernel
theorem dX6_goesThrough_283 : decode cX6_goesThrough 283 = .ok (.iload 10, 2) := by decide +kernel
theorem dX6_goesThrough_285 : decode cX6_goesThrough 285 = .ok (.i2l, 1) := by decide +kernel
theorem dX6_goesThrough_286 : decode cX6_goesThrough 286 = .ok (.lcmp, 1) := by decide +kernel
theorem dX6_goesThrough_287 : decode cX6_goesThrough 287 = .ok (.ifCond .le 23, 3) := by decide +kernel
theorem dX6_goesThrough_290 : decode cX6_goesThrough 290 = .ok (.lload 14, 2) := by decide +kernel
theorem dX6_goesThrough_292 : decode cX6_goesThrough 292 = .ok (.ldc2_w 137, 3) := by decide +kernel
theorem dX6_goesThrough_295 : decode cX6_goesThrough 295 = .ok (.lcmp, 1) := by decide +kernel
theorem dX6_goesThrough_296 : decode cX6_goesThrough 296 = .ok (.ifCond .le 8, 3) := by decide +kernel
theorem dX6_goesThrough_299 : decode cX6_goesThrough 299 = .ok (.bipush 60, 2) := by decide +kernel
theorem dX6_goesThrough_301 : decode cX6_goesThrough 301 = .ok (.goto 11, 3) := by decide +kernel
theorem dX6_goesThrough_304 : decode cX6_goesThrough 304 = .ok (.lload 14, 2) := by decide +kernel
theorem dX6_goesThrough_306 : decode cX6_goesThrough 306 = .ok (.l2i, 1) := by decide +kernel
theorem dX6_goesThrough_307 : decode cX6_goesThrough 307 = .ok (.goto 5, 3) := by decide +kernel
theorem dX6_goesThrough_310 : decode cX6_goesThrough 310 = .ok (.iload 10, 2) := by decide +kernel
theorem dX6_goesThrough_312 : decode cX6_goesThrough 312 = .ok (.iastore, 1) := by decide +kernel
theorem dX6_goesThrough_313 : decode cX6_goesThrough 313 = .ok (.goto (-272), 3) := by decide +kernel
theorem dX6_goesThrough_316 : decode cX6_goesThrough 316 = .ok (.iload 4, 2) := by decide +kernel
theorem dX6_goesThrough_318 : decode cX6_goesThrough 318 = .ok (.ireturn, 1) := by decide +kernel
theorem dX6_few_0 : decode cX6_few 0 = .ok (.iconst 1, 1) := by decide +kernel
theorem dX6_few_1 : decode cX6_few 1 = .ok (.istore_n 2, 1) := by decide +kernel
theorem dX6_few_2 : decode cX6_few 2 = .ok (.iload_n 2, 1) := by decide +kernel
theorem dX6_few_3 : decode cX6_few 3 = .ok (.iconst 5, 1) := by decide +kernel
theorem dX6_few_4 : decode cX6_few 4 = .ok (.if_icmp .gt 22, 3) := by decide +kernel
theorem dX6_few_7 : decode cX6_few 7 = .ok (.aload_n 0, 1) := by decide +kernel
theorem dX6_few_8 : decode cX6_few 8 = .ok (.iload_n 2, 1) := by decide +kernel
theorem dX6_few_9 : decode cX6_few 9 = .ok (.iload_n 1, 1) := by decide +kernel
theorem dX6_few_10 : decode cX6_few 10 = .ok (.bipush (-9), 2) := by decide +kernel
theorem dX6_few_12 : decode cX6_few 12 = .ok (.invokevirtual 139, 3) := by decide +kernel
theorem dX6_few_15 : decode cX6_few 15 = .ok (.ifCond .le 5, 3) := by decide +kernel
theorem dX6_few_18 : decode cX6_few 18 = .ok (.iload_n 2, 1) := by decide +kernel
theorem dX6_few_19 : decode cX6_few 19 = .ok (.ireturn, 1) := by decide +kernel
theorem dX6_few_20 : decode cX6_few 20 = .ok (.iinc 2 1, 3) := by decide +kernel
theorem dX6_few_23 : decode cX6_few 23 = .ok (.goto (-21), 3) := by decide +kernel
theorem dX6_few_26 : decode cX6_few 26 = .ok (.bipush (-9), 2) := by decide +kernel
theorem dX6_few_28 : decode cX6_few 28 = .ok (.ireturn, 1) := by decide +kernel
theorem dX6_top_0 : decode cX6_top 0 = .ok (.aload_n 0, 1) := by decide +kernel
theorem dX6_top_1 : decode cX6_top 1 = .ok (.iload_n 1, 1) := by decide +kernel
theorem dX6_top_2 : decode cX6_top 2 = .ok (.bipush 60, 2) := by decide +kernel
theorem dX6_top_4 : decode cX6_top 4 = .ok (.bipush (-9), 2) := by decide +kernel
theorem dX6_top_6 : decode cX6_top 6 = .ok (.invokevirtual 139, 3) := by decide +kernel
theorem dX6_top_9 : decode cX6_top 9 = .ok (.pop, 1) := by decide +kernel
theorem dX6_top_10 : decode cX6_top 10 = .ok (.aload_n 0, 1) := by decide +kernel
theorem dX6_top_11 : decode cX6_top 11 = .ok (.getfield 134, 3) := by decide +kernel
theorem dX6_top_14 : decode cX6_top 14 = .ok (.ireturn, 1) := by decide +kernel
theorem dX6_firstOf_0 : decode cX6_firstOf 0 = .ok (.iload_n 1, 1) := by decide +kernel
theorem dX6_firstOf_1 : decode cX6_firstOf 1 = .ok (.bipush (-9), 2) := by decide +kernel
theorem dX6_firstOf_3 : decode cX6_firstOf 3 = .ok (.if_icmp .ne 6, 3) := by decide +kernel
theorem dX6_firstOf_6 : decode cX6_firstOf 6 = .ok (.bipush (-9), 2) := by decide +kernel
theorem dX6_firstOf_8 : decode cX6_firstOf 8 = .ok (.ireturn, 1) := by decide +kernel
theorem dX6_firstOf_9 : decode cX6_firstOf 9 = .ok (.aload_n 0, 1) := by decide +kernel
theorem dX6_firstOf_10 : decode cX6_firstOf 10 = .ok (.iload_n 1, 1) := by decide +kernel
theorem dX6_firstOf_11 : decode cX6_firstOf 11 = .ok (.iload_n 2, 1) := by decide +kernel
theorem dX6_firstOf_12 : decode cX6_firstOf 12 = .ok (.iconst 0, 1) := by decide +kernel
theorem dX6_firstOf_13 : decode cX6_firstOf 13 = .ok (.invokevirtual 139, 3) := by decide +kernel
theorem dX6_firstOf_16 : decode cX6_firstOf 16 = .ok (.pop, 1) := by decide +kernel
theorem dX6_firstOf_17 : decode cX6_firstOf 17 = .ok (.iconst 0, 1) := by decide +kernel
theorem dX6_firstOf_18 : decode cX6_firstOf 18 = .ok (.istore_n 3, 1) := by decide +kernel
theorem dX6_firstOf_19 : decode cX6_firstOf 19 = .ok (.iload_n 3, 1) := by decide +kernel
theorem dX6_firstOf_20 : decode cX6_firstOf 20 = .ok (.iload_n 1, 1) := by decide +kernel
theorem dX6_firstOf_21 : decode cX6_firstOf 21 = .ok (.if_icmp .ge 21, 3) := by decide +kernel
theorem dX6_firstOf_24 : decode cX6_firstOf 24 = .ok (.aload_n 0, 1) := by decide +kernel
theorem dX6_firstOf_25 : decode cX6_firstOf 25 = .ok (.getfield 39, 3) := by decide +kernel
theorem dX6_firstOf_28 : decode cX6_firstOf 28 = .ok (.iload_n 3, 1) := by decide +kernel
theorem dX6_firstOf_29 : decode cX6_firstOf 29 = .ok (.aload_n 0, 1) := by decide +kernel
theorem dX6_firstOf_30 : decode cX6_firstOf 30 = .ok (.getfield 52, 3) := by decide +kernel
theorem dX6_firstOf_33 : decode cX6_firstOf 33 = .ok (.iload_n 3, 1) := by decide +kernel
theorem dX6_firstOf_34 : decode cX6_firstOf 34 = .ok (.iaload, 1) := by decide +kernel
theorem dX6_firstOf_35 : decode cX6_firstOf 35 = .ok (.iastore, 1) := by decide +kernel
theorem dX6_firstOf_36 : decode cX6_firstOf 36 = .ok (.iinc 3 1, 3) := by decide +kernel
theorem dX6_firstOf_39 : decode cX6_firstOf 39 = .ok (.goto (-20), 3) := by decide +kernel
theorem dX6_firstOf_42 : decode cX6_firstOf 42 = .ok (.iload_n 1, 1) := by decide +kernel
theorem dX6_firstOf_43 : decode cX6_firstOf 43 = .ok (.ireturn, 1) := by decide +kernel
theorem dX6_byLeastTop_0 : decode cX6_byLeastTop 0 = .ok (.bipush (-9), 2) := by decide +kernel
theorem dX6_byLeastTop_2 : decode cX6_byLeastTop 2 = .ok (.istore_n 1, 1) := by decide +kernel
theorem dX6_byLeastTop_3 : decode cX6_byLeastTop 3 = .ok (.bipush 61, 2) := by decide +kernel
theorem dX6_byLeastTop_5 : decode cX6_byLeastTop 5 = .ok (.istore_n 2, 1) := by decide +kernel
theorem dX6_byLeastTop_6 : decode cX6_byLeastTop 6 = .ok (.iconst 1, 1) := by decide +kernel
theorem dX6_byLeastTop_7 : decode cX6_byLeastTop 7 = .ok (.istore_n 3, 1) := by decide +kernel
theorem dX6_byLeastTop_8 : decode cX6_byLeastTop 8 = .ok (.iload_n 3, 1) := by decide +kernel
theorem dX6_byLeastTop_9 : decode cX6_byLeastTop 9 = .ok (.iconst 5, 1) := by decide +kernel
theorem dX6_byLeastTop_10 : decode cX6_byLeastTop 10 = .ok (.if_icmp .gt 34, 3) := by decide +kernel
theorem dX6_byLeastTop_13 : decode cX6_byLeastTop 13 = .ok (.aload_n 0, 1) := by decide +kernel
theorem dX6_byLeastTop_14 : decode cX6_byLeastTop 14 = .ok (.iload_n 3, 1) := by decide +kernel
theorem dX6_byLeastTop_15 : decode cX6_byLeastTop 15 = .ok (.invokevirtual 143, 3) := by decide +kernel
theorem dX6_byLeastTop_18 : decode cX6_byLeastTop 18 = .ok (.istore 4, 2) := by decide +kernel
theorem dX6_byLeastTop_20 : decode cX6_byLeastTop 20 = .ok (.iload 4, 2) := by decide +kernel
theorem dX6_byLeastTop_22 : decode cX6_byLeastTop 22 = .ok (.bipush (-9), 2) := by decide +kernel
theorem dX6_byLeastTop_24 : decode cX6_byLeastTop 24 = .ok (.if_icmp .eq 14, 3) := by decide +kernel
theorem dX6_byLeastTop_27 : decode cX6_byLeastTop 27 = .ok (.iload 4, 2) := by decide +kernel
theorem dX6_byLeastTop_29 : decode cX6_byLeastTop 29 = .ok (.iload_n 2, 1) := by decide +kernel
theorem dX6_byLeastTop_30 : decode cX6_byLeastTop 30 = .ok (.if_icmp .ge 8, 3) := by decide +kernel
theorem dX6_byLeastTop_33 : decode cX6_byLeastTop 33 = .ok (.iload_n 3, 1) := by decide +kernel
theorem dX6_byLeastTop_34 : decode cX6_byLeastTop 34 = .ok (.istore_n 1, 1) := by decide +kernel
theorem dX6_byLeastTop_35 : decode cX6_byLeastTop 35 = .ok (.iload 4, 2) := by decide +kernel
theorem dX6_byLeastTop_37 : decode cX6_byLeastTop 37 = .ok (.istore_n 2, 1) := by decide +kernel
theorem dX6_byLeastTop_38 : decode cX6_byLeastTop 38 = .ok (.iinc 3 1, 3) := by decide +kernel
theorem dX6_byLeastTop_41 : decode cX6_byLeastTop 41 = .ok (.goto (-33), 3) := by decide +kernel
theorem dX6_byLeastTop_44 : decode cX6_byLeastTop 44 = .ok (.aload_n 0, 1) := by decide +kernel
theorem dX6_byLeastTop_45 : decode cX6_byLeastTop 45 = .ok (.iload_n 1, 1) := by decide +kernel
theorem dX6_byLeastTop_46 : decode cX6_byLeastTop 46 = .ok (.iload_n 2, 1) := by decide +kernel
theorem dX6_byLeastTop_47 : decode cX6_byLeastTop 47 = .ok (.invokevirtual 147, 3) := by decide +kernel
theorem dX6_byLeastTop_50 : decode cX6_byLeastTop 50 = .ok (.ireturn, 1) := by decide +kernel
theorem dX6_greedy_0 : decode cX6_greedy 0 = .ok (.iload_n 1, 1) := by decide +kernel
theorem dX6_greedy_1 : decode cX6_greedy 1 = .ok (.i2l, 1) := by decide +kernel
theorem dX6_greedy_2 : decode cX6_greedy 2 = .ok (.lconst 0, 1) := by decide +kernel
theorem dX6_greedy_3 : decode cX6_greedy 3 = .ok (.lconst 1, 1) := by decide +kernel
theorem dX6_greedy_4 : decode cX6_greedy 4 = .ok (.invokestatic 66, 3) := by decide +kernel
theorem dX6_greedy_7 : decode cX6_greedy 7 = .ok (.ifCond .eq 8, 3) := by decide +kernel
theorem dX6_greedy_10 : decode cX6_greedy 10 = .ok (.iload_n 2, 1) := by decide +kernel
theorem dX6_greedy_11 : decode cX6_greedy 11 = .ok (.iconst (-1), 1) := by decide +kernel
theorem dX6_greedy_12 : decode cX6_greedy 12 = .ok (.if_icmp .ge 5, 3) := by decide +kernel
theorem dX6_greedy_15 : decode cX6_greedy 15 = .ok (.iconst (-1), 1) := by decide +kernel
theorem dX6_greedy_16 : decode cX6_greedy 16 = .ok (.ireturn, 1) := by decide +kernel
theorem dX6_greedy_17 : decode cX6_greedy 17 = .ok (.aload_n 0, 1) := by decide +kernel
theorem dX6_greedy_18 : decode cX6_greedy 18 = .ok (.iload_n 1, 1) := by decide +kernel
theorem dX6_greedy_19 : decode cX6_greedy 19 = .ok (.iconst 1, 1) := by decide +kernel
theorem dX6_greedy_20 : decode cX6_greedy 20 = .ok (.iadd, 1) := by decide +kernel
theorem dX6_greedy_21 : decode cX6_greedy 21 = .ok (.invokevirtual 151, 3) := by decide +kernel
theorem dX6_greedy_24 : decode cX6_greedy 24 = .ok (.istore_n 3, 1) := by decide +kernel
theorem dX6_greedy_25 : decode cX6_greedy 25 = .ok (.iload_n 2, 1) := by decide +kernel
theorem dX6_greedy_26 : decode cX6_greedy 26 = .ok (.ifCond .ge 7, 3) := by decide +kernel
theorem dX6_greedy_29 : decode cX6_greedy 29 = .ok (.iload_n 3, 1) := by decide +kernel
theorem dX6_greedy_30 : decode cX6_greedy 30 = .ok (.goto 19, 3) := by decide +kernel
theorem dX6_greedy_33 : decode cX6_greedy 33 = .ok (.iload_n 2, 1) := by decide +kernel
theorem dX6_greedy_34 : decode cX6_greedy 34 = .ok (.iload_n 3, 1) := by decide +kernel
theorem dX6_greedy_35 : decode cX6_greedy 35 = .ok (.if_icmp .ge 12, 3) := by decide +kernel
theorem dX6_greedy_38 : decode cX6_greedy 38 = .ok (.aload_n 0, 1) := by decide +kernel
theorem dX6_greedy_39 : decode cX6_greedy 39 = .ok (.getfield 39, 3) := by decide +kernel
theorem dX6_greedy_42 : decode cX6_greedy 42 = .ok (.iload_n 2, 1) := by decide +kernel
theorem dX6_greedy_43 : decode cX6_greedy 43 = .ok (.iaload, 1) := by decide +kernel
theorem dX6_greedy_44 : decode cX6_greedy 44 = .ok (.goto 5, 3) := by decide +kernel
theorem dX6_greedy_47 : decode cX6_greedy 47 = .ok (.bipush (-9), 2) := by decide +kernel
theorem dX6_greedy_49 : decode cX6_greedy 49 = .ok (.ireturn, 1) := by decide +kernel
theorem dX6_sums_0 : decode cX6_sums 0 = .ok (.iload_n 1, 1) := by decide +kernel
theorem dX6_sums_1 : decode cX6_sums 1 = .ok (.i2l, 1) := by decide +kernel
theorem dX6_sums_2 : decode cX6_sums 2 = .ok (.lconst 1, 1) := by decide +kernel
theorem dX6_sums_3 : decode cX6_sums 3 = .ok (.ldc2_w 154, 3) := by decide +kernel
theorem dX6_sums_6 : decode cX6_sums 6 = .ok (.invokestatic 66, 3) := by decide +kernel
theorem dX6_sums_9 : decode cX6_sums 9 = .ok (.ifCond .eq 15, 3) := by decide +kernel
theorem dX6_sums_12 : decode cX6_sums 12 = .ok (.iload_n 2, 1) := by decide +kernel
theorem dX6_sums_13 : decode cX6_sums 13 = .ok (.i2l, 1) := by decide +kernel
theorem dX6_sums_14 : decode cX6_sums 14 = .ok (.lconst 1, 1) := by decide +kernel
theorem dX6_sums_15 : decode cX6_sums 15 = .ok (.ldc2_w 137, 3) := by decide +kernel
theorem dX6_sums_18 : decode cX6_sums 18 = .ok (.invokestatic 66, 3) := by decide +kernel
theorem dX6_sums_21 : decode cX6_sums 21 = .ok (.ifCond .ne 7, 3) := by decide +kernel
theorem dX6_sums_24 : decode cX6_sums 24 = .ok (.iconst (-1), 1) := by decide +kernel
theorem dX6_sums_25 : decode cX6_sums 25 = .ok (.goto 11, 3) := by decide +kernel
theorem dX6_sums_28 : decode cX6_sums 28 = .ok (.aload_n 0, 1) := by decide +kernel
theorem dX6_sums_29 : decode cX6_sums 29 = .ok (.iload_n 1, 1) := by decide +kernel
theorem dX6_sums_30 : decode cX6_sums 30 = .ok (.iload_n 2, 1) := by decide +kernel
theorem dX6_sums_31 : decode cX6_sums 31 = .ok (.bipush (-9), 2) := by decide +kernel
theorem dX6_sums_33 : decode cX6_sums 33 = .ok (.invokevirtual 139, 3) := by decide +kernel
theorem dX6_sums_36 : decode cX6_sums 36 = .ok (.ireturn, 1) := by decide +kernel
theorem dX6_sum_0 : decode cX6_sum 0 = .ok (.iload_n 1, 1) := by decide +kernel
theorem dX6_sum_1 : decode cX6_sum 1 = .ok (.i2l, 1) := by decide +kernel
theorem dX6_sum_2 : decode cX6_sum 2 = .ok (.lconst 1, 1) := by decide +kernel
theorem dX6_sum_3 : decode cX6_sum 3 = .ok (.ldc2_w 154, 3) := by decide +kernel
theorem dX6_sum_6 : decode cX6_sum 6 = .ok (.invokestatic 66, 3) := by decide +kernel
theorem dX6_sum_9 : decode cX6_sum 9 = .ok (.ifCond .eq 24, 3) := by decide +kernel
theorem dX6_sum_12 : decode cX6_sum 12 = .ok (.iload_n 2, 1) := by decide +kernel
theorem dX6_sum_13 : decode cX6_sum 13 = .ok (.i2l, 1) := by decide +kernel
theorem dX6_sum_14 : decode cX6_sum 14 = .ok (.lconst 1, 1) := by decide +kernel
theorem dX6_sum_15 : decode cX6_sum 15 = .ok (.ldc2_w 137, 3) := by decide +kernel
theorem dX6_sum_18 : decode cX6_sum 18 = .ok (.invokestatic 66, 3) := by decide +kernel
theorem dX6_sum_21 : decode cX6_sum 21 = .ok (.ifCond .eq 12, 3) := by decide +kernel
theorem dX6_sum_24 : decode cX6_sum 24 = .ok (.iload_n 3, 1) := by decide +kernel
theorem dX6_sum_25 : decode cX6_sum 25 = .ok (.ifCond .lt 8, 3) := by decide +kernel
theorem dX6_sum_28 : decode cX6_sum 28 = .ok (.iload 4, 2) := by decide +kernel
theorem dX6_sum_30 : decode cX6_sum 30 = .ok (.ifCond .ge 5, 3) := by decide +kernel
theorem dX6_sum_33 : decode cX6_sum 33 = .ok (.iconst (-1), 1) := by decide +kernel
theorem dX6_sum_34 : decode cX6_sum 34 = .ok (.ireturn, 1) := by decide +kernel
theorem dX6_sum_35 : decode cX6_sum 35 = .ok (.aload_n 0, 1) := by decide +kernel
theorem dX6_sum_36 : decode cX6_sum 36 = .ok (.iload_n 1, 1) := by decide +kernel
theorem dX6_sum_37 : decode cX6_sum 37 = .ok (.iload_n 2, 1) := by decide +kernel
theorem dX6_sum_38 : decode cX6_sum 38 = .ok (.iload_n 3, 1) := by decide +kernel
theorem dX6_sum_39 : decode cX6_sum 39 = .ok (.invokevirtual 139, 3) := by decide +kernel
theorem dX6_sum_42 : decode cX6_sum 42 = .ok (.iload_n 3, 1) := by decide +kernel
theorem dX6_sum_43 : decode cX6_sum 43 = .ok (.if_icmp .le 19, 3) := by decide +kernel
theorem dX6_sum_46 : decode cX6_sum 46 = .ok (.iload 4, 2) := by decide +kernel
theorem dX6_sum_48 : decode cX6_sum 48 = .ok (.iload_n 1, 1) := by decide +kernel
theorem dX6_sum_49 : decode cX6_sum 49 = .ok (.if_icmp .ge 13, 3) := by decide +kernel
theorem dX6_sum_52 : decode cX6_sum 52 = .ok (.aload_n 0, 1) := by decide +kernel
theorem dX6_sum_53 : decode cX6_sum 53 = .ok (.getfield 52, 3) := by decide +kernel
theorem dX6_sum_56 : decode cX6_sum 56 = .ok (.iload 4, 2) := by decide +kernel
theorem dX6_sum_58 : decode cX6_sum 58 = .ok (.iaload, 1) := by decide +kernel
theorem dX6_sum_59 : decode cX6_sum 59 = .ok (.goto 5, 3) := by decide +kernel
theorem dX6_sum_62 : decode cX6_sum 62 = .ok (.bipush (-9), 2) := by decide +kernel
theorem dX6_sum_64 : decode cX6_sum 64 = .ok (.ireturn, 1) := by decide +kernel
theorem dX6_fewest_0 : decode cX6_fewest 0 = .ok (.iload_n 1, 1) := by decide +kernel
theorem dX6_fewest_1 : decode cX6_fewest 1 = .ok (.i2l, 1) := by decide +kernel
theorem dX6_fewest_2 : decode cX6_fewest 2 = .ok (.lconst 1, 1) := by decide +kernel
theorem dX6_fewest_3 : decode cX6_fewest 3 = .ok (.ldc2_w 137, 3) := by decide +kernel
theorem dX6_fewest_6 : decode cX6_fewest 6 = .ok (.invokestatic 66, 3) := by decide +kernel
theorem dX6_fewest_9 : decode cX6_fewest 9 = .ok (.ifCond .eq 11, 3) := by decide +kernel
theorem dX6_fewest_12 : decode cX6_fewest 12 = .ok (.aload_n 0, 1) := by decide +kernel
theorem dX6_fewest_13 : decode cX6_fewest 13 = .ok (.iload_n 1, 1) := by decide +kernel
theorem dX6_fewest_14 : decode cX6_fewest 14 = .ok (.invokevirtual 156, 3) := by decide +kernel
theorem dX6_fewest_17 : decode cX6_fewest 17 = .ok (.goto 4, 3) := by decide +kernel
theorem dX6_fewest_20 : decode cX6_fewest 20 = .ok (.iconst (-1), 1) := by decide +kernel
theorem dX6_fewest_21 : decode cX6_fewest 21 = .ok (.ireturn, 1) := by decide +kernel
theorem dX6_bound_0 : decode cX6_bound 0 = .ok (.iload_n 1, 1) := by decide +kernel
theorem dX6_bound_1 : decode cX6_bound 1 = .ok (.i2l, 1) := by decide +kernel
theorem dX6_bound_2 : decode cX6_bound 2 = .ok (.lconst 1, 1) := by decide +kernel
theorem dX6_bound_3 : decode cX6_bound 3 = .ok (.ldc2_w 154, 3) := by decide +kernel
theorem dX6_bound_6 : decode cX6_bound 6 = .ok (.invokestatic 66, 3) := by decide +kernel
theorem dX6_bound_9 : decode cX6_bound 9 = .ok (.ifCond .eq 11, 3) := by decide +kernel
theorem dX6_bound_12 : decode cX6_bound 12 = .ok (.aload_n 0, 1) := by decide +kernel
theorem dX6_bound_13 : decode cX6_bound 13 = .ok (.iload_n 1, 1) := by decide +kernel
theorem dX6_bound_14 : decode cX6_bound 14 = .ok (.invokevirtual 143, 3) := by decide +kernel
theorem dX6_bound_17 : decode cX6_bound 17 = .ok (.goto 4, 3) := by decide +kernel
theorem dX6_bound_20 : decode cX6_bound 20 = .ok (.iconst (-1), 1) := by decide +kernel
theorem dX6_bound_21 : decode cX6_bound 21 = .ok (.ireturn, 1) := by decide +kernel
theorem dX6_isTerm_0 : decode cX6_isTerm 0 = .ok (.iconst 0, 1) := by decide +kernel
theorem dX6_isTerm_1 : decode cX6_isTerm 1 = .ok (.istore_n 2, 1) := by decide +kernel
theorem dX6_isTerm_2 : decode cX6_isTerm 2 = .ok (.iload_n 2, 1) := by decide +kernel
theorem dX6_isTerm_3 : decode cX6_isTerm 3 = .ok (.aload_n 0, 1) := by decide +kernel
theorem dX6_isTerm_4 : decode cX6_isTerm 4 = .ok (.getfield 7, 3) := by decide +kernel
theorem dX6_isTerm_7 : decode cX6_isTerm 7 = .ok (.iconst 0, 1) := by decide +kernel
theorem dX6_isTerm_8 : decode cX6_isTerm 8 = .ok (.iaload, 1) := by decide +kernel
theorem dX6_isTerm_9 : decode cX6_isTerm 9 = .ok (.if_icmp .ge 23, 3) := by decide +kernel
theorem dX6_isTerm_12 : decode cX6_isTerm 12 = .ok (.aload_n 0, 1) := by decide +kernel
theorem dX6_isTerm_13 : decode cX6_isTerm 13 = .ok (.getfield 7, 3) := by decide +kernel
theorem dX6_isTerm_16 : decode cX6_isTerm 16 = .ok (.iconst 1, 1) := by decide +kernel
theorem dX6_isTerm_17 : decode cX6_isTerm 17 = .ok (.iload_n 2, 1) := by decide +kernel
theorem dX6_isTerm_18 : decode cX6_isTerm 18 = .ok (.iadd, 1) := by decide +kernel
theorem dX6_isTerm_19 : decode cX6_isTerm 19 = .ok (.iaload, 1) := by decide +kernel
theorem dX6_isTerm_20 : decode cX6_isTerm 20 = .ok (.iload_n 1, 1) := by decide +kernel
theorem dX6_isTerm_21 : decode cX6_isTerm 21 = .ok (.if_icmp .ne 5, 3) := by decide +kernel
theorem dX6_isTerm_24 : decode cX6_isTerm 24 = .ok (.iconst 1, 1) := by decide +kernel
theorem dX6_isTerm_25 : decode cX6_isTerm 25 = .ok (.ireturn, 1) := by decide +kernel
theorem dX6_isTerm_26 : decode cX6_isTerm 26 = .ok (.iinc 2 1, 3) := by decide +kernel
theorem dX6_isTerm_29 : decode cX6_isTerm 29 = .ok (.goto (-27), 3) := by decide +kernel
theorem dX6_isTerm_32 : decode cX6_isTerm 32 = .ok (.iconst 0, 1) := by decide +kernel
theorem dX6_isTerm_33 : decode cX6_isTerm 33 = .ok (.ireturn, 1) := by decide +kernel
theorem dX6_comes_0 : decode cX6_comes 0 = .ok (.aload_n 0, 1) := by decide +kernel
theorem dX6_comes_1 : decode cX6_comes 1 = .ok (.getfield 7, 3) := by decide +kernel
theorem dX6_comes_4 : decode cX6_comes 4 = .ok (.iconst 0, 1) := by decide +kernel
theorem dX6_comes_5 : decode cX6_comes 5 = .ok (.iaload, 1) := by decide +kernel
theorem dX6_comes_6 : decode cX6_comes 6 = .ok (.istore_n 2, 1) := by decide +kernel
theorem dX6_comes_7 : decode cX6_comes 7 = .ok (.iload_n 2, 1) := by decide +kernel
theorem dX6_comes_8 : decode cX6_comes 8 = .ok (.ifCond .le 41, 3) := by decide +kernel
theorem dX6_comes_11 : decode cX6_comes 11 = .ok (.aload_n 0, 1) := by decide +kernel
theorem dX6_comes_12 : decode cX6_comes 12 = .ok (.getfield 7, 3) := by decide +kernel
theorem dX6_comes_15 : decode cX6_comes 15 = .ok (.iconst 1, 1) := by decide +kernel
theorem dX6_comes_16 : decode cX6_comes 16 = .ok (.iload_n 2, 1) := by decide +kernel
theorem dX6_comes_17 : decode cX6_comes 17 = .ok (.iadd, 1) := by decide +kernel
theorem dX6_comes_18 : decode cX6_comes 18 = .ok (.iconst 1, 1) := by decide +kernel
theorem dX6_comes_19 : decode cX6_comes 19 = .ok (.isub, 1) := by decide +kernel
theorem dX6_comes_20 : decode cX6_comes 20 = .ok (.iaload, 1) := by decide +kernel
theorem dX6_comes_21 : decode cX6_comes 21 = .ok (.iload_n 1, 1) := by decide +kernel
theorem dX6_comes_22 : decode cX6_comes 22 = .ok (.if_icmp .le 27, 3) := by decide +kernel
theorem dX6_comes_25 : decode cX6_comes 25 = .ok (.aload_n 0, 1) := by decide +kernel
theorem dX6_comes_26 : decode cX6_comes 26 = .ok (.getfield 7, 3) := by decide +kernel
theorem dX6_comes_29 : decode cX6_comes 29 = .ok (.iconst 1, 1) := by decide +kernel
theorem dX6_comes_30 : decode cX6_comes 30 = .ok (.iload_n 2, 1) := by decide +kernel
theorem dX6_comes_31 : decode cX6_comes 31 = .ok (.iadd, 1) := by decide +kernel
theorem dX6_comes_32 : decode cX6_comes 32 = .ok (.aload_n 0, 1) := by decide +kernel
theorem dX6_comes_33 : decode cX6_comes 33 = .ok (.getfield 7, 3) := by decide +kernel
theorem dX6_comes_36 : decode cX6_comes 36 = .ok (.iconst 1, 1) := by decide +kernel
theorem dX6_comes_37 : decode cX6_comes 37 = .ok (.iload_n 2, 1) := by decide +kernel
theorem dX6_comes_38 : decode cX6_comes 38 = .ok (.iadd, 1) := by decide +kernel
theorem dX6_comes_39 : decode cX6_comes 39 = .ok (.iconst 1, 1) := by decide +kernel
theorem dX6_comes_40 : decode cX6_comes 40 = .ok (.isub, 1) := by decide +kernel
theorem dX6_comes_41 : decode cX6_comes 41 = .ok (.iaload, 1) := by decide +kernel
theorem dX6_comes_42 : decode cX6_comes 42 = .ok (.iastore, 1) := by decide +kernel
theorem dX6_comes_43 : decode cX6_comes 43 = .ok (.iinc 2 (-1), 3) := by decide +kernel
theorem dX6_comes_46 : decode cX6_comes 46 = .ok (.goto (-39), 3) := by decide +kernel
theorem dX6_comes_49 : decode cX6_comes 49 = .ok (.aload_n 0, 1) := by decide +kernel
theorem dX6_comes_50 : decode cX6_comes 50 = .ok (.getfield 7, 3) := by decide +kernel
theorem dX6_comes_53 : decode cX6_comes 53 = .ok (.iconst 1, 1) := by decide +kernel
theorem dX6_comes_54 : decode cX6_comes 54 = .ok (.iload_n 2, 1) := by decide +kernel
theorem dX6_comes_55 : decode cX6_comes 55 = .ok (.iadd, 1) := by decide +kernel
theorem dX6_comes_56 : decode cX6_comes 56 = .ok (.iload_n 1, 1) := by decide +kernel
theorem dX6_comes_57 : decode cX6_comes 57 = .ok (.iastore, 1) := by decide +kernel
theorem dX6_comes_58 : decode cX6_comes 58 = .ok (.aload_n 0, 1) := by decide +kernel
theorem dX6_comes_59 : decode cX6_comes 59 = .ok (.getfield 7, 3) := by decide +kernel
theorem dX6_comes_62 : decode cX6_comes 62 = .ok (.iconst 0, 1) := by decide +kernel
theorem dX6_comes_63 : decode cX6_comes 63 = .ok (.dup2, 1) := by decide +kernel
theorem dX6_comes_64 : decode cX6_comes 64 = .ok (.iaload, 1) := by decide +kernel
theorem dX6_comes_65 : decode cX6_comes 65 = .ok (.iconst 1, 1) := by decide +kernel
theorem dX6_comes_66 : decode cX6_comes 66 = .ok (.iadd, 1) := by decide +kernel
theorem dX6_comes_67 : decode cX6_comes 67 = .ok (.iastore, 1) := by decide +kernel
theorem dX6_comes_68 : decode cX6_comes 68 = .ok (.return_, 1) := by decide +kernel
theorem dX6_goes_0 : decode cX6_goes 0 = .ok (.aload_n 0, 1) := by decide +kernel
theorem dX6_goes_1 : decode cX6_goes 1 = .ok (.getfield 7, 3) := by decide +kernel
theorem dX6_goes_4 : decode cX6_goes 4 = .ok (.iconst 0, 1) := by decide +kernel
theorem dX6_goes_5 : decode cX6_goes 5 = .ok (.dup2, 1) := by decide +kernel
theorem dX6_goes_6 : decode cX6_goes 6 = .ok (.iaload, 1) := by decide +kernel
theorem dX6_goes_7 : decode cX6_goes 7 = .ok (.iconst 1, 1) := by decide +kernel
theorem dX6_goes_8 : decode cX6_goes 8 = .ok (.isub, 1) := by decide +kernel
theorem dX6_goes_9 : decode cX6_goes 9 = .ok (.iastore, 1) := by decide +kernel
theorem dX6_goes_10 : decode cX6_goes 10 = .ok (.iload_n 1, 1) := by decide +kernel
theorem dX6_goes_11 : decode cX6_goes 11 = .ok (.istore_n 2, 1) := by decide +kernel
theorem dX6_goes_12 : decode cX6_goes 12 = .ok (.iload_n 2, 1) := by decide +kernel
theorem dX6_goes_13 : decode cX6_goes 13 = .ok (.aload_n 0, 1) := by decide +kernel
theorem dX6_goes_14 : decode cX6_goes 14 = .ok (.getfield 7, 3) := by decide +kernel
theorem dX6_goes_17 : decode cX6_goes 17 = .ok (.iconst 0, 1) := by decide +kernel
theorem dX6_goes_18 : decode cX6_goes 18 = .ok (.iaload, 1) := by decide +kernel
theorem dX6_goes_19 : decode cX6_goes 19 = .ok (.if_icmp .ge 27, 3) := by decide +kernel
theorem dX6_goes_22 : decode cX6_goes 22 = .ok (.aload_n 0, 1) := by decide +kernel
theorem dX6_goes_23 : decode cX6_goes 23 = .ok (.getfield 7, 3) := by decide +kernel
theorem dX6_goes_26 : decode cX6_goes 26 = .ok (.iconst 1, 1) := by decide +kernel
theorem dX6_goes_27 : decode cX6_goes 27 = .ok (.iload_n 2, 1) := by decide +kernel
theorem dX6_goes_28 : decode cX6_goes 28 = .ok (.iadd, 1) := by decide +kernel
theorem dX6_goes_29 : decode cX6_goes 29 = .ok (.aload_n 0, 1) := by decide +kernel
theorem dX6_goes_30 : decode cX6_goes 30 = .ok (.getfield 7, 3) := by decide +kernel
theorem dX6_goes_33 : decode cX6_goes 33 = .ok (.iconst 1, 1) := by decide +kernel
theorem dX6_goes_34 : decode cX6_goes 34 = .ok (.iload_n 2, 1) := by decide +kernel
theorem dX6_goes_35 : decode cX6_goes 35 = .ok (.iadd, 1) := by decide +kernel
theorem dX6_goes_36 : decode cX6_goes 36 = .ok (.iconst 1, 1) := by decide +kernel
theorem dX6_goes_37 : decode cX6_goes 37 = .ok (.iadd, 1) := by decide +kernel
theorem dX6_goes_38 : decode cX6_goes 38 = .ok (.iaload, 1) := by decide +kernel
theorem dX6_goes_39 : decode cX6_goes 39 = .ok (.iastore, 1) := by decide +kernel
theorem dX6_goes_40 : decode cX6_goes 40 = .ok (.iinc 2 1, 3) := by decide +kernel
theorem dX6_goes_43 : decode cX6_goes 43 = .ok (.goto (-31), 3) := by decide +kernel
theorem dX6_goes_46 : decode cX6_goes 46 = .ok (.return_, 1) := by decide +kernel
theorem dX6_makes_0 : decode cX6_makes 0 = .ok (.iload_n 1, 1) := by decide +kernel
theorem dX6_makes_1 : decode cX6_makes 1 = .ok (.i2l, 1) := by decide +kernel
theorem dX6_makes_2 : decode cX6_makes 2 = .ok (.lconst 0, 1) := by decide +kernel
theorem dX6_makes_3 : decode cX6_makes 3 = .ok (.ldc2_w 159, 3) := by decide +kernel
theorem dX6_makes_6 : decode cX6_makes 6 = .ok (.invokestatic 66, 3) := by decide +kernel
theorem dX6_makes_9 : decode cX6_makes 9 = .ok (.ifCond .ne 5, 3) := by decide +kernel
theorem dX6_makes_12 : decode cX6_makes 12 = .ok (.iconst (-1), 1) := by decide +kernel
theorem dX6_makes_13 : decode cX6_makes 13 = .ok (.ireturn, 1) := by decide +kernel
theorem dX6_makes_14 : decode cX6_makes 14 = .ok (.iload_n 1, 1) := by decide +kernel
theorem dX6_makes_15 : decode cX6_makes 15 = .ok (.iconst 2, 1) := by decide +kernel
theorem dX6_makes_16 : decode cX6_makes 16 = .ok (.if_icmp .ge 13, 3) := by decide +kernel
theorem dX6_makes_19 : decode cX6_makes 19 = .ok (.aload_n 0, 1) := by decide +kernel
theorem dX6_makes_20 : decode cX6_makes 20 = .ok (.iload_n 1, 1) := by decide +kernel
theorem dX6_makes_21 : decode cX6_makes 21 = .ok (.iconst 1, 1) := by decide +kernel
theorem dX6_makes_22 : decode cX6_makes 22 = .ok (.iadd, 1) := by decide +kernel
theorem dX6_makes_23 : decode cX6_makes 23 = .ok (.invokevirtual 151, 3) := by decide +kernel
theorem dX6_makes_26 : decode cX6_makes 26 = .ok (.goto 27, 3) := by decide +kernel
theorem dX6_makes_29 : decode cX6_makes 29 = .ok (.iload_n 1, 1) := by decide +kernel
theorem dX6_makes_30 : decode cX6_makes 30 = .ok (.iconst 2, 1) := by decide +kernel
theorem dX6_makes_31 : decode cX6_makes 31 = .ok (.if_icmp .ne 18, 3) := by decide +kernel
theorem dX6_makes_34 : decode cX6_makes 34 = .ok (.aload_n 0, 1) := by decide +kernel
theorem dX6_makes_35 : decode cX6_makes 35 = .ok (.aload_n 0, 1) := by decide +kernel
theorem dX6_makes_36 : decode cX6_makes 36 = .ok (.bipush 60, 2) := by decide +kernel
theorem dX6_makes_38 : decode cX6_makes 38 = .ok (.invokevirtual 156, 3) := by decide +kernel
theorem dX6_makes_41 : decode cX6_makes 41 = .ok (.bipush 60, 2) := by decide +kernel
theorem dX6_makes_43 : decode cX6_makes 43 = .ok (.invokevirtual 147, 3) := by decide +kernel
theorem dX6_makes_46 : decode cX6_makes 46 = .ok (.goto 7, 3) := by decide +kernel
theorem dX6_makes_49 : decode cX6_makes 49 = .ok (.aload_n 0, 1) := by decide +kernel
theorem dX6_makes_50 : decode cX6_makes 50 = .ok (.invokevirtual 161, 3) := by decide +kernel
theorem dX6_makes_53 : decode cX6_makes 53 = .ok (.istore_n 2, 1) := by decide +kernel
theorem dX6_makes_54 : decode cX6_makes 54 = .ok (.iload_n 2, 1) := by decide +kernel
theorem dX6_makes_55 : decode cX6_makes 55 = .ok (.bipush (-9), 2) := by decide +kernel
theorem dX6_makes_57 : decode cX6_makes 57 = .ok (.if_icmp .ne 6, 3) := by decide +kernel
theorem dX6_makes_60 : decode cX6_makes 60 = .ok (.bipush (-2), 2) := by decide +kernel
theorem dX6_makes_62 : decode cX6_makes 62 = .ok (.ireturn, 1) := by decide +kernel
theorem dX6_makes_63 : decode cX6_makes 63 = .ok (.aload_n 0, 1) := by decide +kernel
theorem dX6_makes_64 : decode cX6_makes 64 = .ok (.invokevirtual 165, 3) := by decide +kernel
theorem dX6_makes_67 : decode cX6_makes 67 = .ok (.aload_n 0, 1) := by decide +kernel
theorem dX6_makes_68 : decode cX6_makes 68 = .ok (.getfield 7, 3) := by decide +kernel
theorem dX6_makes_71 : decode cX6_makes 71 = .ok (.iconst 0, 1) := by decide +kernel
theorem dX6_makes_72 : decode cX6_makes 72 = .ok (.iload_n 2, 1) := by decide +kernel
theorem dX6_makes_73 : decode cX6_makes 73 = .ok (.iastore, 1) := by decide +kernel
theorem dX6_makes_74 : decode cX6_makes 74 = .ok (.iconst 0, 1) := by decide +kernel
theorem dX6_makes_75 : decode cX6_makes 75 = .ok (.istore_n 3, 1) := by decide +kernel
theorem dX6_makes_76 : decode cX6_makes 76 = .ok (.iload_n 3, 1) := by decide +kernel
theorem dX6_makes_77 : decode cX6_makes 77 = .ok (.iload_n 2, 1) := by decide +kernel
theorem dX6_makes_78 : decode cX6_makes 78 = .ok (.if_icmp .ge 23, 3) := by decide +kernel
theorem dX6_makes_81 : decode cX6_makes 81 = .ok (.aload_n 0, 1) := by decide +kernel
theorem dX6_makes_82 : decode cX6_makes 82 = .ok (.getfield 7, 3) := by decide +kernel
theorem dX6_makes_85 : decode cX6_makes 85 = .ok (.iconst 1, 1) := by decide +kernel
theorem dX6_makes_86 : decode cX6_makes 86 = .ok (.iload_n 3, 1) := by decide +kernel
theorem dX6_makes_87 : decode cX6_makes 87 = .ok (.iadd, 1) := by decide +kernel
theorem dX6_makes_88 : decode cX6_makes 88 = .ok (.aload_n 0, 1) := by decide +kernel
theorem dX6_makes_89 : decode cX6_makes 89 = .ok (.getfield 39, 3) := by decide +kernel
theorem dX6_makes_92 : decode cX6_makes 92 = .ok (.iload_n 3, 1) := by decide +kernel
theorem dX6_makes_93 : decode cX6_makes 93 = .ok (.iaload, 1) := by decide +kernel
theorem dX6_makes_94 : decode cX6_makes 94 = .ok (.iastore, 1) := by decide +kernel
theorem dX6_makes_95 : decode cX6_makes 95 = .ok (.iinc 3 1, 3) := by decide +kernel
theorem dX6_makes_98 : decode cX6_makes 98 = .ok (.goto (-22), 3) := by decide +kernel
theorem dX6_makes_101 : decode cX6_makes 101 = .ok (.iload_n 2, 1) := by decide +kernel
theorem dX6_makes_102 : decode cX6_makes 102 = .ok (.ireturn, 1) := by decide +kernel
theorem dX6_part_0 : decode cX6_part 0 = .ok (.iload_n 2, 1) := by decide +kernel
theorem dX6_part_1 : decode cX6_part 1 = .ok (.tableswitch 114 0 2 #[27, 52, 83], 27) := by decide +kernel
theorem dX6_part_28 : decode cX6_part 28 = .ok (.iload_n 3, 1) := by decide +kernel
theorem dX6_part_29 : decode cX6_part 29 = .ok (.ifCond .ne 9, 3) := by decide +kernel
theorem dX6_part_32 : decode cX6_part 32 = .ok (.lload_n 0, 1) := by decide +kernel
theorem dX6_part_33 : decode cX6_part 33 = .ok (.lconst 1, 1) := by decide +kernel
theorem dX6_part_34 : decode cX6_part 34 = .ok (.ladd, 1) := by decide +kernel
theorem dX6_part_35 : decode cX6_part 35 = .ok (.goto 17, 3) := by decide +kernel
theorem dX6_part_38 : decode cX6_part 38 = .ok (.iload_n 3, 1) := by decide +kernel
theorem dX6_part_39 : decode cX6_part 39 = .ok (.iconst 1, 1) := by decide +kernel
theorem dX6_part_40 : decode cX6_part 40 = .ok (.if_icmp .ne 11, 3) := by decide +kernel
theorem dX6_part_43 : decode cX6_part 43 = .ok (.lload_n 0, 1) := by decide +kernel
theorem dX6_part_44 : decode cX6_part 44 = .ok (.lload_n 0, 1) := by decide +kernel
theorem dX6_part_45 : decode cX6_part 45 = .ok (.lconst 1, 1) := by decide +kernel
theorem dX6_part_46 : decode cX6_part 46 = .ok (.ladd, 1) := by decide +kernel
theorem dX6_part_47 : decode cX6_part 47 = .ok (.lmul, 1) := by decide +kernel
theorem dX6_part_48 : decode cX6_part 48 = .ok (.goto 4, 3) := by decide +kernel
theorem dX6_part_51 : decode cX6_part 51 = .ok (.lconst 0, 1) := by decide +kernel
theorem dX6_part_52 : decode cX6_part 52 = .ok (.lreturn, 1) := by decide +kernel
theorem dX6_part_53 : decode cX6_part 53 = .ok (.iload_n 3, 1) := by decide +kernel
theorem dX6_part_54 : decode cX6_part 54 = .ok (.ifCond .ne 15, 3) := by decide +kernel
theorem dX6_part_57 : decode cX6_part 57 = .ok (.ldc2_w 159, 3) := by decide +kernel
theorem dX6_part_60 : decode cX6_part 60 = .ok (.lload_n 0, 1) := by decide +kernel
theorem dX6_part_61 : decode cX6_part 61 = .ok (.lmul, 1) := by decide +kernel
theorem dX6_part_62 : decode cX6_part 62 = .ok (.ldc2_w 126, 3) := by decide +kernel
theorem dX6_part_65 : decode cX6_part 65 = .ok (.ldiv, 1) := by decide +kernel
theorem dX6_part_66 : decode cX6_part 66 = .ok (.goto 17, 3) := by decide +kernel
theorem dX6_part_69 : decode cX6_part 69 = .ok (.iload_n 3, 1) := by decide +kernel
theorem dX6_part_70 : decode cX6_part 70 = .ok (.iconst 1, 1) := by decide +kernel
theorem dX6_part_71 : decode cX6_part 71 = .ok (.if_icmp .ne 11, 3) := by decide +kernel
theorem dX6_part_74 : decode cX6_part 74 = .ok (.ldc2_w 159, 3) := by decide +kernel
theorem dX6_part_77 : decode cX6_part 77 = .ok (.lload_n 0, 1) := by decide +kernel
theorem dX6_part_78 : decode cX6_part 78 = .ok (.lmul, 1) := by decide +kernel
theorem dX6_part_79 : decode cX6_part 79 = .ok (.goto 4, 3) := by decide +kernel
theorem dX6_part_82 : decode cX6_part 82 = .ok (.lconst 0, 1) := by decide +kernel
theorem dX6_part_83 : decode cX6_part 83 = .ok (.lreturn, 1) := by decide +kernel
theorem dX6_part_84 : decode cX6_part 84 = .ok (.iload_n 3, 1) := by decide +kernel
theorem dX6_part_85 : decode cX6_part 85 = .ok (.ifCond .ne 15, 3) := by decide +kernel
theorem dX6_part_88 : decode cX6_part 88 = .ok (.ldc2_w 168, 3) := by decide +kernel
theorem dX6_part_91 : decode cX6_part 91 = .ok (.lload_n 0, 1) := by decide +kernel
theorem dX6_part_92 : decode cX6_part 92 = .ok (.lmul, 1) := by decide +kernel
theorem dX6_part_93 : decode cX6_part 93 = .ok (.ldc2_w 159, 3) := by decide +kernel
theorem dX6_part_96 : decode cX6_part 96 = .ok (.ldiv, 1) := by decide +kernel
theorem dX6_part_97 : decode cX6_part 97 = .ok (.goto 17, 3) := by decide +kernel
theorem dX6_part_100 : decode cX6_part 100 = .ok (.iload_n 3, 1) := by decide +kernel
theorem dX6_part_101 : decode cX6_part 101 = .ok (.iconst 1, 1) := by decide +kernel
theorem dX6_part_102 : decode cX6_part 102 = .ok (.if_icmp .ne 11, 3) := by decide +kernel
theorem dX6_part_105 : decode cX6_part 105 = .ok (.ldc2_w 168, 3) := by decide +kernel
theorem dX6_part_108 : decode cX6_part 108 = .ok (.lload_n 0, 1) := by decide +kernel
theorem dX6_part_109 : decode cX6_part 109 = .ok (.lmul, 1) := by decide +kernel
theorem dX6_part_110 : decode cX6_part 110 = .ok (.goto 4, 3) := by decide +kernel
theorem dX6_part_113 : decode cX6_part 113 = .ok (.lconst 0, 1) := by decide +kernel
theorem dX6_part_114 : decode cX6_part 114 = .ok (.lreturn, 1) := by decide +kernel
theorem dX6_part_115 : decode cX6_part 115 = .ok (.iload_n 3, 1) := by decide +kernel
theorem dX6_part_116 : decode cX6_part 116 = .ok (.ifCond .ne 11, 3) := by decide +kernel
theorem dX6_part_119 : decode cX6_part 119 = .ok (.ldc2_w 126, 3) := by decide +kernel
theorem dX6_part_122 : decode cX6_part 122 = .ok (.lload_n 0, 1) := by decide +kernel
theorem dX6_part_123 : decode cX6_part 123 = .ok (.lmul, 1) := by decide +kernel
theorem dX6_part_124 : decode cX6_part 124 = .ok (.goto 21, 3) := by decide +kernel
theorem dX6_part_127 : decode cX6_part 127 = .ok (.iload_n 3, 1) := by decide +kernel
theorem dX6_part_128 : decode cX6_part 128 = .ok (.iconst 1, 1) := by decide +kernel
theorem dX6_part_129 : decode cX6_part 129 = .ok (.if_icmp .ne 11, 3) := by decide +kernel
theorem dX6_part_132 : decode cX6_part 132 = .ok (.ldc2_w 159, 3) := by decide +kernel
theorem dX6_part_135 : decode cX6_part 135 = .ok (.lload_n 0, 1) := by decide +kernel
theorem dX6_part_136 : decode cX6_part 136 = .ok (.lmul, 1) := by decide +kernel
theorem dX6_part_137 : decode cX6_part 137 = .ok (.goto 8, 3) := by decide +kernel
theorem dX6_part_140 : decode cX6_part 140 = .ok (.ldc2_w 170, 3) := by decide +kernel
theorem dX6_part_143 : decode cX6_part 143 = .ok (.lload_n 0, 1) := by decide +kernel
theorem dX6_part_144 : decode cX6_part 144 = .ok (.lmul, 1) := by decide +kernel
theorem dX6_part_145 : decode cX6_part 145 = .ok (.lreturn, 1) := by decide +kernel
theorem dX6_maySplit_0 : decode cX6_maySplit 0 = .ok (.aload_n 0, 1) := by decide +kernel
theorem dX6_maySplit_1 : decode cX6_maySplit 1 = .ok (.getfield 7, 3) := by decide +kernel
theorem dX6_maySplit_4 : decode cX6_maySplit 4 = .ok (.iconst 0, 1) := by decide +kernel
theorem dX6_maySplit_5 : decode cX6_maySplit 5 = .ok (.iaload, 1) := by decide +kernel
theorem dX6_maySplit_6 : decode cX6_maySplit 6 = .ok (.iload_n 2, 1) := by decide +kernel
theorem dX6_maySplit_7 : decode cX6_maySplit 7 = .ok (.iconst 3, 1) := by decide +kernel
theorem dX6_maySplit_8 : decode cX6_maySplit 8 = .ok (.if_icmp .ne 7, 3) := by decide +kernel
theorem dX6_maySplit_11 : decode cX6_maySplit 11 = .ok (.iconst 2, 1) := by decide +kernel
theorem dX6_maySplit_12 : decode cX6_maySplit 12 = .ok (.goto 4, 3) := by decide +kernel
theorem dX6_maySplit_15 : decode cX6_maySplit 15 = .ok (.iconst 1, 1) := by decide +kernel
theorem dX6_maySplit_16 : decode cX6_maySplit 16 = .ok (.iadd, 1) := by decide +kernel
theorem dX6_maySplit_17 : decode cX6_maySplit 17 = .ok (.bipush 8, 2) := by decide +kernel
theorem dX6_maySplit_19 : decode cX6_maySplit 19 = .ok (.if_icmp .gt 38, 3) := by decide +kernel
theorem dX6_maySplit_22 : decode cX6_maySplit 22 = .ok (.iload_n 2, 1) := by decide +kernel
theorem dX6_maySplit_23 : decode cX6_maySplit 23 = .ok (.ifCond .ne 8, 3) := by decide +kernel
theorem dX6_maySplit_26 : decode cX6_maySplit 26 = .ok (.iload_n 1, 1) := by decide +kernel
theorem dX6_maySplit_27 : decode cX6_maySplit 27 = .ok (.iconst 1, 1) := by decide +kernel
theorem dX6_maySplit_28 : decode cX6_maySplit 28 = .ok (.if_icmp .le 29, 3) := by decide +kernel
theorem dX6_maySplit_31 : decode cX6_maySplit 31 = .ok (.iload_n 2, 1) := by decide +kernel
theorem dX6_maySplit_32 : decode cX6_maySplit 32 = .ok (.iconst 1, 1) := by decide +kernel
theorem dX6_maySplit_33 : decode cX6_maySplit 33 = .ok (.if_icmp .ne 9, 3) := by decide +kernel
theorem dX6_maySplit_36 : decode cX6_maySplit 36 = .ok (.iload_n 1, 1) := by decide +kernel
theorem dX6_maySplit_37 : decode cX6_maySplit 37 = .ok (.iconst 2, 1) := by decide +kernel
theorem dX6_maySplit_38 : decode cX6_maySplit 38 = .ok (.irem, 1) := by decide +kernel
theorem dX6_maySplit_39 : decode cX6_maySplit 39 = .ok (.ifCond .ne 18, 3) := by decide +kernel
theorem dX6_maySplit_42 : decode cX6_maySplit 42 = .ok (.iload_n 2, 1) := by decide +kernel
theorem dX6_maySplit_43 : decode cX6_maySplit 43 = .ok (.iconst 2, 1) := by decide +kernel
theorem dX6_maySplit_44 : decode cX6_maySplit 44 = .ok (.if_icmp .ne 9, 3) := by decide +kernel
theorem dX6_maySplit_47 : decode cX6_maySplit 47 = .ok (.iload_n 1, 1) := by decide +kernel
theorem dX6_maySplit_48 : decode cX6_maySplit 48 = .ok (.iconst 3, 1) := by decide +kernel
theorem dX6_maySplit_49 : decode cX6_maySplit 49 = .ok (.irem, 1) := by decide +kernel
theorem dX6_maySplit_50 : decode cX6_maySplit 50 = .ok (.ifCond .ne 7, 3) := by decide +kernel
theorem dX6_maySplit_53 : decode cX6_maySplit 53 = .ok (.iconst 1, 1) := by decide +kernel
theorem dX6_maySplit_54 : decode cX6_maySplit 54 = .ok (.goto 4, 3) := by decide +kernel
theorem dX6_maySplit_57 : decode cX6_maySplit 57 = .ok (.iconst 0, 1) := by decide +kernel
theorem dX6_maySplit_58 : decode cX6_maySplit 58 = .ok (.istore_n 3, 1) := by decide +kernel
theorem dX6_maySplit_59 : decode cX6_maySplit 59 = .ok (.iconst 0, 1) := by decide +kernel
theorem dX6_maySplit_60 : decode cX6_maySplit 60 = .ok (.istore 4, 2) := by decide +kernel
theorem dX6_maySplit_62 : decode cX6_maySplit 62 = .ok (.iload 4, 2) := by decide +kernel
theorem dX6_maySplit_64 : decode cX6_maySplit 64 = .ok (.iconst 3, 1) := by decide +kernel
theorem dX6_maySplit_65 : decode cX6_maySplit 65 = .ok (.if_icmp .ge 48, 3) := by decide +kernel
theorem dX6_maySplit_68 : decode cX6_maySplit 68 = .ok (.iload_n 3, 1) := by decide +kernel
theorem dX6_maySplit_69 : decode cX6_maySplit 69 = .ok (.ifCond .eq 44, 3) := by decide +kernel
theorem dX6_maySplit_72 : decode cX6_maySplit 72 = .ok (.iload_n 1, 1) := by decide +kernel
theorem dX6_maySplit_73 : decode cX6_maySplit 73 = .ok (.i2l, 1) := by decide +kernel
theorem dX6_maySplit_74 : decode cX6_maySplit 74 = .ok (.iload_n 2, 1) := by decide +kernel
theorem dX6_maySplit_75 : decode cX6_maySplit 75 = .ok (.iload 4, 2) := by decide +kernel
theorem dX6_maySplit_77 : decode cX6_maySplit 77 = .ok (.invokestatic 172, 3) := by decide +kernel
theorem dX6_maySplit_80 : decode cX6_maySplit 80 = .ok (.lstore 5, 2) := by decide +kernel
theorem dX6_maySplit_82 : decode cX6_maySplit 82 = .ok (.lload 5, 2) := by decide +kernel
theorem dX6_maySplit_84 : decode cX6_maySplit 84 = .ok (.ldc2_w 128, 3) := by decide +kernel
theorem dX6_maySplit_87 : decode cX6_maySplit 87 = .ok (.lcmp, 1) := by decide +kernel
theorem dX6_maySplit_88 : decode cX6_maySplit 88 = .ok (.ifCond .gt 17, 3) := by decide +kernel
theorem dX6_maySplit_91 : decode cX6_maySplit 91 = .ok (.aload_n 0, 1) := by decide +kernel
theorem dX6_maySplit_92 : decode cX6_maySplit 92 = .ok (.lload 5, 2) := by decide +kernel
theorem dX6_maySplit_94 : decode cX6_maySplit 94 = .ok (.l2i, 1) := by decide +kernel
theorem dX6_maySplit_95 : decode cX6_maySplit 95 = .ok (.invokevirtual 176, 3) := by decide +kernel
theorem dX6_maySplit_98 : decode cX6_maySplit 98 = .ok (.ifCond .ne 7, 3) := by decide +kernel
theorem dX6_maySplit_101 : decode cX6_maySplit 101 = .ok (.iconst 1, 1) := by decide +kernel
theorem dX6_maySplit_102 : decode cX6_maySplit 102 = .ok (.goto 4, 3) := by decide +kernel
theorem dX6_maySplit_105 : decode cX6_maySplit 105 = .ok (.iconst 0, 1) := by decide +kernel
theorem dX6_maySplit_106 : decode cX6_maySplit 106 = .ok (.istore_n 3, 1) := by decide +kernel
theorem dX6_maySplit_107 : decode cX6_maySplit 107 = .ok (.iinc 4 1, 3) := by decide +kernel
theorem dX6_maySplit_110 : decode cX6_maySplit 110 = .ok (.goto (-48), 3) := by decide +kernel
theorem dX6_maySplit_113 : decode cX6_maySplit 113 = .ok (.iload_n 3, 1) := by decide +kernel
theorem dX6_maySplit_114 : decode cX6_maySplit 114 = .ok (.ireturn, 1) := by decide +kernel
theorem dX6_splits_0 : decode cX6_splits 0 = .ok (.iload_n 1, 1) := by decide +kernel
theorem dX6_splits_1 : decode cX6_splits 1 = .ok (.i2l, 1) := by decide +kernel
theorem dX6_splits_2 : decode cX6_splits 2 = .ok (.lconst 0, 1) := by decide +kernel
theorem dX6_splits_3 : decode cX6_splits 3 = .ok (.aload_n 0, 1) := by decide +kernel
theorem dX6_splits_4 : decode cX6_splits 4 = .ok (.getfield 7, 3) := by decide +kernel
theorem dX6_splits_7 : decode cX6_splits 7 = .ok (.iconst 0, 1) := by decide +kernel
theorem dX6_splits_8 : decode cX6_splits 8 = .ok (.iaload, 1) := by decide +kernel
theorem dX6_splits_9 : decode cX6_splits 9 = .ok (.iconst 1, 1) := by decide +kernel
theorem dX6_splits_10 : decode cX6_splits 10 = .ok (.isub, 1) := by decide +kernel
theorem dX6_splits_11 : decode cX6_splits 11 = .ok (.i2l, 1) := by decide +kernel
theorem dX6_splits_12 : decode cX6_splits 12 = .ok (.invokestatic 66, 3) := by decide +kernel
theorem dX6_splits_15 : decode cX6_splits 15 = .ok (.ifCond .eq 15, 3) := by decide +kernel
theorem dX6_splits_18 : decode cX6_splits 18 = .ok (.iload_n 2, 1) := by decide +kernel
theorem dX6_splits_19 : decode cX6_splits 19 = .ok (.i2l, 1) := by decide +kernel
theorem dX6_splits_20 : decode cX6_splits 20 = .ok (.lconst 0, 1) := by decide +kernel
theorem dX6_splits_21 : decode cX6_splits 21 = .ok (.ldc2_w 159, 3) := by decide +kernel
theorem dX6_splits_24 : decode cX6_splits 24 = .ok (.invokestatic 66, 3) := by decide +kernel
theorem dX6_splits_27 : decode cX6_splits 27 = .ok (.ifCond .ne 5, 3) := by decide +kernel
theorem dX6_splits_30 : decode cX6_splits 30 = .ok (.iconst (-1), 1) := by decide +kernel
theorem dX6_splits_31 : decode cX6_splits 31 = .ok (.ireturn, 1) := by decide +kernel
theorem dX6_splits_32 : decode cX6_splits 32 = .ok (.aload_n 0, 1) := by decide +kernel
theorem dX6_splits_33 : decode cX6_splits 33 = .ok (.getfield 7, 3) := by decide +kernel
theorem dX6_splits_36 : decode cX6_splits 36 = .ok (.iconst 1, 1) := by decide +kernel
theorem dX6_splits_37 : decode cX6_splits 37 = .ok (.iload_n 1, 1) := by decide +kernel
theorem dX6_splits_38 : decode cX6_splits 38 = .ok (.iadd, 1) := by decide +kernel
theorem dX6_splits_39 : decode cX6_splits 39 = .ok (.iaload, 1) := by decide +kernel
theorem dX6_splits_40 : decode cX6_splits 40 = .ok (.istore_n 3, 1) := by decide +kernel
