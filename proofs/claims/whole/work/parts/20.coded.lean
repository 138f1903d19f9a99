/-! the code, row by row (gen19.py) -/
theorem c_176_0 : aCod 176 0 = some (.sipush 0, 1) := by decide +kernel
theorem c_176_1 : aCod 176 1 = some (.istore 2, 2) := by decide +kernel
theorem c_176_2 : aCod 176 2 = some (.iload 2, 3) := by decide +kernel
theorem c_176_3 : aCod 176 3 = some (.iload 1, 4) := by decide +kernel
theorem c_176_4 : aCod 176 4 = some (.if_icmp .ge 20, 7) := by decide +kernel
theorem c_176_7 : aCod 176 7 = some (.aload 0, 8) := by decide +kernel
theorem c_176_8 : aCod 176 8 = some (.sipush 0, 9) := by decide +kernel
theorem c_176_9 : aCod 176 9 = some (.sipush 0, 10) := by decide +kernel
theorem c_176_10 : aCod 176 10 = some (.sipush 0, 11) := by decide +kernel
theorem c_176_11 : aCod 176 11 = some (.invokevirtual 175, 14) := by decide +kernel
theorem c_176_14 : aCod 176 14 = some (.iinc 2 1, 17) := by decide +kernel
theorem c_176_17 : aCod 176 17 = some (.goto 2, 20) := by decide +kernel
theorem c_176_20 : aCod 176 20 = some (.return_, 21) := by decide +kernel
theorem c_177_0 : aCod 177 0 = some (.aload 0, 1) := by decide +kernel
theorem c_177_1 : aCod 177 1 = some (.sipush 1, 2) := by decide +kernel
theorem c_177_2 : aCod 177 2 = some (.putfield 2365, 5) := by decide +kernel
theorem c_177_5 : aCod 177 5 = some (.sipush 0, 6) := by decide +kernel
theorem c_177_6 : aCod 177 6 = some (.istore 1, 7) := by decide +kernel
theorem c_177_7 : aCod 177 7 = some (.iload 1, 8) := by decide +kernel
theorem c_177_8 : aCod 177 8 = some (.sipush 27, 10) := by decide +kernel
theorem c_177_10 : aCod 177 10 = some (.if_icmp .ge 31, 13) := by decide +kernel
theorem c_177_13 : aCod 177 13 = some (.aload 0, 14) := by decide +kernel
theorem c_177_14 : aCod 177 14 = some (.getfield 2363, 17) := by decide +kernel
theorem c_177_17 : aCod 177 17 = some (.iload 1, 18) := by decide +kernel
theorem c_177_18 : aCod 177 18 = some (.aload 0, 19) := by decide +kernel
theorem c_177_19 : aCod 177 19 = some (.getfield 2362, 22) := by decide +kernel
theorem c_177_22 : aCod 177 22 = some (.iload 1, 23) := by decide +kernel
theorem c_177_23 : aCod 177 23 = some (.iaload, 24) := by decide +kernel
theorem c_177_24 : aCod 177 24 = some (.iastore, 25) := by decide +kernel
theorem c_177_25 : aCod 177 25 = some (.iinc 1 1, 28) := by decide +kernel
theorem c_177_28 : aCod 177 28 = some (.goto 7, 31) := by decide +kernel
theorem c_177_31 : aCod 177 31 = some (.return_, 32) := by decide +kernel
theorem c_178_0 : aCod 178 0 = some (.sipush 0, 1) := by decide +kernel
theorem c_178_1 : aCod 178 1 = some (.istore 1, 2) := by decide +kernel
theorem c_178_2 : aCod 178 2 = some (.iload 1, 3) := by decide +kernel
theorem c_178_3 : aCod 178 3 = some (.sipush 27, 5) := by decide +kernel
theorem c_178_5 : aCod 178 5 = some (.if_icmp .ge 26, 8) := by decide +kernel
theorem c_178_8 : aCod 178 8 = some (.aload 0, 9) := by decide +kernel
theorem c_178_9 : aCod 178 9 = some (.getfield 2362, 12) := by decide +kernel
theorem c_178_12 : aCod 178 12 = some (.iload 1, 13) := by decide +kernel
theorem c_178_13 : aCod 178 13 = some (.aload 0, 14) := by decide +kernel
theorem c_178_14 : aCod 178 14 = some (.getfield 2363, 17) := by decide +kernel
theorem c_178_17 : aCod 178 17 = some (.iload 1, 18) := by decide +kernel
theorem c_178_18 : aCod 178 18 = some (.iaload, 19) := by decide +kernel
theorem c_178_19 : aCod 178 19 = some (.iastore, 20) := by decide +kernel
theorem c_178_20 : aCod 178 20 = some (.iinc 1 1, 23) := by decide +kernel
theorem c_178_23 : aCod 178 23 = some (.goto 2, 26) := by decide +kernel
theorem c_178_26 : aCod 178 26 = some (.aload 0, 27) := by decide +kernel
theorem c_178_27 : aCod 178 27 = some (.sipush 0, 28) := by decide +kernel
theorem c_178_28 : aCod 178 28 = some (.putfield 2365, 31) := by decide +kernel
theorem c_178_31 : aCod 178 31 = some (.return_, 32) := by decide +kernel
theorem c_179_0 : aCod 179 0 = some (.sipush 0, 1) := by decide +kernel
theorem c_179_1 : aCod 179 1 = some (.istore 1, 2) := by decide +kernel
theorem c_179_2 : aCod 179 2 = some (.iload 1, 3) := by decide +kernel
theorem c_179_3 : aCod 179 3 = some (.sipush 27, 5) := by decide +kernel
theorem c_179_5 : aCod 179 5 = some (.if_icmp .ge 26, 8) := by decide +kernel
theorem c_179_8 : aCod 179 8 = some (.aload 0, 9) := by decide +kernel
theorem c_179_9 : aCod 179 9 = some (.getfield 2362, 12) := by decide +kernel
theorem c_179_12 : aCod 179 12 = some (.iload 1, 13) := by decide +kernel
theorem c_179_13 : aCod 179 13 = some (.aload 0, 14) := by decide +kernel
theorem c_179_14 : aCod 179 14 = some (.getfield 2363, 17) := by decide +kernel
theorem c_179_17 : aCod 179 17 = some (.iload 1, 18) := by decide +kernel
theorem c_179_18 : aCod 179 18 = some (.iaload, 19) := by decide +kernel
theorem c_179_19 : aCod 179 19 = some (.iastore, 20) := by decide +kernel
theorem c_179_20 : aCod 179 20 = some (.iinc 1 1, 23) := by decide +kernel
theorem c_179_23 : aCod 179 23 = some (.goto 2, 26) := by decide +kernel
theorem c_179_26 : aCod 179 26 = some (.return_, 27) := by decide +kernel
theorem c_180_0 : aCod 180 0 = some (.iload 1, 1) := by decide +kernel
theorem c_180_1 : aCod 180 1 = some (.i2l, 2) := by decide +kernel
theorem c_180_2 : aCod 180 2 = some (.iload 2, 3) := by decide +kernel
theorem c_180_3 : aCod 180 3 = some (.i2l, 4) := by decide +kernel
theorem c_180_4 : aCod 180 4 = some (.iload 3, 5) := by decide +kernel
theorem c_180_5 : aCod 180 5 = some (.i2l, 6) := by decide +kernel
theorem c_180_6 : aCod 180 6 = some (.invokestatic 130, 9) := by decide +kernel
theorem c_180_9 : aCod 180 9 = some (.ifCond .eq 30, 12) := by decide +kernel
theorem c_180_12 : aCod 180 12 = some (.aload 0, 13) := by decide +kernel
theorem c_180_13 : aCod 180 13 = some (.getfield 2362, 16) := by decide +kernel
theorem c_180_16 : aCod 180 16 = some (.sipush 0, 17) := by decide +kernel
theorem c_180_17 : aCod 180 17 = some (.iaload, 18) := by decide +kernel
theorem c_180_18 : aCod 180 18 = some (.iload 1, 19) := by decide +kernel
theorem c_180_19 : aCod 180 19 = some (.iadd, 20) := by decide +kernel
theorem c_180_20 : aCod 180 20 = some (.sipush 999, 23) := by decide +kernel
theorem c_180_23 : aCod 180 23 = some (.if_icmp .gt 30, 26) := by decide +kernel
theorem c_180_26 : aCod 180 26 = some (.sipush 1, 27) := by decide +kernel
theorem c_180_27 : aCod 180 27 = some (.goto 31, 30) := by decide +kernel
theorem c_180_30 : aCod 180 30 = some (.sipush 0, 31) := by decide +kernel
theorem c_180_31 : aCod 180 31 = some (.ireturn, 32) := by decide +kernel
theorem c_181_0 : aCod 181 0 = some (.aload 0, 1) := by decide +kernel
theorem c_181_1 : aCod 181 1 = some (.iload 1, 2) := by decide +kernel
theorem c_181_2 : aCod 181 2 = some (.invokevirtual 163, 5) := by decide +kernel
theorem c_181_5 : aCod 181 5 = some (.ifCond .eq 26, 8) := by decide +kernel
theorem c_181_8 : aCod 181 8 = some (.aload 0, 9) := by decide +kernel
theorem c_181_9 : aCod 181 9 = some (.iload 1, 10) := by decide +kernel
theorem c_181_10 : aCod 181 10 = some (.invokevirtual 164, 13) := by decide +kernel
theorem c_181_13 : aCod 181 13 = some (.aload 0, 14) := by decide +kernel
theorem c_181_14 : aCod 181 14 = some (.getfield 2354, 17) := by decide +kernel
theorem c_181_17 : aCod 181 17 = some (.sipush 4, 18) := by decide +kernel
theorem c_181_18 : aCod 181 18 = some (.iaload, 19) := by decide +kernel
theorem c_181_19 : aCod 181 19 = some (.if_icmp .lt 26, 22) := by decide +kernel
theorem c_181_22 : aCod 181 22 = some (.sipush 1, 23) := by decide +kernel
theorem c_181_23 : aCod 181 23 = some (.goto 27, 26) := by decide +kernel
theorem c_181_26 : aCod 181 26 = some (.sipush 0, 27) := by decide +kernel
theorem c_181_27 : aCod 181 27 = some (.ireturn, 28) := by decide +kernel
theorem c_182_0 : aCod 182 0 = some (.sipush 0, 1) := by decide +kernel
theorem c_182_1 : aCod 182 1 = some (.istore 1, 2) := by decide +kernel
theorem c_182_2 : aCod 182 2 = some (.sipush 0, 3) := by decide +kernel
theorem c_182_3 : aCod 182 3 = some (.istore 2, 4) := by decide +kernel
theorem c_182_4 : aCod 182 4 = some (.iload 2, 5) := by decide +kernel
theorem c_182_5 : aCod 182 5 = some (.aload 0, 6) := by decide +kernel
theorem c_182_6 : aCod 182 6 = some (.invokevirtual 161, 9) := by decide +kernel
theorem c_182_9 : aCod 182 9 = some (.if_icmp .ge 32, 12) := by decide +kernel
theorem c_182_12 : aCod 182 12 = some (.aload 0, 13) := by decide +kernel
theorem c_182_13 : aCod 182 13 = some (.iload 2, 14) := by decide +kernel
theorem c_182_14 : aCod 182 14 = some (.invokevirtual 181, 17) := by decide +kernel
theorem c_182_17 : aCod 182 17 = some (.ifCond .eq 26, 20) := by decide +kernel
theorem c_182_20 : aCod 182 20 = some (.iload 1, 21) := by decide +kernel
theorem c_182_21 : aCod 182 21 = some (.sipush 1, 22) := by decide +kernel
theorem c_182_22 : aCod 182 22 = some (.iload 2, 23) := by decide +kernel
theorem c_182_23 : aCod 182 23 = some (.ishl, 24) := by decide +kernel
theorem c_182_24 : aCod 182 24 = some (.ior, 25) := by decide +kernel
theorem c_182_25 : aCod 182 25 = some (.istore 1, 26) := by decide +kernel
theorem c_182_26 : aCod 182 26 = some (.iinc 2 1, 29) := by decide +kernel
theorem c_182_29 : aCod 182 29 = some (.goto 4, 32) := by decide +kernel
theorem c_182_32 : aCod 182 32 = some (.iload 1, 33) := by decide +kernel
theorem c_182_33 : aCod 182 33 = some (.ireturn, 34) := by decide +kernel
theorem c_183_0 : aCod 183 0 = some (.sipush 0, 1) := by decide +kernel
theorem c_183_1 : aCod 183 1 = some (.istore 1, 2) := by decide +kernel
theorem c_183_2 : aCod 183 2 = some (.iload 0, 3) := by decide +kernel
theorem c_183_3 : aCod 183 3 = some (.istore 2, 4) := by decide +kernel
theorem c_183_4 : aCod 183 4 = some (.iload 2, 5) := by decide +kernel
theorem c_183_5 : aCod 183 5 = some (.ifCond .eq 20, 8) := by decide +kernel
theorem c_183_8 : aCod 183 8 = some (.iinc 1 1, 11) := by decide +kernel
theorem c_183_11 : aCod 183 11 = some (.iload 2, 12) := by decide +kernel
theorem c_183_12 : aCod 183 12 = some (.iload 2, 13) := by decide +kernel
theorem c_183_13 : aCod 183 13 = some (.sipush 1, 14) := by decide +kernel
theorem c_183_14 : aCod 183 14 = some (.isub, 15) := by decide +kernel
theorem c_183_15 : aCod 183 15 = some (.iand, 16) := by decide +kernel
theorem c_183_16 : aCod 183 16 = some (.istore 2, 17) := by decide +kernel
theorem c_183_17 : aCod 183 17 = some (.goto 4, 20) := by decide +kernel
theorem c_183_20 : aCod 183 20 = some (.iload 1, 21) := by decide +kernel
theorem c_183_21 : aCod 183 21 = some (.ireturn, 22) := by decide +kernel
theorem c_184_0 : aCod 184 0 = some (.sipush 0, 1) := by decide +kernel
theorem c_184_1 : aCod 184 1 = some (.istore 1, 2) := by decide +kernel
theorem c_184_2 : aCod 184 2 = some (.sipush 0, 3) := by decide +kernel
theorem c_184_3 : aCod 184 3 = some (.istore 2, 4) := by decide +kernel
theorem c_184_4 : aCod 184 4 = some (.iload 2, 5) := by decide +kernel
theorem c_184_5 : aCod 184 5 = some (.aload 0, 6) := by decide +kernel
theorem c_184_6 : aCod 184 6 = some (.invokevirtual 161, 9) := by decide +kernel
theorem c_184_9 : aCod 184 9 = some (.if_icmp .ge 29, 12) := by decide +kernel
theorem c_184_12 : aCod 184 12 = some (.aload 0, 13) := by decide +kernel
theorem c_184_13 : aCod 184 13 = some (.iload 2, 14) := by decide +kernel
theorem c_184_14 : aCod 184 14 = some (.invokevirtual 163, 17) := by decide +kernel
theorem c_184_17 : aCod 184 17 = some (.ifCond .eq 23, 20) := by decide +kernel
theorem c_184_20 : aCod 184 20 = some (.iinc 1 1, 23) := by decide +kernel
theorem c_184_23 : aCod 184 23 = some (.iinc 2 1, 26) := by decide +kernel
theorem c_184_26 : aCod 184 26 = some (.goto 4, 29) := by decide +kernel
theorem c_184_29 : aCod 184 29 = some (.iload 1, 30) := by decide +kernel
theorem c_184_30 : aCod 184 30 = some (.ireturn, 31) := by decide +kernel
theorem c_185_0 : aCod 185 0 = some (.iload 1, 1) := by decide +kernel
theorem c_185_1 : aCod 185 1 = some (.tableswitch 118 0 11 #[64, 64, 64, 73, 78, 78, 78, 87, 92, 97, 105, 113], 64) := by decide +kernel
theorem c_185_64 : aCod 185 64 = some (.aload 0, 65) := by decide +kernel
theorem c_185_65 : aCod 185 65 = some (.getfield 2348, 68) := by decide +kernel
theorem c_185_68 : aCod 185 68 = some (.sipush 3, 69) := by decide +kernel
theorem c_185_69 : aCod 185 69 = some (.iload 1, 70) := by decide +kernel
theorem c_185_70 : aCod 185 70 = some (.iadd, 71) := by decide +kernel
theorem c_185_71 : aCod 185 71 = some (.iaload, 72) := by decide +kernel
theorem c_185_72 : aCod 185 72 = some (.ireturn, 73) := by decide +kernel
theorem c_185_73 : aCod 185 73 = some (.aload 0, 74) := by decide +kernel
theorem c_185_74 : aCod 185 74 = some (.invokevirtual 167, 77) := by decide +kernel
theorem c_185_77 : aCod 185 77 = some (.ireturn, 78) := by decide +kernel
theorem c_185_78 : aCod 185 78 = some (.aload 0, 79) := by decide +kernel
theorem c_185_79 : aCod 185 79 = some (.getfield 2362, 82) := by decide +kernel
theorem c_185_82 : aCod 185 82 = some (.iload 1, 83) := by decide +kernel
theorem c_185_83 : aCod 185 83 = some (.sipush 4, 84) := by decide +kernel
theorem c_185_84 : aCod 185 84 = some (.isub, 85) := by decide +kernel
theorem c_185_85 : aCod 185 85 = some (.iaload, 86) := by decide +kernel
theorem c_185_86 : aCod 185 86 = some (.ireturn, 87) := by decide +kernel
theorem c_185_87 : aCod 185 87 = some (.aload 0, 88) := by decide +kernel
theorem c_185_88 : aCod 185 88 = some (.invokevirtual 169, 91) := by decide +kernel
theorem c_185_91 : aCod 185 91 = some (.ireturn, 92) := by decide +kernel
theorem c_185_92 : aCod 185 92 = some (.aload 0, 93) := by decide +kernel
theorem c_185_93 : aCod 185 93 = some (.invokevirtual 184, 96) := by decide +kernel
theorem c_185_96 : aCod 185 96 = some (.ireturn, 97) := by decide +kernel
theorem c_185_97 : aCod 185 97 = some (.aload 0, 98) := by decide +kernel
theorem c_185_98 : aCod 185 98 = some (.invokevirtual 182, 101) := by decide +kernel
theorem c_185_101 : aCod 185 101 = some (.invokestatic 183, 104) := by decide +kernel
theorem c_185_104 : aCod 185 104 = some (.ireturn, 105) := by decide +kernel
theorem c_185_105 : aCod 185 105 = some (.aload 0, 106) := by decide +kernel
theorem c_185_106 : aCod 185 106 = some (.getfield 2362, 109) := by decide +kernel
theorem c_185_109 : aCod 185 109 = some (.sipush 27, 111) := by decide +kernel
theorem c_185_111 : aCod 185 111 = some (.iaload, 112) := by decide +kernel
theorem c_185_112 : aCod 185 112 = some (.ireturn, 113) := by decide +kernel
theorem c_185_113 : aCod 185 113 = some (.aload 0, 114) := by decide +kernel
theorem c_185_114 : aCod 185 114 = some (.getfield 2374, 117) := by decide +kernel
theorem c_185_117 : aCod 185 117 = some (.ireturn, 118) := by decide +kernel
theorem c_185_118 : aCod 185 118 = some (.sipush (-1), 119) := by decide +kernel
theorem c_185_119 : aCod 185 119 = some (.ireturn, 120) := by decide +kernel
theorem c_186_0 : aCod 186 0 = some (.sipush 0, 1) := by decide +kernel
theorem c_186_1 : aCod 186 1 = some (.istore 2, 2) := by decide +kernel
theorem c_186_2 : aCod 186 2 = some (.lload 0, 3) := by decide +kernel
theorem c_186_3 : aCod 186 3 = some (.lstore 3, 4) := by decide +kernel
theorem c_186_4 : aCod 186 4 = some (.lload 3, 5) := by decide +kernel
theorem c_186_5 : aCod 186 5 = some (.goto_w 0, 6) := by decide +kernel
theorem c_186_6 : aCod 186 6 = some (.lcmp, 7) := by decide +kernel
theorem c_186_7 : aCod 186 7 = some (.ifCond .le 22, 10) := by decide +kernel
theorem c_186_10 : aCod 186 10 = some (.iinc 2 1, 13) := by decide +kernel
theorem c_186_13 : aCod 186 13 = some (.lload 3, 14) := by decide +kernel
theorem c_186_14 : aCod 186 14 = some (.goto_w 27, 17) := by decide +kernel
theorem c_186_17 : aCod 186 17 = some (.ldiv, 18) := by decide +kernel
theorem c_186_18 : aCod 186 18 = some (.lstore 3, 19) := by decide +kernel
theorem c_186_19 : aCod 186 19 = some (.goto 4, 22) := by decide +kernel
theorem c_186_22 : aCod 186 22 = some (.iload 2, 23) := by decide +kernel
theorem c_186_23 : aCod 186 23 = some (.ireturn, 24) := by decide +kernel
theorem c_187_0 : aCod 187 0 = some (.lload 0, 1) := by decide +kernel
theorem c_187_1 : aCod 187 1 = some (.lstore 3, 2) := by decide +kernel
theorem c_187_2 : aCod 187 2 = some (.lload 0, 3) := by decide +kernel
theorem c_187_3 : aCod 187 3 = some (.invokestatic 186, 6) := by decide +kernel
theorem c_187_6 : aCod 187 6 = some (.istore 5, 8) := by decide +kernel
theorem c_187_8 : aCod 187 8 = some (.iload 5, 10) := by decide +kernel
theorem c_187_10 : aCod 187 10 = some (.iload 2, 11) := by decide +kernel
theorem c_187_11 : aCod 187 11 = some (.if_icmp .le 26, 14) := by decide +kernel
theorem c_187_14 : aCod 187 14 = some (.lload 3, 15) := by decide +kernel
theorem c_187_15 : aCod 187 15 = some (.goto_w 27, 18) := by decide +kernel
theorem c_187_18 : aCod 187 18 = some (.ldiv, 19) := by decide +kernel
theorem c_187_19 : aCod 187 19 = some (.lstore 3, 20) := by decide +kernel
theorem c_187_20 : aCod 187 20 = some (.iinc 5 (-1), 23) := by decide +kernel
theorem c_187_23 : aCod 187 23 = some (.goto 8, 26) := by decide +kernel
theorem c_187_26 : aCod 187 26 = some (.lload 3, 27) := by decide +kernel
theorem c_187_27 : aCod 187 27 = some (.lreturn, 28) := by decide +kernel
theorem c_188_0 : aCod 188 0 = some (.iload 1, 1) := by decide +kernel
theorem c_188_1 : aCod 188 1 = some (.i2l, 2) := by decide +kernel
theorem c_188_2 : aCod 188 2 = some (.goto_w 0, 3) := by decide +kernel
theorem c_188_3 : aCod 188 3 = some (.goto_w 2, 6) := by decide +kernel
theorem c_188_6 : aCod 188 6 = some (.invokestatic 130, 9) := by decide +kernel
theorem c_188_9 : aCod 188 9 = some (.ifCond .eq 44, 12) := by decide +kernel
theorem c_188_12 : aCod 188 12 = some (.iload 2, 13) := by decide +kernel
theorem c_188_13 : aCod 188 13 = some (.i2l, 14) := by decide +kernel
theorem c_188_14 : aCod 188 14 = some (.goto_w 0, 15) := by decide +kernel
theorem c_188_15 : aCod 188 15 = some (.aload 0, 16) := by decide +kernel
theorem c_188_16 : aCod 188 16 = some (.getfield 2348, 19) := by decide +kernel
theorem c_188_19 : aCod 188 19 = some (.sipush 3, 20) := by decide +kernel
theorem c_188_20 : aCod 188 20 = some (.iload 1, 21) := by decide +kernel
theorem c_188_21 : aCod 188 21 = some (.iadd, 22) := by decide +kernel
theorem c_188_22 : aCod 188 22 = some (.iaload, 23) := by decide +kernel
theorem c_188_23 : aCod 188 23 = some (.sipush 1, 24) := by decide +kernel
theorem c_188_24 : aCod 188 24 = some (.isub, 25) := by decide +kernel
theorem c_188_25 : aCod 188 25 = some (.i2l, 26) := by decide +kernel
theorem c_188_26 : aCod 188 26 = some (.invokestatic 130, 29) := by decide +kernel
theorem c_188_29 : aCod 188 29 = some (.ifCond .eq 44, 32) := by decide +kernel
theorem c_188_32 : aCod 188 32 = some (.iload 3, 33) := by decide +kernel
theorem c_188_33 : aCod 188 33 = some (.i2l, 34) := by decide +kernel
theorem c_188_34 : aCod 188 34 = some (.goto_w 0, 35) := by decide +kernel
theorem c_188_35 : aCod 188 35 = some (.goto_w 5, 38) := by decide +kernel
theorem c_188_38 : aCod 188 38 = some (.invokestatic 130, 41) := by decide +kernel
theorem c_188_41 : aCod 188 41 = some (.ifCond .ne 46, 44) := by decide +kernel
theorem c_188_44 : aCod 188 44 = some (.sipush (-1), 45) := by decide +kernel
theorem c_188_45 : aCod 188 45 = some (.ireturn, 46) := by decide +kernel
theorem c_188_46 : aCod 188 46 = some (.aload 0, 47) := by decide +kernel
theorem c_188_47 : aCod 188 47 = some (.getfield 2349, 50) := by decide +kernel
theorem c_188_50 : aCod 188 50 = some (.sipush 24, 52) := by decide +kernel
theorem c_188_52 : aCod 188 52 = some (.sipush 8, 54) := by decide +kernel
theorem c_188_54 : aCod 188 54 = some (.iload 1, 55) := by decide +kernel
theorem c_188_55 : aCod 188 55 = some (.imul, 56) := by decide +kernel
theorem c_188_56 : aCod 188 56 = some (.iadd, 57) := by decide +kernel
theorem c_188_57 : aCod 188 57 = some (.iload 2, 58) := by decide +kernel
theorem c_188_58 : aCod 188 58 = some (.iadd, 59) := by decide +kernel
theorem c_188_59 : aCod 188 59 = some (.laload, 60) := by decide +kernel
theorem c_188_60 : aCod 188 60 = some (.lstore 4, 62) := by decide +kernel
theorem c_188_62 : aCod 188 62 = some (.iload 3, 63) := by decide +kernel
theorem c_188_63 : aCod 188 63 = some (.lload 4, 65) := by decide +kernel
theorem c_188_65 : aCod 188 65 = some (.invokestatic 186, 68) := by decide +kernel
theorem c_188_68 : aCod 188 68 = some (.if_icmp .lt 75, 71) := by decide +kernel
theorem c_188_71 : aCod 188 71 = some (.sipush 0, 72) := by decide +kernel
theorem c_188_72 : aCod 188 72 = some (.goto 88, 75) := by decide +kernel
theorem c_188_75 : aCod 188 75 = some (.lload 4, 77) := by decide +kernel
theorem c_188_77 : aCod 188 77 = some (.iload 3, 78) := by decide +kernel
theorem c_188_78 : aCod 188 78 = some (.sipush 1, 79) := by decide +kernel
theorem c_188_79 : aCod 188 79 = some (.iadd, 80) := by decide +kernel
theorem c_188_80 : aCod 188 80 = some (.invokestatic 187, 83) := by decide +kernel
theorem c_188_83 : aCod 188 83 = some (.goto_w 27, 86) := by decide +kernel
theorem c_188_86 : aCod 188 86 = some (.lrem, 87) := by decide +kernel
theorem c_188_87 : aCod 188 87 = some (.l2i, 88) := by decide +kernel
theorem c_188_88 : aCod 188 88 = some (.ireturn, 89) := by decide +kernel
theorem c_189_0 : aCod 189 0 = some (.iload 1, 1) := by decide +kernel
theorem c_189_1 : aCod 189 1 = some (.i2l, 2) := by decide +kernel
theorem c_189_2 : aCod 189 2 = some (.goto_w 0, 3) := by decide +kernel
theorem c_189_3 : aCod 189 3 = some (.aload 0, 4) := by decide +kernel
theorem c_189_4 : aCod 189 4 = some (.invokevirtual 159, 7) := by decide +kernel
theorem c_189_7 : aCod 189 7 = some (.sipush 1, 8) := by decide +kernel
theorem c_189_8 : aCod 189 8 = some (.isub, 9) := by decide +kernel
theorem c_189_9 : aCod 189 9 = some (.i2l, 10) := by decide +kernel
theorem c_189_10 : aCod 189 10 = some (.invokestatic 130, 13) := by decide +kernel
theorem c_189_13 : aCod 189 13 = some (.ifCond .eq 42, 16) := by decide +kernel
theorem c_189_16 : aCod 189 16 = some (.iload 2, 17) := by decide +kernel
theorem c_189_17 : aCod 189 17 = some (.i2l, 18) := by decide +kernel
theorem c_189_18 : aCod 189 18 = some (.goto_w 0, 19) := by decide +kernel
theorem c_189_19 : aCod 189 19 = some (.goto_w 1, 20) := by decide +kernel
theorem c_189_20 : aCod 189 20 = some (.invokestatic 130, 23) := by decide +kernel
theorem c_189_23 : aCod 189 23 = some (.ifCond .eq 42, 26) := by decide +kernel
theorem c_189_26 : aCod 189 26 = some (.aload 0, 27) := by decide +kernel
theorem c_189_27 : aCod 189 27 = some (.getfield 2351, 30) := by decide +kernel
theorem c_189_30 : aCod 189 30 = some (.sipush 12, 32) := by decide +kernel
theorem c_189_32 : aCod 189 32 = some (.sipush 2, 33) := by decide +kernel
theorem c_189_33 : aCod 189 33 = some (.iload 1, 34) := by decide +kernel
theorem c_189_34 : aCod 189 34 = some (.imul, 35) := by decide +kernel
theorem c_189_35 : aCod 189 35 = some (.iadd, 36) := by decide +kernel
theorem c_189_36 : aCod 189 36 = some (.iload 2, 37) := by decide +kernel
theorem c_189_37 : aCod 189 37 = some (.iadd, 38) := by decide +kernel
theorem c_189_38 : aCod 189 38 = some (.iaload, 39) := by decide +kernel
theorem c_189_39 : aCod 189 39 = some (.goto 43, 42) := by decide +kernel
theorem c_189_42 : aCod 189 42 = some (.sipush (-1), 43) := by decide +kernel
theorem c_189_43 : aCod 189 43 = some (.ireturn, 44) := by decide +kernel
theorem c_190_0 : aCod 190 0 = some (.aload 0, 1) := by decide +kernel
theorem c_190_1 : aCod 190 1 = some (.iload 1, 2) := by decide +kernel
theorem c_190_2 : aCod 190 2 = some (.invokevirtual 162, 5) := by decide +kernel
theorem c_190_5 : aCod 190 5 = some (.ifCond .ne 10, 8) := by decide +kernel
theorem c_190_8 : aCod 190 8 = some (.sipush (-1), 9) := by decide +kernel
theorem c_190_9 : aCod 190 9 = some (.ireturn, 10) := by decide +kernel
theorem c_190_10 : aCod 190 10 = some (.iload 2, 11) := by decide +kernel
theorem c_190_11 : aCod 190 11 = some (.tableswitch 127 0 9 #[64, 64, 64, 64, 78, 78, 78, 93, 99, 113], 64) := by decide +kernel
theorem c_190_64 : aCod 190 64 = some (.aload 0, 65) := by decide +kernel
theorem c_190_65 : aCod 190 65 = some (.getfield 2353, 68) := by decide +kernel
theorem c_190_68 : aCod 190 68 = some (.sipush 32, 70) := by decide +kernel
theorem c_190_70 : aCod 190 70 = some (.sipush 4, 71) := by decide +kernel
theorem c_190_71 : aCod 190 71 = some (.iload 1, 72) := by decide +kernel
theorem c_190_72 : aCod 190 72 = some (.imul, 73) := by decide +kernel
theorem c_190_73 : aCod 190 73 = some (.iadd, 74) := by decide +kernel
theorem c_190_74 : aCod 190 74 = some (.iload 2, 75) := by decide +kernel
theorem c_190_75 : aCod 190 75 = some (.iadd, 76) := by decide +kernel
theorem c_190_76 : aCod 190 76 = some (.iaload, 77) := by decide +kernel
theorem c_190_77 : aCod 190 77 = some (.ireturn, 78) := by decide +kernel
theorem c_190_78 : aCod 190 78 = some (.aload 0, 79) := by decide +kernel
theorem c_190_79 : aCod 190 79 = some (.getfield 2362, 82) := by decide +kernel
theorem c_190_82 : aCod 190 82 = some (.sipush 3, 83) := by decide +kernel
theorem c_190_83 : aCod 190 83 = some (.sipush 3, 84) := by decide +kernel
theorem c_190_84 : aCod 190 84 = some (.iload 1, 85) := by decide +kernel
theorem c_190_85 : aCod 190 85 = some (.imul, 86) := by decide +kernel
theorem c_190_86 : aCod 190 86 = some (.iadd, 87) := by decide +kernel
theorem c_190_87 : aCod 190 87 = some (.iload 2, 88) := by decide +kernel
theorem c_190_88 : aCod 190 88 = some (.iadd, 89) := by decide +kernel
theorem c_190_89 : aCod 190 89 = some (.sipush 4, 90) := by decide +kernel
theorem c_190_90 : aCod 190 90 = some (.isub, 91) := by decide +kernel
theorem c_190_91 : aCod 190 91 = some (.iaload, 92) := by decide +kernel
theorem c_190_92 : aCod 190 92 = some (.ireturn, 93) := by decide +kernel
theorem c_190_93 : aCod 190 93 = some (.aload 0, 94) := by decide +kernel
theorem c_190_94 : aCod 190 94 = some (.iload 1, 95) := by decide +kernel
theorem c_190_95 : aCod 190 95 = some (.invokevirtual 171, 98) := by decide +kernel
theorem c_190_98 : aCod 190 98 = some (.ireturn, 99) := by decide +kernel
theorem c_190_99 : aCod 190 99 = some (.aload 0, 100) := by decide +kernel
theorem c_190_100 : aCod 190 100 = some (.iload 1, 101) := by decide +kernel
theorem c_190_101 : aCod 190 101 = some (.invokevirtual 172, 104) := by decide +kernel
theorem c_190_104 : aCod 190 104 = some (.ifCond .eq 111, 107) := by decide +kernel
theorem c_190_107 : aCod 190 107 = some (.sipush 1, 108) := by decide +kernel
theorem c_190_108 : aCod 190 108 = some (.goto 112, 111) := by decide +kernel
theorem c_190_111 : aCod 190 111 = some (.sipush 0, 112) := by decide +kernel
theorem c_190_112 : aCod 190 112 = some (.ireturn, 113) := by decide +kernel
theorem c_190_113 : aCod 190 113 = some (.aload 0, 114) := by decide +kernel
theorem c_190_114 : aCod 190 114 = some (.iload 1, 115) := by decide +kernel
theorem c_190_115 : aCod 190 115 = some (.invokevirtual 181, 118) := by decide +kernel
theorem c_190_118 : aCod 190 118 = some (.ifCond .eq 125, 121) := by decide +kernel
theorem c_190_121 : aCod 190 121 = some (.sipush 1, 122) := by decide +kernel
theorem c_190_122 : aCod 190 122 = some (.goto 126, 125) := by decide +kernel
theorem c_190_125 : aCod 190 125 = some (.sipush 0, 126) := by decide +kernel
theorem c_190_126 : aCod 190 126 = some (.ireturn, 127) := by decide +kernel
theorem c_190_127 : aCod 190 127 = some (.sipush (-1), 128) := by decide +kernel
theorem c_190_128 : aCod 190 128 = some (.ireturn, 129) := by decide +kernel
theorem c_191_0 : aCod 191 0 = some (.iload 1, 1) := by decide +kernel
theorem c_191_1 : aCod 191 1 = some (.i2l, 2) := by decide +kernel
theorem c_191_2 : aCod 191 2 = some (.goto_w 0, 3) := by decide +kernel
theorem c_191_3 : aCod 191 3 = some (.aload 0, 4) := by decide +kernel
theorem c_191_4 : aCod 191 4 = some (.invokevirtual 160, 7) := by decide +kernel
theorem c_191_7 : aCod 191 7 = some (.sipush 1, 8) := by decide +kernel
theorem c_191_8 : aCod 191 8 = some (.isub, 9) := by decide +kernel
theorem c_191_9 : aCod 191 9 = some (.i2l, 10) := by decide +kernel
theorem c_191_10 : aCod 191 10 = some (.invokestatic 130, 13) := by decide +kernel
theorem c_191_13 : aCod 191 13 = some (.ifCond .eq 28, 16) := by decide +kernel
theorem c_191_16 : aCod 191 16 = some (.aload 0, 17) := by decide +kernel
theorem c_191_17 : aCod 191 17 = some (.getfield 2352, 20) := by decide +kernel
theorem c_191_20 : aCod 191 20 = some (.sipush 6, 22) := by decide +kernel
theorem c_191_22 : aCod 191 22 = some (.iload 1, 23) := by decide +kernel
theorem c_191_23 : aCod 191 23 = some (.iadd, 24) := by decide +kernel
theorem c_191_24 : aCod 191 24 = some (.iaload, 25) := by decide +kernel
theorem c_191_25 : aCod 191 25 = some (.goto 29, 28) := by decide +kernel
theorem c_191_28 : aCod 191 28 = some (.sipush (-1), 29) := by decide +kernel
theorem c_191_29 : aCod 191 29 = some (.ireturn, 30) := by decide +kernel
theorem c_192_0 : aCod 192 0 = some (.iload 1, 1) := by decide +kernel
theorem c_192_1 : aCod 192 1 = some (.i2l, 2) := by decide +kernel
theorem c_192_2 : aCod 192 2 = some (.goto_w 0, 3) := by decide +kernel
theorem c_192_3 : aCod 192 3 = some (.aload 0, 4) := by decide +kernel
theorem c_192_4 : aCod 192 4 = some (.getfield 2362, 7) := by decide +kernel
theorem c_192_7 : aCod 192 7 = some (.sipush 27, 9) := by decide +kernel
theorem c_192_9 : aCod 192 9 = some (.iaload, 10) := by decide +kernel
theorem c_192_10 : aCod 192 10 = some (.sipush 1, 11) := by decide +kernel
theorem c_192_11 : aCod 192 11 = some (.isub, 12) := by decide +kernel
theorem c_192_12 : aCod 192 12 = some (.i2l, 13) := by decide +kernel
theorem c_192_13 : aCod 192 13 = some (.invokestatic 130, 16) := by decide +kernel
theorem c_192_16 : aCod 192 16 = some (.ifCond .eq 47, 19) := by decide +kernel
theorem c_192_19 : aCod 192 19 = some (.iload 2, 20) := by decide +kernel
theorem c_192_20 : aCod 192 20 = some (.i2l, 21) := by decide +kernel
theorem c_192_21 : aCod 192 21 = some (.goto_w 0, 22) := by decide +kernel
theorem c_192_22 : aCod 192 22 = some (.goto_w 3, 25) := by decide +kernel
theorem c_192_25 : aCod 192 25 = some (.invokestatic 130, 28) := by decide +kernel
theorem c_192_28 : aCod 192 28 = some (.ifCond .eq 47, 31) := by decide +kernel
theorem c_192_31 : aCod 192 31 = some (.aload 0, 32) := by decide +kernel
theorem c_192_32 : aCod 192 32 = some (.getfield 2362, 35) := by decide +kernel
theorem c_192_35 : aCod 192 35 = some (.sipush 28, 37) := by decide +kernel
theorem c_192_37 : aCod 192 37 = some (.sipush 4, 38) := by decide +kernel
theorem c_192_38 : aCod 192 38 = some (.iload 1, 39) := by decide +kernel
theorem c_192_39 : aCod 192 39 = some (.imul, 40) := by decide +kernel
theorem c_192_40 : aCod 192 40 = some (.iadd, 41) := by decide +kernel
theorem c_192_41 : aCod 192 41 = some (.iload 2, 42) := by decide +kernel
theorem c_192_42 : aCod 192 42 = some (.iadd, 43) := by decide +kernel
theorem c_192_43 : aCod 192 43 = some (.iaload, 44) := by decide +kernel
theorem c_192_44 : aCod 192 44 = some (.goto 48, 47) := by decide +kernel
theorem c_192_47 : aCod 192 47 = some (.sipush (-1), 48) := by decide +kernel
theorem c_192_48 : aCod 192 48 = some (.ireturn, 49) := by decide +kernel
theorem c_193_0 : aCod 193 0 = some (.aload 0, 1) := by decide +kernel
theorem c_193_1 : aCod 193 1 = some (.getfield 2360, 4) := by decide +kernel
theorem c_193_4 : aCod 193 4 = some (.ifCond .eq 30, 7) := by decide +kernel
theorem c_193_7 : aCod 193 7 = some (.aload 0, 8) := by decide +kernel
theorem c_193_8 : aCod 193 8 = some (.iload 1, 9) := by decide +kernel
theorem c_193_9 : aCod 193 9 = some (.sipush 0, 10) := by decide +kernel
theorem c_193_10 : aCod 193 10 = some (.sipush 60, 12) := by decide +kernel
theorem c_193_12 : aCod 193 12 = some (.invokevirtual 180, 15) := by decide +kernel
theorem c_193_15 : aCod 193 15 = some (.ifCond .eq 30, 18) := by decide +kernel
theorem c_193_18 : aCod 193 18 = some (.iload 2, 19) := by decide +kernel
theorem c_193_19 : aCod 193 19 = some (.i2l, 20) := by decide +kernel
theorem c_193_20 : aCod 193 20 = some (.goto_w 0, 21) := by decide +kernel
theorem c_193_21 : aCod 193 21 = some (.goto_w 3, 24) := by decide +kernel
theorem c_193_24 : aCod 193 24 = some (.invokestatic 130, 27) := by decide +kernel
theorem c_193_27 : aCod 193 27 = some (.ifCond .ne 32, 30) := by decide +kernel
theorem c_193_30 : aCod 193 30 = some (.sipush (-1), 31) := by decide +kernel
theorem c_193_31 : aCod 193 31 = some (.ireturn, 32) := by decide +kernel
theorem c_193_32 : aCod 193 32 = some (.aload 0, 33) := by decide +kernel
theorem c_193_33 : aCod 193 33 = some (.invokevirtual 177, 36) := by decide +kernel
theorem c_193_36 : aCod 193 36 = some (.aload 0, 37) := by decide +kernel
theorem c_193_37 : aCod 193 37 = some (.iload 1, 38) := by decide +kernel
theorem c_193_38 : aCod 193 38 = some (.invokevirtual 176, 41) := by decide +kernel
theorem c_193_41 : aCod 193 41 = some (.iload 2, 42) := by decide +kernel
theorem c_193_42 : aCod 193 42 = some (.ifCond .ne 54, 45) := by decide +kernel
theorem c_193_45 : aCod 193 45 = some (.aload 0, 46) := by decide +kernel
theorem c_193_46 : aCod 193 46 = some (.getfield 2362, 49) := by decide +kernel
theorem c_193_49 : aCod 193 49 = some (.sipush 1, 50) := by decide +kernel
theorem c_193_50 : aCod 193 50 = some (.iaload, 51) := by decide +kernel
theorem c_193_51 : aCod 193 51 = some (.goto 84, 54) := by decide +kernel
theorem c_193_54 : aCod 193 54 = some (.iload 2, 55) := by decide +kernel
theorem c_193_55 : aCod 193 55 = some (.sipush 1, 56) := by decide +kernel
theorem c_193_56 : aCod 193 56 = some (.if_icmp .ne 68, 59) := by decide +kernel
theorem c_193_59 : aCod 193 59 = some (.aload 0, 60) := by decide +kernel
theorem c_193_60 : aCod 193 60 = some (.getfield 2362, 63) := by decide +kernel
theorem c_193_63 : aCod 193 63 = some (.sipush 2, 64) := by decide +kernel
theorem c_193_64 : aCod 193 64 = some (.iaload, 65) := by decide +kernel
theorem c_193_65 : aCod 193 65 = some (.goto 84, 68) := by decide +kernel
theorem c_193_68 : aCod 193 68 = some (.iload 2, 69) := by decide +kernel
theorem c_193_69 : aCod 193 69 = some (.sipush 2, 70) := by decide +kernel
theorem c_193_70 : aCod 193 70 = some (.if_icmp .ne 80, 73) := by decide +kernel
theorem c_193_73 : aCod 193 73 = some (.aload 0, 74) := by decide +kernel
theorem c_193_74 : aCod 193 74 = some (.invokevirtual 169, 77) := by decide +kernel
theorem c_193_77 : aCod 193 77 = some (.goto 84, 80) := by decide +kernel
theorem c_193_80 : aCod 193 80 = some (.aload 0, 81) := by decide +kernel
theorem c_193_81 : aCod 193 81 = some (.invokevirtual 182, 84) := by decide +kernel
theorem c_193_84 : aCod 193 84 = some (.istore 3, 85) := by decide +kernel
theorem c_193_85 : aCod 193 85 = some (.aload 0, 86) := by decide +kernel
theorem c_193_86 : aCod 193 86 = some (.invokevirtual 178, 89) := by decide +kernel
theorem c_193_89 : aCod 193 89 = some (.iload 3, 90) := by decide +kernel
theorem c_193_90 : aCod 193 90 = some (.ireturn, 91) := by decide +kernel
theorem c_194_0 : aCod 194 0 = some (.aload 0, 1) := by decide +kernel
theorem c_194_1 : aCod 194 1 = some (.iload 1, 2) := by decide +kernel
theorem c_194_2 : aCod 194 2 = some (.invokevirtual 162, 5) := by decide +kernel
theorem c_194_5 : aCod 194 5 = some (.ifCond .eq 16, 8) := by decide +kernel
theorem c_194_8 : aCod 194 8 = some (.aload 0, 9) := by decide +kernel
theorem c_194_9 : aCod 194 9 = some (.iload 1, 10) := by decide +kernel
theorem c_194_10 : aCod 194 10 = some (.invokevirtual 163, 13) := by decide +kernel
theorem c_194_13 : aCod 194 13 = some (.ifCond .ne 18, 16) := by decide +kernel
theorem c_194_16 : aCod 194 16 = some (.sipush (-1), 17) := by decide +kernel
theorem c_194_17 : aCod 194 17 = some (.ireturn, 18) := by decide +kernel
theorem c_194_18 : aCod 194 18 = some (.aload 0, 19) := by decide +kernel
theorem c_194_19 : aCod 194 19 = some (.invokevirtual 177, 22) := by decide +kernel
theorem c_194_22 : aCod 194 22 = some (.sipush 0, 23) := by decide +kernel
theorem c_194_23 : aCod 194 23 = some (.istore 2, 24) := by decide +kernel
theorem c_194_24 : aCod 194 24 = some (.aload 0, 25) := by decide +kernel
theorem c_194_25 : aCod 194 25 = some (.iload 1, 26) := by decide +kernel
theorem c_194_26 : aCod 194 26 = some (.invokevirtual 181, 29) := by decide +kernel
theorem c_194_29 : aCod 194 29 = some (.ifCond .eq 63, 32) := by decide +kernel
theorem c_194_32 : aCod 194 32 = some (.iload 2, 33) := by decide +kernel
theorem c_194_33 : aCod 194 33 = some (.sipush 60, 35) := by decide +kernel
theorem c_194_35 : aCod 194 35 = some (.if_icmp .ge 63, 38) := by decide +kernel
theorem c_194_38 : aCod 194 38 = some (.aload 0, 39) := by decide +kernel
theorem c_194_39 : aCod 194 39 = some (.getfield 2362, 42) := by decide +kernel
theorem c_194_42 : aCod 194 42 = some (.sipush 0, 43) := by decide +kernel
theorem c_194_43 : aCod 194 43 = some (.iaload, 44) := by decide +kernel
theorem c_194_44 : aCod 194 44 = some (.sipush 999, 47) := by decide +kernel
theorem c_194_47 : aCod 194 47 = some (.if_icmp .ge 63, 50) := by decide +kernel
theorem c_194_50 : aCod 194 50 = some (.aload 0, 51) := by decide +kernel
theorem c_194_51 : aCod 194 51 = some (.sipush 0, 52) := by decide +kernel
theorem c_194_52 : aCod 194 52 = some (.sipush 0, 53) := by decide +kernel
theorem c_194_53 : aCod 194 53 = some (.sipush 0, 54) := by decide +kernel
theorem c_194_54 : aCod 194 54 = some (.invokevirtual 175, 57) := by decide +kernel
theorem c_194_57 : aCod 194 57 = some (.iinc 2 1, 60) := by decide +kernel
theorem c_194_60 : aCod 194 60 = some (.goto 24, 63) := by decide +kernel
theorem c_194_63 : aCod 194 63 = some (.aload 0, 64) := by decide +kernel
theorem c_194_64 : aCod 194 64 = some (.iload 1, 65) := by decide +kernel
theorem c_194_65 : aCod 194 65 = some (.invokevirtual 181, 68) := by decide +kernel
theorem c_194_68 : aCod 194 68 = some (.ifCond .ne 75, 71) := by decide +kernel
theorem c_194_71 : aCod 194 71 = some (.sipush 1, 72) := by decide +kernel
theorem c_194_72 : aCod 194 72 = some (.goto 76, 75) := by decide +kernel
theorem c_194_75 : aCod 194 75 = some (.sipush 0, 76) := by decide +kernel
theorem c_194_76 : aCod 194 76 = some (.istore 3, 77) := by decide +kernel
theorem c_194_77 : aCod 194 77 = some (.aload 0, 78) := by decide +kernel
theorem c_194_78 : aCod 194 78 = some (.invokevirtual 178, 81) := by decide +kernel
theorem c_194_81 : aCod 194 81 = some (.iload 3, 82) := by decide +kernel
theorem c_194_82 : aCod 194 82 = some (.ifCond .eq 89, 85) := by decide +kernel
theorem c_194_85 : aCod 194 85 = some (.iload 2, 86) := by decide +kernel
theorem c_194_86 : aCod 194 86 = some (.goto 90, 89) := by decide +kernel
theorem c_194_89 : aCod 194 89 = some (.sipush (-1), 90) := by decide +kernel
theorem c_194_90 : aCod 194 90 = some (.ireturn, 91) := by decide +kernel
theorem c_195_0 : aCod 195 0 = some (.aload 0, 1) := by decide +kernel
theorem c_195_1 : aCod 195 1 = some (.sipush (-1), 2) := by decide +kernel
theorem c_195_2 : aCod 195 2 = some (.putfield 2368, 5) := by decide +kernel
theorem c_195_5 : aCod 195 5 = some (.aload 0, 6) := by decide +kernel
theorem c_195_6 : aCod 195 6 = some (.sipush (-1), 7) := by decide +kernel
theorem c_195_7 : aCod 195 7 = some (.putfield 2369, 10) := by decide +kernel
theorem c_195_10 : aCod 195 10 = some (.aload 0, 11) := by decide +kernel
theorem c_195_11 : aCod 195 11 = some (.invokevirtual 177, 14) := by decide +kernel
theorem c_195_14 : aCod 195 14 = some (.sipush 1, 15) := by decide +kernel
theorem c_195_15 : aCod 195 15 = some (.istore 3, 16) := by decide +kernel
theorem c_195_16 : aCod 195 16 = some (.sipush 0, 17) := by decide +kernel
theorem c_195_17 : aCod 195 17 = some (.istore 4, 19) := by decide +kernel
theorem c_195_19 : aCod 195 19 = some (.iload 3, 20) := by decide +kernel
theorem c_195_20 : aCod 195 20 = some (.ifCond .eq 110, 23) := by decide +kernel
theorem c_195_23 : aCod 195 23 = some (.aload 0, 24) := by decide +kernel
theorem c_195_24 : aCod 195 24 = some (.iload 1, 25) := by decide +kernel
theorem c_195_25 : aCod 195 25 = some (.invokevirtual 172, 28) := by decide +kernel
theorem c_195_28 : aCod 195 28 = some (.ifCond .eq 68, 31) := by decide +kernel
theorem c_195_31 : aCod 195 31 = some (.aload 0, 32) := by decide +kernel
theorem c_195_32 : aCod 195 32 = some (.getfield 2368, 35) := by decide +kernel
theorem c_195_35 : aCod 195 35 = some (.sipush (-1), 36) := by decide +kernel
theorem c_195_36 : aCod 195 36 = some (.if_icmp .eq 54, 39) := by decide +kernel
theorem c_195_39 : aCod 195 39 = some (.iload 2, 40) := by decide +kernel
theorem c_195_40 : aCod 195 40 = some (.ifCond .eq 68, 43) := by decide +kernel
theorem c_195_43 : aCod 195 43 = some (.aload 0, 44) := by decide +kernel
theorem c_195_44 : aCod 195 44 = some (.invokevirtual 169, 47) := by decide +kernel
theorem c_195_47 : aCod 195 47 = some (.aload 0, 48) := by decide +kernel
theorem c_195_48 : aCod 195 48 = some (.getfield 2369, 51) := by decide +kernel
theorem c_195_51 : aCod 195 51 = some (.if_icmp .le 68, 54) := by decide +kernel
theorem c_195_54 : aCod 195 54 = some (.aload 0, 55) := by decide +kernel
theorem c_195_55 : aCod 195 55 = some (.iload 4, 57) := by decide +kernel
theorem c_195_57 : aCod 195 57 = some (.putfield 2368, 60) := by decide +kernel
theorem c_195_60 : aCod 195 60 = some (.aload 0, 61) := by decide +kernel
theorem c_195_61 : aCod 195 61 = some (.aload 0, 62) := by decide +kernel
theorem c_195_62 : aCod 195 62 = some (.invokevirtual 169, 65) := by decide +kernel
theorem c_195_65 : aCod 195 65 = some (.putfield 2369, 68) := by decide +kernel
theorem c_195_68 : aCod 195 68 = some (.iload 4, 70) := by decide +kernel
theorem c_195_70 : aCod 195 70 = some (.sipush 60, 72) := by decide +kernel
theorem c_195_72 : aCod 195 72 = some (.if_icmp .ge 91, 75) := by decide +kernel
theorem c_195_75 : aCod 195 75 = some (.aload 0, 76) := by decide +kernel
theorem c_195_76 : aCod 195 76 = some (.getfield 2362, 79) := by decide +kernel
theorem c_195_79 : aCod 195 79 = some (.sipush 0, 80) := by decide +kernel
theorem c_195_80 : aCod 195 80 = some (.iaload, 81) := by decide +kernel
theorem c_195_81 : aCod 195 81 = some (.sipush 999, 84) := by decide +kernel
theorem c_195_84 : aCod 195 84 = some (.if_icmp .ge 91, 87) := by decide +kernel
theorem c_195_87 : aCod 195 87 = some (.sipush 1, 88) := by decide +kernel
theorem c_195_88 : aCod 195 88 = some (.goto 92, 91) := by decide +kernel
theorem c_195_91 : aCod 195 91 = some (.sipush 0, 92) := by decide +kernel
theorem c_195_92 : aCod 195 92 = some (.istore 3, 93) := by decide +kernel
theorem c_195_93 : aCod 195 93 = some (.iload 3, 94) := by decide +kernel
theorem c_195_94 : aCod 195 94 = some (.ifCond .eq 104, 97) := by decide +kernel
theorem c_195_97 : aCod 195 97 = some (.aload 0, 98) := by decide +kernel
theorem c_195_98 : aCod 195 98 = some (.sipush 0, 99) := by decide +kernel
theorem c_195_99 : aCod 195 99 = some (.sipush 0, 100) := by decide +kernel
theorem c_195_100 : aCod 195 100 = some (.sipush 0, 101) := by decide +kernel
theorem c_195_101 : aCod 195 101 = some (.invokevirtual 175, 104) := by decide +kernel
theorem c_195_104 : aCod 195 104 = some (.iinc 4 1, 107) := by decide +kernel
theorem c_195_107 : aCod 195 107 = some (.goto 19, 110) := by decide +kernel
theorem c_195_110 : aCod 195 110 = some (.aload 0, 111) := by decide +kernel
theorem c_195_111 : aCod 195 111 = some (.invokevirtual 178, 114) := by decide +kernel
theorem c_195_114 : aCod 195 114 = some (.return_, 115) := by decide +kernel
theorem c_196_0 : aCod 196 0 = some (.aload 0, 1) := by decide +kernel
theorem c_196_1 : aCod 196 1 = some (.iload 1, 2) := by decide +kernel
theorem c_196_2 : aCod 196 2 = some (.invokevirtual 162, 5) := by decide +kernel
theorem c_196_5 : aCod 196 5 = some (.ifCond .ne 10, 8) := by decide +kernel
theorem c_196_8 : aCod 196 8 = some (.sipush (-1), 9) := by decide +kernel
theorem c_196_9 : aCod 196 9 = some (.ireturn, 10) := by decide +kernel
theorem c_196_10 : aCod 196 10 = some (.aload 0, 11) := by decide +kernel
theorem c_196_11 : aCod 196 11 = some (.iload 1, 12) := by decide +kernel
theorem c_196_12 : aCod 196 12 = some (.sipush 0, 13) := by decide +kernel
theorem c_196_13 : aCod 196 13 = some (.invokevirtual 195, 16) := by decide +kernel
theorem c_196_16 : aCod 196 16 = some (.aload 0, 17) := by decide +kernel
theorem c_196_17 : aCod 196 17 = some (.getfield 2368, 20) := by decide +kernel
theorem c_196_20 : aCod 196 20 = some (.ireturn, 21) := by decide +kernel
theorem c_197_0 : aCod 197 0 = some (.aload 0, 1) := by decide +kernel
theorem c_197_1 : aCod 197 1 = some (.iload 1, 2) := by decide +kernel
theorem c_197_2 : aCod 197 2 = some (.invokevirtual 162, 5) := by decide +kernel
theorem c_197_5 : aCod 197 5 = some (.ifCond .eq 18, 8) := by decide +kernel
theorem c_197_8 : aCod 197 8 = some (.iload 2, 9) := by decide +kernel
theorem c_197_9 : aCod 197 9 = some (.i2l, 10) := by decide +kernel
theorem c_197_10 : aCod 197 10 = some (.goto_w 0, 11) := by decide +kernel
theorem c_197_11 : aCod 197 11 = some (.goto_w 1, 12) := by decide +kernel
theorem c_197_12 : aCod 197 12 = some (.invokestatic 130, 15) := by decide +kernel
theorem c_197_15 : aCod 197 15 = some (.ifCond .ne 20, 18) := by decide +kernel
theorem c_197_18 : aCod 197 18 = some (.sipush (-1), 19) := by decide +kernel
theorem c_197_19 : aCod 197 19 = some (.ireturn, 20) := by decide +kernel
theorem c_197_20 : aCod 197 20 = some (.aload 0, 21) := by decide +kernel
theorem c_197_21 : aCod 197 21 = some (.iload 1, 22) := by decide +kernel
theorem c_197_22 : aCod 197 22 = some (.sipush 1, 23) := by decide +kernel
theorem c_197_23 : aCod 197 23 = some (.invokevirtual 195, 26) := by decide +kernel
theorem c_197_26 : aCod 197 26 = some (.iload 2, 27) := by decide +kernel
theorem c_197_27 : aCod 197 27 = some (.ifCond .ne 37, 30) := by decide +kernel
theorem c_197_30 : aCod 197 30 = some (.aload 0, 31) := by decide +kernel
theorem c_197_31 : aCod 197 31 = some (.getfield 2368, 34) := by decide +kernel
theorem c_197_34 : aCod 197 34 = some (.goto 41, 37) := by decide +kernel
theorem c_197_37 : aCod 197 37 = some (.aload 0, 38) := by decide +kernel
theorem c_197_38 : aCod 197 38 = some (.getfield 2369, 41) := by decide +kernel
theorem c_197_41 : aCod 197 41 = some (.ireturn, 42) := by decide +kernel
theorem c_198_0 : aCod 198 0 = some (.sipush 0, 1) := by decide +kernel
theorem c_198_1 : aCod 198 1 = some (.istore 1, 2) := by decide +kernel
theorem c_198_2 : aCod 198 2 = some (.sipush 0, 3) := by decide +kernel
theorem c_198_3 : aCod 198 3 = some (.istore 2, 4) := by decide +kernel
theorem c_198_4 : aCod 198 4 = some (.iload 2, 5) := by decide +kernel
theorem c_198_5 : aCod 198 5 = some (.aload 0, 6) := by decide +kernel
theorem c_198_6 : aCod 198 6 = some (.invokevirtual 161, 9) := by decide +kernel
theorem c_198_9 : aCod 198 9 = some (.if_icmp .ge 46, 12) := by decide +kernel
theorem c_198_12 : aCod 198 12 = some (.aload 0, 13) := by decide +kernel
theorem c_198_13 : aCod 198 13 = some (.iload 2, 14) := by decide +kernel
theorem c_198_14 : aCod 198 14 = some (.invokevirtual 163, 17) := by decide +kernel
theorem c_198_17 : aCod 198 17 = some (.ifCond .ne 40, 20) := by decide +kernel
theorem c_198_20 : aCod 198 20 = some (.aload 0, 21) := by decide +kernel
theorem c_198_21 : aCod 198 21 = some (.getfield 2362, 24) := by decide +kernel
theorem c_198_24 : aCod 198 24 = some (.sipush 0, 25) := by decide +kernel
theorem c_198_25 : aCod 198 25 = some (.iaload, 26) := by decide +kernel
theorem c_198_26 : aCod 198 26 = some (.aload 0, 27) := by decide +kernel
theorem c_198_27 : aCod 198 27 = some (.iload 2, 28) := by decide +kernel
theorem c_198_28 : aCod 198 28 = some (.invokevirtual 166, 31) := by decide +kernel
theorem c_198_31 : aCod 198 31 = some (.if_icmp .le 40, 34) := by decide +kernel
theorem c_198_34 : aCod 198 34 = some (.iload 1, 35) := by decide +kernel
theorem c_198_35 : aCod 198 35 = some (.sipush 1, 36) := by decide +kernel
theorem c_198_36 : aCod 198 36 = some (.iload 2, 37) := by decide +kernel
theorem c_198_37 : aCod 198 37 = some (.ishl, 38) := by decide +kernel
theorem c_198_38 : aCod 198 38 = some (.ior, 39) := by decide +kernel
theorem c_198_39 : aCod 198 39 = some (.istore 1, 40) := by decide +kernel
theorem c_198_40 : aCod 198 40 = some (.iinc 2 1, 43) := by decide +kernel
theorem c_198_43 : aCod 198 43 = some (.goto 4, 46) := by decide +kernel
theorem c_198_46 : aCod 198 46 = some (.iload 1, 47) := by decide +kernel
theorem c_198_47 : aCod 198 47 = some (.ireturn, 48) := by decide +kernel
theorem c_199_0 : aCod 199 0 = some (.sipush 0, 1) := by decide +kernel
theorem c_199_1 : aCod 199 1 = some (.istore 2, 2) := by decide +kernel
theorem c_199_2 : aCod 199 2 = some (.sipush 0, 3) := by decide +kernel
theorem c_199_3 : aCod 199 3 = some (.istore 3, 4) := by decide +kernel
theorem c_199_4 : aCod 199 4 = some (.iload 3, 5) := by decide +kernel
theorem c_199_5 : aCod 199 5 = some (.aload 0, 6) := by decide +kernel
theorem c_199_6 : aCod 199 6 = some (.invokevirtual 161, 9) := by decide +kernel
theorem c_199_9 : aCod 199 9 = some (.if_icmp .ge 41, 12) := by decide +kernel
theorem c_199_12 : aCod 199 12 = some (.iload 1, 13) := by decide +kernel
theorem c_199_13 : aCod 199 13 = some (.iload 3, 14) := by decide +kernel
theorem c_199_14 : aCod 199 14 = some (.ishr, 15) := by decide +kernel
theorem c_199_15 : aCod 199 15 = some (.sipush 1, 16) := by decide +kernel
theorem c_199_16 : aCod 199 16 = some (.iand, 17) := by decide +kernel
theorem c_199_17 : aCod 199 17 = some (.sipush 1, 18) := by decide +kernel
theorem c_199_18 : aCod 199 18 = some (.if_icmp .ne 35, 21) := by decide +kernel
theorem c_199_21 : aCod 199 21 = some (.iload 2, 22) := by decide +kernel
theorem c_199_22 : aCod 199 22 = some (.aload 0, 23) := by decide +kernel
theorem c_199_23 : aCod 199 23 = some (.getfield 2353, 26) := by decide +kernel
theorem c_199_26 : aCod 199 26 = some (.sipush 34, 28) := by decide +kernel
theorem c_199_28 : aCod 199 28 = some (.sipush 4, 29) := by decide +kernel
theorem c_199_29 : aCod 199 29 = some (.iload 3, 30) := by decide +kernel
theorem c_199_30 : aCod 199 30 = some (.imul, 31) := by decide +kernel
theorem c_199_31 : aCod 199 31 = some (.iadd, 32) := by decide +kernel
theorem c_199_32 : aCod 199 32 = some (.iaload, 33) := by decide +kernel
theorem c_199_33 : aCod 199 33 = some (.iadd, 34) := by decide +kernel
theorem c_199_34 : aCod 199 34 = some (.istore 2, 35) := by decide +kernel
theorem c_199_35 : aCod 199 35 = some (.iinc 3 1, 38) := by decide +kernel
theorem c_199_38 : aCod 199 38 = some (.goto 4, 41) := by decide +kernel
theorem c_199_41 : aCod 199 41 = some (.iload 2, 42) := by decide +kernel
theorem c_199_42 : aCod 199 42 = some (.ireturn, 43) := by decide +kernel
theorem c_200_0 : aCod 200 0 = some (.sipush 0, 1) := by decide +kernel
theorem c_200_1 : aCod 200 1 = some (.istore 2, 2) := by decide +kernel
theorem c_200_2 : aCod 200 2 = some (.sipush 0, 3) := by decide +kernel
theorem c_200_3 : aCod 200 3 = some (.istore 3, 4) := by decide +kernel
theorem c_200_4 : aCod 200 4 = some (.iload 3, 5) := by decide +kernel
theorem c_200_5 : aCod 200 5 = some (.aload 0, 6) := by decide +kernel
theorem c_200_6 : aCod 200 6 = some (.invokevirtual 161, 9) := by decide +kernel
theorem c_200_9 : aCod 200 9 = some (.if_icmp .ge 47, 12) := by decide +kernel
theorem c_200_12 : aCod 200 12 = some (.iload 1, 13) := by decide +kernel
theorem c_200_13 : aCod 200 13 = some (.iload 3, 14) := by decide +kernel
theorem c_200_14 : aCod 200 14 = some (.ishr, 15) := by decide +kernel
theorem c_200_15 : aCod 200 15 = some (.sipush 1, 16) := by decide +kernel
theorem c_200_16 : aCod 200 16 = some (.iand, 17) := by decide +kernel
theorem c_200_17 : aCod 200 17 = some (.ifCond .ne 23, 20) := by decide +kernel
theorem c_200_20 : aCod 200 20 = some (.goto 41, 23) := by decide +kernel
theorem c_200_23 : aCod 200 23 = some (.aload 0, 24) := by decide +kernel
theorem c_200_24 : aCod 200 24 = some (.iload 3, 25) := by decide +kernel
theorem c_200_25 : aCod 200 25 = some (.invokevirtual 172, 28) := by decide +kernel
theorem c_200_28 : aCod 200 28 = some (.ifCond .ne 33, 31) := by decide +kernel
theorem c_200_31 : aCod 200 31 = some (.sipush (-1), 32) := by decide +kernel
theorem c_200_32 : aCod 200 32 = some (.ireturn, 33) := by decide +kernel
theorem c_200_33 : aCod 200 33 = some (.iload 2, 34) := by decide +kernel
theorem c_200_34 : aCod 200 34 = some (.aload 0, 35) := by decide +kernel
theorem c_200_35 : aCod 200 35 = some (.iload 3, 36) := by decide +kernel
theorem c_200_36 : aCod 200 36 = some (.invokevirtual 173, 39) := by decide +kernel
theorem c_200_39 : aCod 200 39 = some (.iadd, 40) := by decide +kernel
theorem c_200_40 : aCod 200 40 = some (.istore 2, 41) := by decide +kernel
theorem c_200_41 : aCod 200 41 = some (.iinc 3 1, 44) := by decide +kernel
theorem c_200_44 : aCod 200 44 = some (.goto 4, 47) := by decide +kernel
theorem c_200_47 : aCod 200 47 = some (.iload 2, 48) := by decide +kernel
theorem c_200_48 : aCod 200 48 = some (.ireturn, 49) := by decide +kernel
theorem c_201_0 : aCod 201 0 = some (.aload 0, 1) := by decide +kernel
theorem c_201_1 : aCod 201 1 = some (.getfield 2360, 4) := by decide +kernel
theorem c_201_4 : aCod 201 4 = some (.ifCond .eq 19, 7) := by decide +kernel
theorem c_201_7 : aCod 201 7 = some (.iload 1, 8) := by decide +kernel
theorem c_201_8 : aCod 201 8 = some (.i2l, 9) := by decide +kernel
theorem c_201_9 : aCod 201 9 = some (.goto_w 0, 10) := by decide +kernel
theorem c_201_10 : aCod 201 10 = some (.goto_w 2, 13) := by decide +kernel
theorem c_201_13 : aCod 201 13 = some (.invokestatic 130, 16) := by decide +kernel
theorem c_201_16 : aCod 201 16 = some (.ifCond .ne 21, 19) := by decide +kernel
theorem c_201_19 : aCod 201 19 = some (.sipush (-1), 20) := by decide +kernel
theorem c_201_20 : aCod 201 20 = some (.ireturn, 21) := by decide +kernel
theorem c_201_21 : aCod 201 21 = some (.sipush 0, 22) := by decide +kernel
theorem c_201_22 : aCod 201 22 = some (.istore 2, 23) := by decide +kernel
theorem c_201_23 : aCod 201 23 = some (.sipush 0, 24) := by decide +kernel
theorem c_201_24 : aCod 201 24 = some (.istore 3, 25) := by decide +kernel
theorem c_201_25 : aCod 201 25 = some (.aload 0, 26) := by decide +kernel
theorem c_201_26 : aCod 201 26 = some (.invokevirtual 177, 29) := by decide +kernel
theorem c_201_29 : aCod 201 29 = some (.sipush 1, 30) := by decide +kernel
theorem c_201_30 : aCod 201 30 = some (.istore 4, 32) := by decide +kernel
theorem c_201_32 : aCod 201 32 = some (.iload 4, 34) := by decide +kernel
theorem c_201_34 : aCod 201 34 = some (.sipush 1, 35) := by decide +kernel
theorem c_201_35 : aCod 201 35 = some (.aload 0, 36) := by decide +kernel
theorem c_201_36 : aCod 201 36 = some (.invokevirtual 161, 39) := by decide +kernel
theorem c_201_39 : aCod 201 39 = some (.ishl, 40) := by decide +kernel
theorem c_201_40 : aCod 201 40 = some (.if_icmp .ge 113, 43) := by decide +kernel
theorem c_201_43 : aCod 201 43 = some (.aload 0, 44) := by decide +kernel
theorem c_201_44 : aCod 201 44 = some (.iload 4, 46) := by decide +kernel
theorem c_201_46 : aCod 201 46 = some (.invokevirtual 199, 49) := by decide +kernel
theorem c_201_49 : aCod 201 49 = some (.istore 5, 51) := by decide +kernel
theorem c_201_51 : aCod 201 51 = some (.iload 5, 53) := by decide +kernel
theorem c_201_53 : aCod 201 53 = some (.aload 0, 54) := by decide +kernel
theorem c_201_54 : aCod 201 54 = some (.iload 2, 55) := by decide +kernel
theorem c_201_55 : aCod 201 55 = some (.invokevirtual 199, 58) := by decide +kernel
theorem c_201_58 : aCod 201 58 = some (.if_icmp .ge 64, 61) := by decide +kernel
theorem c_201_61 : aCod 201 61 = some (.goto 107, 64) := by decide +kernel
theorem c_201_64 : aCod 201 64 = some (.aload 0, 65) := by decide +kernel
theorem c_201_65 : aCod 201 65 = some (.iload 4, 67) := by decide +kernel
theorem c_201_67 : aCod 201 67 = some (.invokevirtual 200, 70) := by decide +kernel
theorem c_201_70 : aCod 201 70 = some (.istore 6, 72) := by decide +kernel
theorem c_201_72 : aCod 201 72 = some (.aload 0, 73) := by decide +kernel
theorem c_201_73 : aCod 201 73 = some (.invokevirtual 179, 76) := by decide +kernel
theorem c_201_76 : aCod 201 76 = some (.iload 6, 78) := by decide +kernel
theorem c_201_78 : aCod 201 78 = some (.sipush (-1), 79) := by decide +kernel
theorem c_201_79 : aCod 201 79 = some (.if_icmp .eq 107, 82) := by decide +kernel
theorem c_201_82 : aCod 201 82 = some (.iload 5, 84) := by decide +kernel
theorem c_201_84 : aCod 201 84 = some (.aload 0, 85) := by decide +kernel
theorem c_201_85 : aCod 201 85 = some (.iload 2, 86) := by decide +kernel
theorem c_201_86 : aCod 201 86 = some (.invokevirtual 199, 89) := by decide +kernel
theorem c_201_89 : aCod 201 89 = some (.if_icmp .ne 101, 92) := by decide +kernel
theorem c_201_92 : aCod 201 92 = some (.iload 6, 94) := by decide +kernel
theorem c_201_94 : aCod 201 94 = some (.iload 3, 95) := by decide +kernel
theorem c_201_95 : aCod 201 95 = some (.if_icmp .lt 101, 98) := by decide +kernel
theorem c_201_98 : aCod 201 98 = some (.goto 107, 101) := by decide +kernel
theorem c_201_101 : aCod 201 101 = some (.iload 4, 103) := by decide +kernel
theorem c_201_103 : aCod 201 103 = some (.istore 2, 104) := by decide +kernel
theorem c_201_104 : aCod 201 104 = some (.iload 6, 106) := by decide +kernel
theorem c_201_106 : aCod 201 106 = some (.istore 3, 107) := by decide +kernel
theorem c_201_107 : aCod 201 107 = some (.iinc 4 1, 110) := by decide +kernel
theorem c_201_110 : aCod 201 110 = some (.goto 32, 113) := by decide +kernel
theorem c_201_113 : aCod 201 113 = some (.aload 0, 114) := by decide +kernel
theorem c_201_114 : aCod 201 114 = some (.invokevirtual 178, 117) := by decide +kernel
theorem c_201_117 : aCod 201 117 = some (.iload 1, 118) := by decide +kernel
theorem c_201_118 : aCod 201 118 = some (.ifCond .ne 125, 121) := by decide +kernel
theorem c_201_121 : aCod 201 121 = some (.iload 2, 122) := by decide +kernel
theorem c_201_122 : aCod 201 122 = some (.goto 139, 125) := by decide +kernel
theorem c_201_125 : aCod 201 125 = some (.iload 1, 126) := by decide +kernel
theorem c_201_126 : aCod 201 126 = some (.sipush 1, 127) := by decide +kernel
theorem c_201_127 : aCod 201 127 = some (.if_icmp .ne 138, 130) := by decide +kernel
theorem c_201_130 : aCod 201 130 = some (.aload 0, 131) := by decide +kernel
theorem c_201_131 : aCod 201 131 = some (.iload 2, 132) := by decide +kernel
theorem c_201_132 : aCod 201 132 = some (.invokevirtual 199, 135) := by decide +kernel
theorem c_201_135 : aCod 201 135 = some (.goto 139, 138) := by decide +kernel
theorem c_201_138 : aCod 201 138 = some (.iload 3, 139) := by decide +kernel
theorem c_201_139 : aCod 201 139 = some (.ireturn, 140) := by decide +kernel
theorem c_202_0 : aCod 202 0 = some (.aload 0, 1) := by decide +kernel
theorem c_202_1 : aCod 202 1 = some (.getfield 2360, 4) := by decide +kernel
theorem c_202_4 : aCod 202 4 = some (.ifCond .eq 25, 7) := by decide +kernel
theorem c_202_7 : aCod 202 7 = some (.iload 1, 8) := by decide +kernel
theorem c_202_8 : aCod 202 8 = some (.i2l, 9) := by decide +kernel
theorem c_202_9 : aCod 202 9 = some (.goto_w 0, 10) := by decide +kernel
theorem c_202_10 : aCod 202 10 = some (.sipush 1, 11) := by decide +kernel
theorem c_202_11 : aCod 202 11 = some (.aload 0, 12) := by decide +kernel
theorem c_202_12 : aCod 202 12 = some (.invokevirtual 161, 15) := by decide +kernel
theorem c_202_15 : aCod 202 15 = some (.ishl, 16) := by decide +kernel
theorem c_202_16 : aCod 202 16 = some (.sipush 1, 17) := by decide +kernel
theorem c_202_17 : aCod 202 17 = some (.isub, 18) := by decide +kernel
theorem c_202_18 : aCod 202 18 = some (.i2l, 19) := by decide +kernel
theorem c_202_19 : aCod 202 19 = some (.invokestatic 130, 22) := by decide +kernel
theorem c_202_22 : aCod 202 22 = some (.ifCond .ne 27, 25) := by decide +kernel
theorem c_202_25 : aCod 202 25 = some (.sipush (-1), 26) := by decide +kernel
theorem c_202_26 : aCod 202 26 = some (.ireturn, 27) := by decide +kernel
theorem c_202_27 : aCod 202 27 = some (.sipush 0, 28) := by decide +kernel
theorem c_202_28 : aCod 202 28 = some (.istore 2, 29) := by decide +kernel
theorem c_202_29 : aCod 202 29 = some (.iload 2, 30) := by decide +kernel
theorem c_202_30 : aCod 202 30 = some (.aload 0, 31) := by decide +kernel
theorem c_202_31 : aCod 202 31 = some (.invokevirtual 161, 34) := by decide +kernel
theorem c_202_34 : aCod 202 34 = some (.if_icmp .ge 62, 37) := by decide +kernel
theorem c_202_37 : aCod 202 37 = some (.iload 1, 38) := by decide +kernel
theorem c_202_38 : aCod 202 38 = some (.iload 2, 39) := by decide +kernel
theorem c_202_39 : aCod 202 39 = some (.ishr, 40) := by decide +kernel
theorem c_202_40 : aCod 202 40 = some (.sipush 1, 41) := by decide +kernel
theorem c_202_41 : aCod 202 41 = some (.iand, 42) := by decide +kernel
theorem c_202_42 : aCod 202 42 = some (.sipush 1, 43) := by decide +kernel
theorem c_202_43 : aCod 202 43 = some (.if_icmp .ne 56, 46) := by decide +kernel
theorem c_202_46 : aCod 202 46 = some (.aload 0, 47) := by decide +kernel
theorem c_202_47 : aCod 202 47 = some (.iload 2, 48) := by decide +kernel
theorem c_202_48 : aCod 202 48 = some (.invokevirtual 163, 51) := by decide +kernel
theorem c_202_51 : aCod 202 51 = some (.ifCond .eq 56, 54) := by decide +kernel
theorem c_202_54 : aCod 202 54 = some (.sipush (-1), 55) := by decide +kernel
theorem c_202_55 : aCod 202 55 = some (.ireturn, 56) := by decide +kernel
theorem c_202_56 : aCod 202 56 = some (.iinc 2 1, 59) := by decide +kernel
theorem c_202_59 : aCod 202 59 = some (.goto 29, 62) := by decide +kernel
theorem c_202_62 : aCod 202 62 = some (.iload 1, 63) := by decide +kernel
theorem c_202_63 : aCod 202 63 = some (.istore 2, 64) := by decide +kernel
theorem c_202_64 : aCod 202 64 = some (.sipush 0, 65) := by decide +kernel
theorem c_202_65 : aCod 202 65 = some (.istore 3, 66) := by decide +kernel
theorem c_202_66 : aCod 202 66 = some (.sipush 1, 67) := by decide +kernel
theorem c_202_67 : aCod 202 67 = some (.istore 4, 69) := by decide +kernel
theorem c_202_69 : aCod 202 69 = some (.aload 0, 70) := by decide +kernel
theorem c_202_70 : aCod 202 70 = some (.invokevirtual 177, 73) := by decide +kernel
theorem c_202_73 : aCod 202 73 = some (.iload 4, 75) := by decide +kernel
theorem c_202_75 : aCod 202 75 = some (.ifCond .eq 181, 78) := by decide +kernel
theorem c_202_78 : aCod 202 78 = some (.sipush 0, 79) := by decide +kernel
theorem c_202_79 : aCod 202 79 = some (.istore 5, 81) := by decide +kernel
theorem c_202_81 : aCod 202 81 = some (.iload 5, 83) := by decide +kernel
theorem c_202_83 : aCod 202 83 = some (.aload 0, 84) := by decide +kernel
theorem c_202_84 : aCod 202 84 = some (.invokevirtual 161, 87) := by decide +kernel
theorem c_202_87 : aCod 202 87 = some (.if_icmp .ge 131, 90) := by decide +kernel
theorem c_202_90 : aCod 202 90 = some (.iload 2, 91) := by decide +kernel
theorem c_202_91 : aCod 202 91 = some (.iload 5, 93) := by decide +kernel
theorem c_202_93 : aCod 202 93 = some (.ishr, 94) := by decide +kernel
theorem c_202_94 : aCod 202 94 = some (.sipush 1, 95) := by decide +kernel
theorem c_202_95 : aCod 202 95 = some (.iand, 96) := by decide +kernel
theorem c_202_96 : aCod 202 96 = some (.sipush 1, 97) := by decide +kernel
theorem c_202_97 : aCod 202 97 = some (.if_icmp .ne 125, 100) := by decide +kernel
theorem c_202_100 : aCod 202 100 = some (.aload 0, 101) := by decide +kernel
theorem c_202_101 : aCod 202 101 = some (.iload 5, 103) := by decide +kernel
theorem c_202_103 : aCod 202 103 = some (.invokevirtual 172, 106) := by decide +kernel
theorem c_202_106 : aCod 202 106 = some (.ifCond .eq 125, 109) := by decide +kernel
theorem c_202_109 : aCod 202 109 = some (.aload 0, 110) := by decide +kernel
theorem c_202_110 : aCod 202 110 = some (.iload 5, 112) := by decide +kernel
theorem c_202_112 : aCod 202 112 = some (.invokevirtual 173, 115) := by decide +kernel
theorem c_202_115 : aCod 202 115 = some (.pop, 116) := by decide +kernel
theorem c_202_116 : aCod 202 116 = some (.iload 2, 117) := by decide +kernel
theorem c_202_117 : aCod 202 117 = some (.sipush 1, 118) := by decide +kernel
theorem c_202_118 : aCod 202 118 = some (.iload 5, 120) := by decide +kernel
theorem c_202_120 : aCod 202 120 = some (.ishl, 121) := by decide +kernel
theorem c_202_121 : aCod 202 121 = some (.sipush (-1), 122) := by decide +kernel
theorem c_202_122 : aCod 202 122 = some (.ixor, 123) := by decide +kernel
theorem c_202_123 : aCod 202 123 = some (.iand, 124) := by decide +kernel
theorem c_202_124 : aCod 202 124 = some (.istore 2, 125) := by decide +kernel
theorem c_202_125 : aCod 202 125 = some (.iinc 5 1, 128) := by decide +kernel
theorem c_202_128 : aCod 202 128 = some (.goto 81, 131) := by decide +kernel
theorem c_202_131 : aCod 202 131 = some (.iload 2, 132) := by decide +kernel
theorem c_202_132 : aCod 202 132 = some (.ifCond .eq 157, 135) := by decide +kernel
theorem c_202_135 : aCod 202 135 = some (.iload 3, 136) := by decide +kernel
theorem c_202_136 : aCod 202 136 = some (.sipush 60, 138) := by decide +kernel
theorem c_202_138 : aCod 202 138 = some (.if_icmp .ge 157, 141) := by decide +kernel
theorem c_202_141 : aCod 202 141 = some (.aload 0, 142) := by decide +kernel
theorem c_202_142 : aCod 202 142 = some (.getfield 2362, 145) := by decide +kernel
theorem c_202_145 : aCod 202 145 = some (.sipush 0, 146) := by decide +kernel
theorem c_202_146 : aCod 202 146 = some (.iaload, 147) := by decide +kernel
theorem c_202_147 : aCod 202 147 = some (.sipush 999, 150) := by decide +kernel
theorem c_202_150 : aCod 202 150 = some (.if_icmp .ge 157, 153) := by decide +kernel
theorem c_202_153 : aCod 202 153 = some (.sipush 1, 154) := by decide +kernel
theorem c_202_154 : aCod 202 154 = some (.goto 158, 157) := by decide +kernel
theorem c_202_157 : aCod 202 157 = some (.sipush 0, 158) := by decide +kernel
theorem c_202_158 : aCod 202 158 = some (.istore 4, 160) := by decide +kernel
theorem c_202_160 : aCod 202 160 = some (.iload 4, 162) := by decide +kernel
theorem c_202_162 : aCod 202 162 = some (.ifCond .ne 168, 165) := by decide +kernel
theorem c_202_165 : aCod 202 165 = some (.goto 73, 168) := by decide +kernel
theorem c_202_168 : aCod 202 168 = some (.aload 0, 169) := by decide +kernel
theorem c_202_169 : aCod 202 169 = some (.sipush 0, 170) := by decide +kernel
theorem c_202_170 : aCod 202 170 = some (.sipush 0, 171) := by decide +kernel
theorem c_202_171 : aCod 202 171 = some (.sipush 0, 172) := by decide +kernel
theorem c_202_172 : aCod 202 172 = some (.invokevirtual 175, 175) := by decide +kernel
theorem c_202_175 : aCod 202 175 = some (.iinc 3 1, 178) := by decide +kernel
theorem c_202_178 : aCod 202 178 = some (.goto 73, 181) := by decide +kernel
theorem c_202_181 : aCod 202 181 = some (.aload 0, 182) := by decide +kernel
theorem c_202_182 : aCod 202 182 = some (.invokevirtual 178, 185) := by decide +kernel
theorem c_202_185 : aCod 202 185 = some (.iload 2, 186) := by decide +kernel
theorem c_202_186 : aCod 202 186 = some (.ifCond .ne 193, 189) := by decide +kernel
theorem c_202_189 : aCod 202 189 = some (.iload 3, 190) := by decide +kernel
theorem c_202_190 : aCod 202 190 = some (.goto 194, 193) := by decide +kernel
theorem c_202_193 : aCod 202 193 = some (.sipush (-1), 194) := by decide +kernel
theorem c_202_194 : aCod 202 194 = some (.ireturn, 195) := by decide +kernel
theorem c_203_0 : aCod 203 0 = some (.aload 0, 1) := by decide +kernel
theorem c_203_1 : aCod 203 1 = some (.getfield 2360, 4) := by decide +kernel
theorem c_203_4 : aCod 203 4 = some (.ifCond .eq 73, 7) := by decide +kernel
theorem c_203_7 : aCod 203 7 = some (.iload 1, 8) := by decide +kernel
theorem c_203_8 : aCod 203 8 = some (.i2l, 9) := by decide +kernel
theorem c_203_9 : aCod 203 9 = some (.goto_w 1, 10) := by decide +kernel
theorem c_203_10 : aCod 203 10 = some (.goto_w 999, 13) := by decide +kernel
theorem c_203_13 : aCod 203 13 = some (.invokestatic 130, 16) := by decide +kernel
theorem c_203_16 : aCod 203 16 = some (.ifCond .eq 73, 19) := by decide +kernel
theorem c_203_19 : aCod 203 19 = some (.iload 2, 20) := by decide +kernel
theorem c_203_20 : aCod 203 20 = some (.i2l, 21) := by decide +kernel
theorem c_203_21 : aCod 203 21 = some (.goto_w 0, 22) := by decide +kernel
theorem c_203_22 : aCod 203 22 = some (.goto_w 9999, 25) := by decide +kernel
theorem c_203_25 : aCod 203 25 = some (.invokestatic 130, 28) := by decide +kernel
theorem c_203_28 : aCod 203 28 = some (.ifCond .eq 73, 31) := by decide +kernel
theorem c_203_31 : aCod 203 31 = some (.iload 3, 32) := by decide +kernel
theorem c_203_32 : aCod 203 32 = some (.sipush (-1), 33) := by decide +kernel
theorem c_203_33 : aCod 203 33 = some (.if_icmp .eq 48, 36) := by decide +kernel
theorem c_203_36 : aCod 203 36 = some (.iload 3, 37) := by decide +kernel
theorem c_203_37 : aCod 203 37 = some (.i2l, 38) := by decide +kernel
theorem c_203_38 : aCod 203 38 = some (.goto_w 0, 39) := by decide +kernel
theorem c_203_39 : aCod 203 39 = some (.goto_w 9999, 42) := by decide +kernel
theorem c_203_42 : aCod 203 42 = some (.invokestatic 130, 45) := by decide +kernel
theorem c_203_45 : aCod 203 45 = some (.ifCond .eq 73, 48) := by decide +kernel
theorem c_203_48 : aCod 203 48 = some (.iload 4, 50) := by decide +kernel
theorem c_203_50 : aCod 203 50 = some (.i2l, 51) := by decide +kernel
theorem c_203_51 : aCod 203 51 = some (.goto_w 0, 52) := by decide +kernel
theorem c_203_52 : aCod 203 52 = some (.goto_w 2, 55) := by decide +kernel
theorem c_203_55 : aCod 203 55 = some (.invokestatic 130, 58) := by decide +kernel
theorem c_203_58 : aCod 203 58 = some (.ifCond .eq 73, 61) := by decide +kernel
theorem c_203_61 : aCod 203 61 = some (.aload 0, 62) := by decide +kernel
theorem c_203_62 : aCod 203 62 = some (.getfield 2362, 65) := by decide +kernel
theorem c_203_65 : aCod 203 65 = some (.sipush 0, 66) := by decide +kernel
theorem c_203_66 : aCod 203 66 = some (.iaload, 67) := by decide +kernel
theorem c_203_67 : aCod 203 67 = some (.sipush 999, 70) := by decide +kernel
theorem c_203_70 : aCod 203 70 = some (.if_icmp .ne 75, 73) := by decide +kernel
theorem c_203_73 : aCod 203 73 = some (.sipush (-1), 74) := by decide +kernel
theorem c_203_74 : aCod 203 74 = some (.ireturn, 75) := by decide +kernel
theorem c_203_75 : aCod 203 75 = some (.sipush 0, 76) := by decide +kernel
theorem c_203_76 : aCod 203 76 = some (.istore 5, 78) := by decide +kernel
theorem c_203_78 : aCod 203 78 = some (.sipush 1, 79) := by decide +kernel
theorem c_203_79 : aCod 203 79 = some (.aload 0, 80) := by decide +kernel
theorem c_203_80 : aCod 203 80 = some (.invokevirtual 159, 83) := by decide +kernel
theorem c_203_83 : aCod 203 83 = some (.ishl, 84) := by decide +kernel
theorem c_203_84 : aCod 203 84 = some (.sipush 1, 85) := by decide +kernel
theorem c_203_85 : aCod 203 85 = some (.isub, 86) := by decide +kernel
theorem c_203_86 : aCod 203 86 = some (.istore 6, 88) := by decide +kernel
theorem c_203_88 : aCod 203 88 = some (.sipush 0, 89) := by decide +kernel
theorem c_203_89 : aCod 203 89 = some (.istore 7, 91) := by decide +kernel
theorem c_203_91 : aCod 203 91 = some (.aload 0, 92) := by decide +kernel
theorem c_203_92 : aCod 203 92 = some (.invokevirtual 177, 95) := by decide +kernel
theorem c_203_95 : aCod 203 95 = some (.sipush 0, 96) := by decide +kernel
theorem c_203_96 : aCod 203 96 = some (.istore 8, 98) := by decide +kernel
theorem c_203_98 : aCod 203 98 = some (.iload 8, 100) := by decide +kernel
theorem c_203_100 : aCod 203 100 = some (.sipush 1, 101) := by decide +kernel
theorem c_203_101 : aCod 203 101 = some (.aload 0, 102) := by decide +kernel
theorem c_203_102 : aCod 203 102 = some (.invokevirtual 159, 105) := by decide +kernel
theorem c_203_105 : aCod 203 105 = some (.ishl, 106) := by decide +kernel
theorem c_203_106 : aCod 203 106 = some (.if_icmp .ge 182, 109) := by decide +kernel
theorem c_203_109 : aCod 203 109 = some (.aload 0, 110) := by decide +kernel
theorem c_203_110 : aCod 203 110 = some (.sipush 0, 111) := by decide +kernel
theorem c_203_111 : aCod 203 111 = some (.iload 8, 113) := by decide +kernel
theorem c_203_113 : aCod 203 113 = some (.iload 1, 114) := by decide +kernel
theorem c_203_114 : aCod 203 114 = some (.invokevirtual 175, 117) := by decide +kernel
theorem c_203_117 : aCod 203 117 = some (.aload 0, 118) := by decide +kernel
theorem c_203_118 : aCod 203 118 = some (.getfield 2362, 121) := by decide +kernel
theorem c_203_121 : aCod 203 121 = some (.sipush 1, 122) := by decide +kernel
theorem c_203_122 : aCod 203 122 = some (.iaload, 123) := by decide +kernel
theorem c_203_123 : aCod 203 123 = some (.iload 2, 124) := by decide +kernel
theorem c_203_124 : aCod 203 124 = some (.if_icmp .ne 144, 127) := by decide +kernel
theorem c_203_127 : aCod 203 127 = some (.iload 3, 128) := by decide +kernel
theorem c_203_128 : aCod 203 128 = some (.sipush (-1), 129) := by decide +kernel
theorem c_203_129 : aCod 203 129 = some (.if_icmp .eq 140, 132) := by decide +kernel
theorem c_203_132 : aCod 203 132 = some (.aload 0, 133) := by decide +kernel
theorem c_203_133 : aCod 203 133 = some (.invokevirtual 169, 136) := by decide +kernel
theorem c_203_136 : aCod 203 136 = some (.iload 3, 137) := by decide +kernel
theorem c_203_137 : aCod 203 137 = some (.if_icmp .ne 144, 140) := by decide +kernel
theorem c_203_140 : aCod 203 140 = some (.sipush 1, 141) := by decide +kernel
theorem c_203_141 : aCod 203 141 = some (.goto 145, 144) := by decide +kernel
theorem c_203_144 : aCod 203 144 = some (.sipush 0, 145) := by decide +kernel
theorem c_203_145 : aCod 203 145 = some (.istore 9, 147) := by decide +kernel
theorem c_203_147 : aCod 203 147 = some (.aload 0, 148) := by decide +kernel
theorem c_203_148 : aCod 203 148 = some (.invokevirtual 179, 151) := by decide +kernel
theorem c_203_151 : aCod 203 151 = some (.iload 9, 153) := by decide +kernel
theorem c_203_153 : aCod 203 153 = some (.ifCond .ne 159, 156) := by decide +kernel
theorem c_203_156 : aCod 203 156 = some (.goto 176, 159) := by decide +kernel
theorem c_203_159 : aCod 203 159 = some (.iinc 5 1, 162) := by decide +kernel
theorem c_203_162 : aCod 203 162 = some (.iload 6, 164) := by decide +kernel
theorem c_203_164 : aCod 203 164 = some (.iload 8, 166) := by decide +kernel
theorem c_203_166 : aCod 203 166 = some (.iand, 167) := by decide +kernel
theorem c_203_167 : aCod 203 167 = some (.istore 6, 169) := by decide +kernel
theorem c_203_169 : aCod 203 169 = some (.iload 7, 171) := by decide +kernel
theorem c_203_171 : aCod 203 171 = some (.iload 8, 173) := by decide +kernel
theorem c_203_173 : aCod 203 173 = some (.ior, 174) := by decide +kernel
theorem c_203_174 : aCod 203 174 = some (.istore 7, 176) := by decide +kernel
theorem c_203_176 : aCod 203 176 = some (.iinc 8 1, 179) := by decide +kernel
theorem c_203_179 : aCod 203 179 = some (.goto 98, 182) := by decide +kernel
theorem c_203_182 : aCod 203 182 = some (.aload 0, 183) := by decide +kernel
theorem c_203_183 : aCod 203 183 = some (.invokevirtual 178, 186) := by decide +kernel
theorem c_203_186 : aCod 203 186 = some (.iload 4, 188) := by decide +kernel
theorem c_203_188 : aCod 203 188 = some (.ifCond .ne 196, 191) := by decide +kernel
theorem c_203_191 : aCod 203 191 = some (.iload 5, 193) := by decide +kernel
theorem c_203_193 : aCod 203 193 = some (.goto 218, 196) := by decide +kernel
theorem c_203_196 : aCod 203 196 = some (.iload 4, 198) := by decide +kernel
theorem c_203_198 : aCod 203 198 = some (.sipush 1, 199) := by decide +kernel
theorem c_203_199 : aCod 203 199 = some (.if_icmp .ne 216, 202) := by decide +kernel
theorem c_203_202 : aCod 203 202 = some (.iload 5, 204) := by decide +kernel
theorem c_203_204 : aCod 203 204 = some (.ifCond .ne 211, 207) := by decide +kernel
theorem c_203_207 : aCod 203 207 = some (.sipush 0, 208) := by decide +kernel
theorem c_203_208 : aCod 203 208 = some (.goto 218, 211) := by decide +kernel
theorem c_203_211 : aCod 203 211 = some (.iload 6, 213) := by decide +kernel
theorem c_203_213 : aCod 203 213 = some (.goto 218, 216) := by decide +kernel
theorem c_203_216 : aCod 203 216 = some (.iload 7, 218) := by decide +kernel
theorem c_203_218 : aCod 203 218 = some (.ireturn, 219) := by decide +kernel
theorem c_204_0 : aCod 204 0 = some (.sipush 0, 1) := by decide +kernel
theorem c_204_1 : aCod 204 1 = some (.istore 3, 2) := by decide +kernel
theorem c_204_2 : aCod 204 2 = some (.iload 3, 3) := by decide +kernel
theorem c_204_3 : aCod 204 3 = some (.iload 2, 4) := by decide +kernel
theorem c_204_4 : aCod 204 4 = some (.if_icmp .ge 65, 7) := by decide +kernel
theorem c_204_7 : aCod 204 7 = some (.aload 0, 8) := by decide +kernel
theorem c_204_8 : aCod 204 8 = some (.getfield 2362, 11) := by decide +kernel
theorem c_204_11 : aCod 204 11 = some (.sipush 1, 12) := by decide +kernel
theorem c_204_12 : aCod 204 12 = some (.aload 0, 13) := by decide +kernel
theorem c_204_13 : aCod 204 13 = some (.getfield 2362, 16) := by decide +kernel
theorem c_204_16 : aCod 204 16 = some (.sipush 1, 17) := by decide +kernel
theorem c_204_17 : aCod 204 17 = some (.iaload, 18) := by decide +kernel
theorem c_204_18 : aCod 204 18 = some (.iload 1, 19) := by decide +kernel
theorem c_204_19 : aCod 204 19 = some (.if_icmp .le 33, 22) := by decide +kernel
theorem c_204_22 : aCod 204 22 = some (.aload 0, 23) := by decide +kernel
theorem c_204_23 : aCod 204 23 = some (.getfield 2362, 26) := by decide +kernel
theorem c_204_26 : aCod 204 26 = some (.sipush 1, 27) := by decide +kernel
theorem c_204_27 : aCod 204 27 = some (.iaload, 28) := by decide +kernel
theorem c_204_28 : aCod 204 28 = some (.iload 1, 29) := by decide +kernel
theorem c_204_29 : aCod 204 29 = some (.isub, 30) := by decide +kernel
theorem c_204_30 : aCod 204 30 = some (.goto 34, 33) := by decide +kernel
theorem c_204_33 : aCod 204 33 = some (.sipush 0, 34) := by decide +kernel
theorem c_204_34 : aCod 204 34 = some (.iastore, 35) := by decide +kernel
theorem c_204_35 : aCod 204 35 = some (.aload 0, 36) := by decide +kernel
theorem c_204_36 : aCod 204 36 = some (.sipush 0, 37) := by decide +kernel
theorem c_204_37 : aCod 204 37 = some (.sipush 0, 38) := by decide +kernel
theorem c_204_38 : aCod 204 38 = some (.sipush 0, 39) := by decide +kernel
theorem c_204_39 : aCod 204 39 = some (.invokevirtual 175, 42) := by decide +kernel
theorem c_204_42 : aCod 204 42 = some (.aload 0, 43) := by decide +kernel
theorem c_204_43 : aCod 204 43 = some (.getfield 2362, 46) := by decide +kernel
theorem c_204_46 : aCod 204 46 = some (.sipush 1, 47) := by decide +kernel
theorem c_204_47 : aCod 204 47 = some (.iaload, 48) := by decide +kernel
theorem c_204_48 : aCod 204 48 = some (.aload 0, 49) := by decide +kernel
theorem c_204_49 : aCod 204 49 = some (.getfield 2370, 52) := by decide +kernel
theorem c_204_52 : aCod 204 52 = some (.iload 3, 53) := by decide +kernel
theorem c_204_53 : aCod 204 53 = some (.iaload, 54) := by decide +kernel
theorem c_204_54 : aCod 204 54 = some (.if_icmp .eq 59, 57) := by decide +kernel
theorem c_204_57 : aCod 204 57 = some (.sipush 0, 58) := by decide +kernel
theorem c_204_58 : aCod 204 58 = some (.ireturn, 59) := by decide +kernel
theorem c_204_59 : aCod 204 59 = some (.iinc 3 1, 62) := by decide +kernel
theorem c_204_62 : aCod 204 62 = some (.goto 2, 65) := by decide +kernel
theorem c_204_65 : aCod 204 65 = some (.sipush 1, 66) := by decide +kernel
theorem c_204_66 : aCod 204 66 = some (.ireturn, 67) := by decide +kernel
theorem c_205_0 : aCod 205 0 = some (.aload 0, 1) := by decide +kernel
theorem c_205_1 : aCod 205 1 = some (.getfield 2313, 4) := by decide +kernel
theorem c_205_4 : aCod 205 4 = some (.iload 1, 5) := by decide +kernel
theorem c_205_5 : aCod 205 5 = some (.dup2, 6) := by decide +kernel
theorem c_205_6 : aCod 205 6 = some (.iaload, 7) := by decide +kernel
theorem c_205_7 : aCod 205 7 = some (.sipush 1, 8) := by decide +kernel
theorem c_205_8 : aCod 205 8 = some (.iadd, 9) := by decide +kernel
theorem c_205_9 : aCod 205 9 = some (.iastore, 10) := by decide +kernel
theorem c_205_10 : aCod 205 10 = some (.sipush (-1), 11) := by decide +kernel
theorem c_205_11 : aCod 205 11 = some (.ireturn, 12) := by decide +kernel
theorem c_206_0 : aCod 206 0 = some (.aload 0, 1) := by decide +kernel
theorem c_206_1 : aCod 206 1 = some (.getfield 2305, 4) := by decide +kernel
theorem c_206_4 : aCod 206 4 = some (.istore 1, 5) := by decide +kernel
theorem c_206_5 : aCod 206 5 = some (.aload 0, 6) := by decide +kernel
theorem c_206_6 : aCod 206 6 = some (.sipush 0, 7) := by decide +kernel
theorem c_206_7 : aCod 206 7 = some (.putfield 2305, 10) := by decide +kernel
theorem c_206_10 : aCod 206 10 = some (.aload 0, 11) := by decide +kernel
theorem c_206_11 : aCod 206 11 = some (.getfield 2360, 14) := by decide +kernel
theorem c_206_14 : aCod 206 14 = some (.ifCond .eq 51, 17) := by decide +kernel
theorem c_206_17 : aCod 206 17 = some (.iload 1, 18) := by decide +kernel
theorem c_206_18 : aCod 206 18 = some (.ifCond .eq 51, 21) := by decide +kernel
theorem c_206_21 : aCod 206 21 = some (.iload 1, 22) := by decide +kernel
theorem c_206_22 : aCod 206 22 = some (.sipush 2, 23) := by decide +kernel
theorem c_206_23 : aCod 206 23 = some (.irem, 24) := by decide +kernel
theorem c_206_24 : aCod 206 24 = some (.ifCond .ne 51, 27) := by decide +kernel
theorem c_206_27 : aCod 206 27 = some (.iload 1, 28) := by decide +kernel
theorem c_206_28 : aCod 206 28 = some (.sipush 2, 29) := by decide +kernel
theorem c_206_29 : aCod 206 29 = some (.idiv, 30) := by decide +kernel
theorem c_206_30 : aCod 206 30 = some (.sipush 10, 32) := by decide +kernel
theorem c_206_32 : aCod 206 32 = some (.if_icmp .gt 51, 35) := by decide +kernel
theorem c_206_35 : aCod 206 35 = some (.aload 0, 36) := by decide +kernel
theorem c_206_36 : aCod 206 36 = some (.getfield 2362, 39) := by decide +kernel
theorem c_206_39 : aCod 206 39 = some (.sipush 0, 40) := by decide +kernel
theorem c_206_40 : aCod 206 40 = some (.iaload, 41) := by decide +kernel
theorem c_206_41 : aCod 206 41 = some (.iload 1, 42) := by decide +kernel
theorem c_206_42 : aCod 206 42 = some (.sipush 2, 43) := by decide +kernel
theorem c_206_43 : aCod 206 43 = some (.idiv, 44) := by decide +kernel
theorem c_206_44 : aCod 206 44 = some (.iadd, 45) := by decide +kernel
theorem c_206_45 : aCod 206 45 = some (.sipush 999, 48) := by decide +kernel
theorem c_206_48 : aCod 206 48 = some (.if_icmp .le 57, 51) := by decide +kernel
theorem c_206_51 : aCod 206 51 = some (.aload 0, 52) := by decide +kernel
theorem c_206_52 : aCod 206 52 = some (.sipush 1, 53) := by decide +kernel
theorem c_206_53 : aCod 206 53 = some (.invokevirtual 205, 56) := by decide +kernel
theorem c_206_56 : aCod 206 56 = some (.ireturn, 57) := by decide +kernel
theorem c_206_57 : aCod 206 57 = some (.sipush 0, 58) := by decide +kernel
theorem c_206_58 : aCod 206 58 = some (.istore 2, 59) := by decide +kernel
theorem c_206_59 : aCod 206 59 = some (.iload 2, 60) := by decide +kernel
theorem c_206_60 : aCod 206 60 = some (.iload 1, 61) := by decide +kernel
theorem c_206_61 : aCod 206 61 = some (.sipush 2, 62) := by decide +kernel
theorem c_206_62 : aCod 206 62 = some (.idiv, 63) := by decide +kernel
theorem c_206_63 : aCod 206 63 = some (.if_icmp .ge 101, 66) := by decide +kernel
theorem c_206_66 : aCod 206 66 = some (.aload 0, 67) := by decide +kernel
theorem c_206_67 : aCod 206 67 = some (.getfield 2370, 70) := by decide +kernel
theorem c_206_70 : aCod 206 70 = some (.iload 2, 71) := by decide +kernel
theorem c_206_71 : aCod 206 71 = some (.sipush 256, 74) := by decide +kernel
theorem c_206_74 : aCod 206 74 = some (.aload 0, 75) := by decide +kernel
theorem c_206_75 : aCod 206 75 = some (.getfield 2304, 78) := by decide +kernel
theorem c_206_78 : aCod 206 78 = some (.sipush 2, 79) := by decide +kernel
theorem c_206_79 : aCod 206 79 = some (.iload 2, 80) := by decide +kernel
theorem c_206_80 : aCod 206 80 = some (.imul, 81) := by decide +kernel
theorem c_206_81 : aCod 206 81 = some (.iaload, 82) := by decide +kernel
theorem c_206_82 : aCod 206 82 = some (.imul, 83) := by decide +kernel
theorem c_206_83 : aCod 206 83 = some (.aload 0, 84) := by decide +kernel
theorem c_206_84 : aCod 206 84 = some (.getfield 2304, 87) := by decide +kernel
theorem c_206_87 : aCod 206 87 = some (.sipush 2, 88) := by decide +kernel
theorem c_206_88 : aCod 206 88 = some (.iload 2, 89) := by decide +kernel
theorem c_206_89 : aCod 206 89 = some (.imul, 90) := by decide +kernel
theorem c_206_90 : aCod 206 90 = some (.sipush 1, 91) := by decide +kernel
theorem c_206_91 : aCod 206 91 = some (.iadd, 92) := by decide +kernel
theorem c_206_92 : aCod 206 92 = some (.iaload, 93) := by decide +kernel
theorem c_206_93 : aCod 206 93 = some (.iadd, 94) := by decide +kernel
theorem c_206_94 : aCod 206 94 = some (.iastore, 95) := by decide +kernel
theorem c_206_95 : aCod 206 95 = some (.iinc 2 1, 98) := by decide +kernel
theorem c_206_98 : aCod 206 98 = some (.goto 59, 101) := by decide +kernel
theorem c_206_101 : aCod 206 101 = some (.sipush 0, 102) := by decide +kernel
theorem c_206_102 : aCod 206 102 = some (.istore 2, 103) := by decide +kernel
theorem c_206_103 : aCod 206 103 = some (.aload 0, 104) := by decide +kernel
theorem c_206_104 : aCod 206 104 = some (.sipush (-1), 105) := by decide +kernel
theorem c_206_105 : aCod 206 105 = some (.putfield 2371, 108) := by decide +kernel
theorem c_206_108 : aCod 206 108 = some (.aload 0, 109) := by decide +kernel
theorem c_206_109 : aCod 206 109 = some (.sipush (-1), 110) := by decide +kernel
theorem c_206_110 : aCod 206 110 = some (.putfield 2372, 113) := by decide +kernel
theorem c_206_113 : aCod 206 113 = some (.aload 0, 114) := by decide +kernel
theorem c_206_114 : aCod 206 114 = some (.invokevirtual 177, 117) := by decide +kernel
theorem c_206_117 : aCod 206 117 = some (.sipush 0, 118) := by decide +kernel
theorem c_206_118 : aCod 206 118 = some (.istore 3, 119) := by decide +kernel
theorem c_206_119 : aCod 206 119 = some (.iload 3, 120) := by decide +kernel
theorem c_206_120 : aCod 206 120 = some (.sipush 999, 123) := by decide +kernel
theorem c_206_123 : aCod 206 123 = some (.if_icmp .gt 175, 126) := by decide +kernel
theorem c_206_126 : aCod 206 126 = some (.aload 0, 127) := by decide +kernel
theorem c_206_127 : aCod 206 127 = some (.iload 3, 128) := by decide +kernel
theorem c_206_128 : aCod 206 128 = some (.iload 1, 129) := by decide +kernel
theorem c_206_129 : aCod 206 129 = some (.sipush 2, 130) := by decide +kernel
theorem c_206_130 : aCod 206 130 = some (.idiv, 131) := by decide +kernel
theorem c_206_131 : aCod 206 131 = some (.invokevirtual 204, 134) := by decide +kernel
theorem c_206_134 : aCod 206 134 = some (.istore 4, 136) := by decide +kernel
theorem c_206_136 : aCod 206 136 = some (.aload 0, 137) := by decide +kernel
theorem c_206_137 : aCod 206 137 = some (.invokevirtual 179, 140) := by decide +kernel
theorem c_206_140 : aCod 206 140 = some (.iload 4, 142) := by decide +kernel
theorem c_206_142 : aCod 206 142 = some (.ifCond .ne 148, 145) := by decide +kernel
theorem c_206_145 : aCod 206 145 = some (.goto 169, 148) := by decide +kernel
theorem c_206_148 : aCod 206 148 = some (.iinc 2 1, 151) := by decide +kernel
theorem c_206_151 : aCod 206 151 = some (.aload 0, 152) := by decide +kernel
theorem c_206_152 : aCod 206 152 = some (.getfield 2371, 155) := by decide +kernel
theorem c_206_155 : aCod 206 155 = some (.sipush (-1), 156) := by decide +kernel
theorem c_206_156 : aCod 206 156 = some (.if_icmp .ne 164, 159) := by decide +kernel
theorem c_206_159 : aCod 206 159 = some (.aload 0, 160) := by decide +kernel
theorem c_206_160 : aCod 206 160 = some (.iload 3, 161) := by decide +kernel
theorem c_206_161 : aCod 206 161 = some (.putfield 2371, 164) := by decide +kernel
theorem c_206_164 : aCod 206 164 = some (.aload 0, 165) := by decide +kernel
theorem c_206_165 : aCod 206 165 = some (.iload 3, 166) := by decide +kernel
theorem c_206_166 : aCod 206 166 = some (.putfield 2372, 169) := by decide +kernel
theorem c_206_169 : aCod 206 169 = some (.iinc 3 1, 172) := by decide +kernel
theorem c_206_172 : aCod 206 172 = some (.goto 119, 175) := by decide +kernel
theorem c_206_175 : aCod 206 175 = some (.aload 0, 176) := by decide +kernel
theorem c_206_176 : aCod 206 176 = some (.invokevirtual 178, 179) := by decide +kernel
theorem c_206_179 : aCod 206 179 = some (.iload 2, 180) := by decide +kernel
theorem c_206_180 : aCod 206 180 = some (.ireturn, 181) := by decide +kernel
theorem c_207_0 : aCod 207 0 = some (.iload 1, 1) := by decide +kernel
theorem c_207_1 : aCod 207 1 = some (.ifCond .ne 11, 4) := by decide +kernel
theorem c_207_4 : aCod 207 4 = some (.aload 0, 5) := by decide +kernel
theorem c_207_5 : aCod 207 5 = some (.getfield 2371, 8) := by decide +kernel
theorem c_207_8 : aCod 207 8 = some (.goto 24, 11) := by decide +kernel
theorem c_207_11 : aCod 207 11 = some (.iload 1, 12) := by decide +kernel
theorem c_207_12 : aCod 207 12 = some (.sipush 1, 13) := by decide +kernel
theorem c_207_13 : aCod 207 13 = some (.if_icmp .ne 23, 16) := by decide +kernel
theorem c_207_16 : aCod 207 16 = some (.aload 0, 17) := by decide +kernel
theorem c_207_17 : aCod 207 17 = some (.getfield 2372, 20) := by decide +kernel
theorem c_207_20 : aCod 207 20 = some (.goto 24, 23) := by decide +kernel
theorem c_207_23 : aCod 207 23 = some (.sipush (-1), 24) := by decide +kernel
theorem c_207_24 : aCod 207 24 = some (.ireturn, 25) := by decide +kernel
theorem c_208_0 : aCod 208 0 = some (.aload 0, 1) := by decide +kernel
theorem c_208_1 : aCod 208 1 = some (.getfield 2349, 4) := by decide +kernel
theorem c_208_4 : aCod 208 4 = some (.sipush 40, 6) := by decide +kernel
theorem c_208_6 : aCod 208 6 = some (.iload 1, 7) := by decide +kernel
theorem c_208_7 : aCod 208 7 = some (.iadd, 8) := by decide +kernel
theorem c_208_8 : aCod 208 8 = some (.laload, 9) := by decide +kernel
theorem c_208_9 : aCod 208 9 = some (.iload 2, 10) := by decide +kernel
theorem c_208_10 : aCod 208 10 = some (.invokestatic 187, 13) := by decide +kernel
theorem c_208_13 : aCod 208 13 = some (.lstore 3, 14) := by decide +kernel
theorem c_208_14 : aCod 208 14 = some (.sipush 0, 15) := by decide +kernel
theorem c_208_15 : aCod 208 15 = some (.istore 5, 17) := by decide +kernel
theorem c_208_17 : aCod 208 17 = some (.iload 5, 19) := by decide +kernel
theorem c_208_19 : aCod 208 19 = some (.aload 0, 20) := by decide +kernel
theorem c_208_20 : aCod 208 20 = some (.invokevirtual 161, 23) := by decide +kernel
theorem c_208_23 : aCod 208 23 = some (.if_icmp .ge 76, 26) := by decide +kernel
theorem c_208_26 : aCod 208 26 = some (.iload 5, 28) := by decide +kernel
theorem c_208_28 : aCod 208 28 = some (.iload 1, 29) := by decide +kernel
theorem c_208_29 : aCod 208 29 = some (.if_icmp .eq 70, 32) := by decide +kernel
theorem c_208_32 : aCod 208 32 = some (.aload 0, 33) := by decide +kernel
theorem c_208_33 : aCod 208 33 = some (.getfield 2349, 36) := by decide +kernel
theorem c_208_36 : aCod 208 36 = some (.sipush 40, 38) := by decide +kernel
theorem c_208_38 : aCod 208 38 = some (.iload 5, 40) := by decide +kernel
theorem c_208_40 : aCod 208 40 = some (.iadd, 41) := by decide +kernel
theorem c_208_41 : aCod 208 41 = some (.laload, 42) := by decide +kernel
theorem c_208_42 : aCod 208 42 = some (.invokestatic 186, 45) := by decide +kernel
theorem c_208_45 : aCod 208 45 = some (.iload 2, 46) := by decide +kernel
theorem c_208_46 : aCod 208 46 = some (.if_icmp .lt 70, 49) := by decide +kernel
theorem c_208_49 : aCod 208 49 = some (.aload 0, 50) := by decide +kernel
theorem c_208_50 : aCod 208 50 = some (.getfield 2349, 53) := by decide +kernel
theorem c_208_53 : aCod 208 53 = some (.sipush 40, 55) := by decide +kernel
theorem c_208_55 : aCod 208 55 = some (.iload 5, 57) := by decide +kernel
theorem c_208_57 : aCod 208 57 = some (.iadd, 58) := by decide +kernel
theorem c_208_58 : aCod 208 58 = some (.laload, 59) := by decide +kernel
theorem c_208_59 : aCod 208 59 = some (.iload 2, 60) := by decide +kernel
theorem c_208_60 : aCod 208 60 = some (.invokestatic 187, 63) := by decide +kernel
theorem c_208_63 : aCod 208 63 = some (.lload 3, 64) := by decide +kernel
theorem c_208_64 : aCod 208 64 = some (.lcmp, 65) := by decide +kernel
theorem c_208_65 : aCod 208 65 = some (.ifCond .ne 70, 68) := by decide +kernel
theorem c_208_68 : aCod 208 68 = some (.sipush 1, 69) := by decide +kernel
theorem c_208_69 : aCod 208 69 = some (.ireturn, 70) := by decide +kernel
theorem c_208_70 : aCod 208 70 = some (.iinc 5 1, 73) := by decide +kernel
theorem c_208_73 : aCod 208 73 = some (.goto 17, 76) := by decide +kernel
theorem c_208_76 : aCod 208 76 = some (.sipush 0, 77) := by decide +kernel
theorem c_208_77 : aCod 208 77 = some (.ireturn, 78) := by decide +kernel
theorem c_209_0 : aCod 209 0 = some (.aload 0, 1) := by decide +kernel
theorem c_209_1 : aCod 209 1 = some (.iload 1, 2) := by decide +kernel
theorem c_209_2 : aCod 209 2 = some (.invokevirtual 162, 5) := by decide +kernel
theorem c_209_5 : aCod 209 5 = some (.ifCond .ne 10, 8) := by decide +kernel
theorem c_209_8 : aCod 209 8 = some (.sipush (-1), 9) := by decide +kernel
theorem c_209_9 : aCod 209 9 = some (.ireturn, 10) := by decide +kernel
theorem c_209_10 : aCod 209 10 = some (.aload 0, 11) := by decide +kernel
theorem c_209_11 : aCod 209 11 = some (.getfield 2349, 14) := by decide +kernel
theorem c_209_14 : aCod 209 14 = some (.sipush 40, 16) := by decide +kernel
theorem c_209_16 : aCod 209 16 = some (.iload 1, 17) := by decide +kernel
theorem c_209_17 : aCod 209 17 = some (.iadd, 18) := by decide +kernel
theorem c_209_18 : aCod 209 18 = some (.laload, 19) := by decide +kernel
theorem c_209_19 : aCod 209 19 = some (.invokestatic 186, 22) := by decide +kernel
theorem c_209_22 : aCod 209 22 = some (.istore 2, 23) := by decide +kernel
theorem c_209_23 : aCod 209 23 = some (.sipush 1, 24) := by decide +kernel
theorem c_209_24 : aCod 209 24 = some (.istore 3, 25) := by decide +kernel
theorem c_209_25 : aCod 209 25 = some (.iload 3, 26) := by decide +kernel
theorem c_209_26 : aCod 209 26 = some (.iload 2, 27) := by decide +kernel
theorem c_209_27 : aCod 209 27 = some (.if_icmp .ge 45, 30) := by decide +kernel
theorem c_209_30 : aCod 209 30 = some (.aload 0, 31) := by decide +kernel
theorem c_209_31 : aCod 209 31 = some (.iload 1, 32) := by decide +kernel
theorem c_209_32 : aCod 209 32 = some (.iload 3, 33) := by decide +kernel
theorem c_209_33 : aCod 209 33 = some (.invokevirtual 208, 36) := by decide +kernel
theorem c_209_36 : aCod 209 36 = some (.ifCond .eq 45, 39) := by decide +kernel
theorem c_209_39 : aCod 209 39 = some (.iinc 3 1, 42) := by decide +kernel
theorem c_209_42 : aCod 209 42 = some (.goto 25, 45) := by decide +kernel
theorem c_209_45 : aCod 209 45 = some (.iload 3, 46) := by decide +kernel
theorem c_209_46 : aCod 209 46 = some (.ireturn, 47) := by decide +kernel
theorem c_210_0 : aCod 210 0 = some (.aload 0, 1) := by decide +kernel
theorem c_210_1 : aCod 210 1 = some (.aload 0, 2) := by decide +kernel
theorem c_210_2 : aCod 210 2 = some (.getfield 2375, 5) := by decide +kernel
theorem c_210_5 : aCod 210 5 = some (.sipush 1, 6) := by decide +kernel
theorem c_210_6 : aCod 210 6 = some (.iadd, 7) := by decide +kernel
theorem c_210_7 : aCod 210 7 = some (.sipush 20, 9) := by decide +kernel
theorem c_210_9 : aCod 210 9 = some (.irem, 10) := by decide +kernel
theorem c_210_10 : aCod 210 10 = some (.putfield 2375, 13) := by decide +kernel
theorem c_210_13 : aCod 210 13 = some (.sipush 0, 14) := by decide +kernel
theorem c_210_14 : aCod 210 14 = some (.istore 1, 15) := by decide +kernel
theorem c_210_15 : aCod 210 15 = some (.iload 1, 16) := by decide +kernel
theorem c_210_16 : aCod 210 16 = some (.sipush 188, 19) := by decide +kernel
theorem c_210_19 : aCod 210 19 = some (.if_icmp .ge 49, 22) := by decide +kernel
theorem c_210_22 : aCod 210 22 = some (.aload 0, 23) := by decide +kernel
theorem c_210_23 : aCod 210 23 = some (.getfield 2373, 26) := by decide +kernel
theorem c_210_26 : aCod 210 26 = some (.sipush 188, 29) := by decide +kernel
theorem c_210_29 : aCod 210 29 = some (.aload 0, 30) := by decide +kernel
theorem c_210_30 : aCod 210 30 = some (.getfield 2375, 33) := by decide +kernel
theorem c_210_33 : aCod 210 33 = some (.imul, 34) := by decide +kernel
theorem c_210_34 : aCod 210 34 = some (.iload 1, 35) := by decide +kernel
theorem c_210_35 : aCod 210 35 = some (.iadd, 36) := by decide +kernel
theorem c_210_36 : aCod 210 36 = some (.aload 0, 37) := by decide +kernel
theorem c_210_37 : aCod 210 37 = some (.getfield 2362, 40) := by decide +kernel
theorem c_210_40 : aCod 210 40 = some (.iload 1, 41) := by decide +kernel
theorem c_210_41 : aCod 210 41 = some (.iaload, 42) := by decide +kernel
theorem c_210_42 : aCod 210 42 = some (.iastore, 43) := by decide +kernel
theorem c_210_43 : aCod 210 43 = some (.iinc 1 1, 46) := by decide +kernel
theorem c_210_46 : aCod 210 46 = some (.goto 15, 49) := by decide +kernel
theorem c_210_49 : aCod 210 49 = some (.aload 0, 50) := by decide +kernel
theorem c_210_50 : aCod 210 50 = some (.getfield 2374, 53) := by decide +kernel
theorem c_210_53 : aCod 210 53 = some (.sipush 20, 55) := by decide +kernel
theorem c_210_55 : aCod 210 55 = some (.if_icmp .ge 68, 58) := by decide +kernel
theorem c_210_58 : aCod 210 58 = some (.aload 0, 59) := by decide +kernel
theorem c_210_59 : aCod 210 59 = some (.dup, 60) := by decide +kernel
theorem c_210_60 : aCod 210 60 = some (.getfield 2374, 63) := by decide +kernel
theorem c_210_63 : aCod 210 63 = some (.sipush 1, 64) := by decide +kernel
theorem c_210_64 : aCod 210 64 = some (.iadd, 65) := by decide +kernel
theorem c_210_65 : aCod 210 65 = some (.putfield 2374, 68) := by decide +kernel
theorem c_210_68 : aCod 210 68 = some (.return_, 69) := by decide +kernel
theorem c_211_0 : aCod 211 0 = some (.aload 0, 1) := by decide +kernel
theorem c_211_1 : aCod 211 1 = some (.getfield 2374, 4) := by decide +kernel
theorem c_211_4 : aCod 211 4 = some (.ifCond .ne 19, 7) := by decide +kernel
theorem c_211_7 : aCod 211 7 = some (.aload 0, 8) := by decide +kernel
theorem c_211_8 : aCod 211 8 = some (.getfield 2313, 11) := by decide +kernel
theorem c_211_11 : aCod 211 11 = some (.sipush 4, 12) := by decide +kernel
theorem c_211_12 : aCod 211 12 = some (.dup2, 13) := by decide +kernel
theorem c_211_13 : aCod 211 13 = some (.iaload, 14) := by decide +kernel
theorem c_211_14 : aCod 211 14 = some (.sipush 1, 15) := by decide +kernel
theorem c_211_15 : aCod 211 15 = some (.iadd, 16) := by decide +kernel
theorem c_211_16 : aCod 211 16 = some (.iastore, 17) := by decide +kernel
theorem c_211_17 : aCod 211 17 = some (.sipush 0, 18) := by decide +kernel
theorem c_211_18 : aCod 211 18 = some (.ireturn, 19) := by decide +kernel
theorem c_211_19 : aCod 211 19 = some (.sipush 0, 20) := by decide +kernel
theorem c_211_20 : aCod 211 20 = some (.istore 1, 21) := by decide +kernel
theorem c_211_21 : aCod 211 21 = some (.iload 1, 22) := by decide +kernel
theorem c_211_22 : aCod 211 22 = some (.sipush 188, 25) := by decide +kernel
theorem c_211_25 : aCod 211 25 = some (.if_icmp .ge 55, 28) := by decide +kernel
theorem c_211_28 : aCod 211 28 = some (.aload 0, 29) := by decide +kernel
theorem c_211_29 : aCod 211 29 = some (.getfield 2362, 32) := by decide +kernel
theorem c_211_32 : aCod 211 32 = some (.iload 1, 33) := by decide +kernel
theorem c_211_33 : aCod 211 33 = some (.aload 0, 34) := by decide +kernel
theorem c_211_34 : aCod 211 34 = some (.getfield 2373, 37) := by decide +kernel
theorem c_211_37 : aCod 211 37 = some (.sipush 188, 40) := by decide +kernel
theorem c_211_40 : aCod 211 40 = some (.aload 0, 41) := by decide +kernel
theorem c_211_41 : aCod 211 41 = some (.getfield 2375, 44) := by decide +kernel
theorem c_211_44 : aCod 211 44 = some (.imul, 45) := by decide +kernel
theorem c_211_45 : aCod 211 45 = some (.iload 1, 46) := by decide +kernel
theorem c_211_46 : aCod 211 46 = some (.iadd, 47) := by decide +kernel
theorem c_211_47 : aCod 211 47 = some (.iaload, 48) := by decide +kernel
theorem c_211_48 : aCod 211 48 = some (.iastore, 49) := by decide +kernel
theorem c_211_49 : aCod 211 49 = some (.iinc 1 1, 52) := by decide +kernel
theorem c_211_52 : aCod 211 52 = some (.goto 21, 55) := by decide +kernel
theorem c_211_55 : aCod 211 55 = some (.aload 0, 56) := by decide +kernel
theorem c_211_56 : aCod 211 56 = some (.aload 0, 57) := by decide +kernel
theorem c_211_57 : aCod 211 57 = some (.getfield 2375, 60) := by decide +kernel
theorem c_211_60 : aCod 211 60 = some (.sipush 20, 62) := by decide +kernel
theorem c_211_62 : aCod 211 62 = some (.iadd, 63) := by decide +kernel
theorem c_211_63 : aCod 211 63 = some (.sipush 1, 64) := by decide +kernel
theorem c_211_64 : aCod 211 64 = some (.isub, 65) := by decide +kernel
theorem c_211_65 : aCod 211 65 = some (.sipush 20, 67) := by decide +kernel
theorem c_211_67 : aCod 211 67 = some (.irem, 68) := by decide +kernel
theorem c_211_68 : aCod 211 68 = some (.putfield 2375, 71) := by decide +kernel
theorem c_211_71 : aCod 211 71 = some (.aload 0, 72) := by decide +kernel
theorem c_211_72 : aCod 211 72 = some (.dup, 73) := by decide +kernel
theorem c_211_73 : aCod 211 73 = some (.getfield 2374, 76) := by decide +kernel
theorem c_211_76 : aCod 211 76 = some (.sipush 1, 77) := by decide +kernel
theorem c_211_77 : aCod 211 77 = some (.isub, 78) := by decide +kernel
theorem c_211_78 : aCod 211 78 = some (.putfield 2374, 81) := by decide +kernel
theorem c_211_81 : aCod 211 81 = some (.sipush 1, 82) := by decide +kernel
theorem c_211_82 : aCod 211 82 = some (.ireturn, 83) := by decide +kernel
theorem c_212_0 : aCod 212 0 = some (.aload 0, 1) := by decide +kernel
theorem c_212_1 : aCod 212 1 = some (.iload 1, 2) := by decide +kernel
theorem c_212_2 : aCod 212 2 = some (.invokevirtual 162, 5) := by decide +kernel
theorem c_212_5 : aCod 212 5 = some (.ifCond .eq 16, 8) := by decide +kernel
theorem c_212_8 : aCod 212 8 = some (.aload 0, 9) := by decide +kernel
theorem c_212_9 : aCod 212 9 = some (.iload 1, 10) := by decide +kernel
theorem c_212_10 : aCod 212 10 = some (.invokevirtual 172, 13) := by decide +kernel
theorem c_212_13 : aCod 212 13 = some (.ifCond .ne 22, 16) := by decide +kernel
theorem c_212_16 : aCod 212 16 = some (.aload 0, 17) := by decide +kernel
theorem c_212_17 : aCod 212 17 = some (.sipush 2, 18) := by decide +kernel
theorem c_212_18 : aCod 212 18 = some (.invokevirtual 205, 21) := by decide +kernel
theorem c_212_21 : aCod 212 21 = some (.ireturn, 22) := by decide +kernel
theorem c_212_22 : aCod 212 22 = some (.aload 0, 23) := by decide +kernel
theorem c_212_23 : aCod 212 23 = some (.invokevirtual 210, 26) := by decide +kernel
theorem c_212_26 : aCod 212 26 = some (.aload 0, 27) := by decide +kernel
theorem c_212_27 : aCod 212 27 = some (.iload 1, 28) := by decide +kernel
theorem c_212_28 : aCod 212 28 = some (.invokevirtual 173, 31) := by decide +kernel
theorem c_212_31 : aCod 212 31 = some (.pop, 32) := by decide +kernel
theorem c_212_32 : aCod 212 32 = some (.aload 0, 33) := by decide +kernel
theorem c_212_33 : aCod 212 33 = some (.iload 1, 34) := by decide +kernel
theorem c_212_34 : aCod 212 34 = some (.invokevirtual 164, 37) := by decide +kernel
theorem c_212_37 : aCod 212 37 = some (.ireturn, 38) := by decide +kernel
theorem c_213_0 : aCod 213 0 = some (.aload 0, 1) := by decide +kernel
theorem c_213_1 : aCod 213 1 = some (.getfield 2360, 4) := by decide +kernel
theorem c_213_4 : aCod 213 4 = some (.ifCond .eq 33, 7) := by decide +kernel
theorem c_213_7 : aCod 213 7 = some (.iload 1, 8) := by decide +kernel
theorem c_213_8 : aCod 213 8 = some (.i2l, 9) := by decide +kernel
theorem c_213_9 : aCod 213 9 = some (.goto_w 1, 10) := by decide +kernel
theorem c_213_10 : aCod 213 10 = some (.goto_w 999, 13) := by decide +kernel
theorem c_213_13 : aCod 213 13 = some (.invokestatic 130, 16) := by decide +kernel
theorem c_213_16 : aCod 213 16 = some (.ifCond .eq 33, 19) := by decide +kernel
theorem c_213_19 : aCod 213 19 = some (.aload 0, 20) := by decide +kernel
theorem c_213_20 : aCod 213 20 = some (.getfield 2362, 23) := by decide +kernel
theorem c_213_23 : aCod 213 23 = some (.sipush 2, 24) := by decide +kernel
theorem c_213_24 : aCod 213 24 = some (.iaload, 25) := by decide +kernel
theorem c_213_25 : aCod 213 25 = some (.iload 1, 26) := by decide +kernel
theorem c_213_26 : aCod 213 26 = some (.iadd, 27) := by decide +kernel
theorem c_213_27 : aCod 213 27 = some (.sipush 9999, 30) := by decide +kernel
theorem c_213_30 : aCod 213 30 = some (.if_icmp .le 39, 33) := by decide +kernel
theorem c_213_33 : aCod 213 33 = some (.aload 0, 34) := by decide +kernel
theorem c_213_34 : aCod 213 34 = some (.sipush 2, 35) := by decide +kernel
theorem c_213_35 : aCod 213 35 = some (.invokevirtual 205, 38) := by decide +kernel
theorem c_213_38 : aCod 213 38 = some (.ireturn, 39) := by decide +kernel
theorem c_213_39 : aCod 213 39 = some (.aload 0, 40) := by decide +kernel
theorem c_213_40 : aCod 213 40 = some (.invokevirtual 210, 43) := by decide +kernel
theorem c_213_43 : aCod 213 43 = some (.aload 0, 44) := by decide +kernel
theorem c_213_44 : aCod 213 44 = some (.getfield 2362, 47) := by decide +kernel
theorem c_213_47 : aCod 213 47 = some (.sipush 2, 48) := by decide +kernel
theorem c_213_48 : aCod 213 48 = some (.dup2, 49) := by decide +kernel
theorem c_213_49 : aCod 213 49 = some (.iaload, 50) := by decide +kernel
theorem c_213_50 : aCod 213 50 = some (.iload 1, 51) := by decide +kernel
theorem c_213_51 : aCod 213 51 = some (.iadd, 52) := by decide +kernel
theorem c_213_52 : aCod 213 52 = some (.iastore, 53) := by decide +kernel
theorem c_213_53 : aCod 213 53 = some (.aload 0, 54) := by decide +kernel
theorem c_213_54 : aCod 213 54 = some (.getfield 2362, 57) := by decide +kernel
theorem c_213_57 : aCod 213 57 = some (.sipush 2, 58) := by decide +kernel
theorem c_213_58 : aCod 213 58 = some (.iaload, 59) := by decide +kernel
theorem c_213_59 : aCod 213 59 = some (.ireturn, 60) := by decide +kernel
theorem c_214_0 : aCod 214 0 = some (.aload 0, 1) := by decide +kernel
theorem c_214_1 : aCod 214 1 = some (.getfield 2360, 4) := by decide +kernel
theorem c_214_4 : aCod 214 4 = some (.ifCond .eq 18, 7) := by decide +kernel
theorem c_214_7 : aCod 214 7 = some (.aload 0, 8) := by decide +kernel
theorem c_214_8 : aCod 214 8 = some (.iload 1, 9) := by decide +kernel
theorem c_214_9 : aCod 214 9 = some (.sipush 1, 10) := by decide +kernel
theorem c_214_10 : aCod 214 10 = some (.sipush 100, 12) := by decide +kernel
theorem c_214_12 : aCod 214 12 = some (.invokevirtual 180, 15) := by decide +kernel
theorem c_214_15 : aCod 214 15 = some (.ifCond .ne 24, 18) := by decide +kernel
theorem c_214_18 : aCod 214 18 = some (.aload 0, 19) := by decide +kernel
theorem c_214_19 : aCod 214 19 = some (.sipush 3, 20) := by decide +kernel
theorem c_214_20 : aCod 214 20 = some (.invokevirtual 205, 23) := by decide +kernel
theorem c_214_23 : aCod 214 23 = some (.ireturn, 24) := by decide +kernel
theorem c_214_24 : aCod 214 24 = some (.aload 0, 25) := by decide +kernel
theorem c_214_25 : aCod 214 25 = some (.invokevirtual 210, 28) := by decide +kernel
theorem c_214_28 : aCod 214 28 = some (.aload 0, 29) := by decide +kernel
theorem c_214_29 : aCod 214 29 = some (.sipush 0, 30) := by decide +kernel
theorem c_214_30 : aCod 214 30 = some (.putfield 2367, 33) := by decide +kernel
theorem c_214_33 : aCod 214 33 = some (.aload 0, 34) := by decide +kernel
theorem c_214_34 : aCod 214 34 = some (.iload 1, 35) := by decide +kernel
theorem c_214_35 : aCod 214 35 = some (.invokevirtual 176, 38) := by decide +kernel
theorem c_214_38 : aCod 214 38 = some (.aload 0, 39) := by decide +kernel
theorem c_214_39 : aCod 214 39 = some (.getfield 2367, 42) := by decide +kernel
theorem c_214_42 : aCod 214 42 = some (.ireturn, 43) := by decide +kernel
theorem c_215_0 : aCod 215 0 = some (.iload 1, 1) := by decide +kernel
theorem c_215_1 : aCod 215 1 = some (.ifCond .ge 16, 4) := by decide +kernel
theorem c_215_4 : aCod 215 4 = some (.aload 0, 5) := by decide +kernel
theorem c_215_5 : aCod 215 5 = some (.getfield 2313, 8) := by decide +kernel
theorem c_215_8 : aCod 215 8 = some (.sipush 5, 9) := by decide +kernel
theorem c_215_9 : aCod 215 9 = some (.dup2, 10) := by decide +kernel
theorem c_215_10 : aCod 215 10 = some (.iaload, 11) := by decide +kernel
theorem c_215_11 : aCod 215 11 = some (.sipush 1, 12) := by decide +kernel
theorem c_215_12 : aCod 215 12 = some (.iadd, 13) := by decide +kernel
theorem c_215_13 : aCod 215 13 = some (.iastore, 14) := by decide +kernel
theorem c_215_14 : aCod 215 14 = some (.sipush 0, 15) := by decide +kernel
theorem c_215_15 : aCod 215 15 = some (.ireturn, 16) := by decide +kernel
theorem c_215_16 : aCod 215 16 = some (.aload 0, 17) := by decide +kernel
theorem c_215_17 : aCod 215 17 = some (.iload 1, 18) := by decide +kernel
theorem c_215_18 : aCod 215 18 = some (.i2l, 19) := by decide +kernel
theorem c_215_19 : aCod 215 19 = some (.putfield 2376, 22) := by decide +kernel
theorem c_215_22 : aCod 215 22 = some (.sipush 1, 23) := by decide +kernel
theorem c_215_23 : aCod 215 23 = some (.ireturn, 24) := by decide +kernel
theorem c_216_0 : aCod 216 0 = some (.aload 0, 1) := by decide +kernel
theorem c_216_1 : aCod 216 1 = some (.goto_w 1103515245, 4) := by decide +kernel
theorem c_216_4 : aCod 216 4 = some (.aload 0, 5) := by decide +kernel
theorem c_216_5 : aCod 216 5 = some (.getfield 2376, 8) := by decide +kernel
theorem c_216_8 : aCod 216 8 = some (.lmul, 9) := by decide +kernel
theorem c_216_9 : aCod 216 9 = some (.goto_w 12345, 12) := by decide +kernel
theorem c_216_12 : aCod 216 12 = some (.ladd, 13) := by decide +kernel
theorem c_216_13 : aCod 216 13 = some (.goto_w 2147483648, 16) := by decide +kernel
theorem c_216_16 : aCod 216 16 = some (.lrem, 17) := by decide +kernel
theorem c_216_17 : aCod 216 17 = some (.putfield 2376, 20) := by decide +kernel
theorem c_216_20 : aCod 216 20 = some (.aload 0, 21) := by decide +kernel
theorem c_216_21 : aCod 216 21 = some (.getfield 2376, 24) := by decide +kernel
theorem c_216_24 : aCod 216 24 = some (.goto_w 64, 27) := by decide +kernel
theorem c_216_27 : aCod 216 27 = some (.ldiv, 28) := by decide +kernel
theorem c_216_28 : aCod 216 28 = some (.iload 1, 29) := by decide +kernel
theorem c_216_29 : aCod 216 29 = some (.i2l, 30) := by decide +kernel
theorem c_216_30 : aCod 216 30 = some (.lrem, 31) := by decide +kernel
theorem c_216_31 : aCod 216 31 = some (.l2i, 32) := by decide +kernel
theorem c_216_32 : aCod 216 32 = some (.ireturn, 33) := by decide +kernel
theorem c_217_0 : aCod 217 0 = some (.aload 0, 1) := by decide +kernel
theorem c_217_1 : aCod 217 1 = some (.getfield 2360, 4) := by decide +kernel
theorem c_217_4 : aCod 217 4 = some (.ifCond .eq 18, 7) := by decide +kernel
theorem c_217_7 : aCod 217 7 = some (.aload 0, 8) := by decide +kernel
theorem c_217_8 : aCod 217 8 = some (.iload 1, 9) := by decide +kernel
theorem c_217_9 : aCod 217 9 = some (.sipush 1, 10) := by decide +kernel
theorem c_217_10 : aCod 217 10 = some (.sipush 100, 12) := by decide +kernel
theorem c_217_12 : aCod 217 12 = some (.invokevirtual 180, 15) := by decide +kernel
theorem c_217_15 : aCod 217 15 = some (.ifCond .ne 24, 18) := by decide +kernel
theorem c_217_18 : aCod 217 18 = some (.aload 0, 19) := by decide +kernel
theorem c_217_19 : aCod 217 19 = some (.sipush 3, 20) := by decide +kernel
theorem c_217_20 : aCod 217 20 = some (.invokevirtual 205, 23) := by decide +kernel
theorem c_217_23 : aCod 217 23 = some (.ireturn, 24) := by decide +kernel
theorem c_217_24 : aCod 217 24 = some (.aload 0, 25) := by decide +kernel
theorem c_217_25 : aCod 217 25 = some (.invokevirtual 210, 28) := by decide +kernel
theorem c_217_28 : aCod 217 28 = some (.sipush 0, 29) := by decide +kernel
theorem c_217_29 : aCod 217 29 = some (.istore 2, 30) := by decide +kernel
theorem c_217_30 : aCod 217 30 = some (.sipush 0, 31) := by decide +kernel
theorem c_217_31 : aCod 217 31 = some (.istore 3, 32) := by decide +kernel
theorem c_217_32 : aCod 217 32 = some (.iload 3, 33) := by decide +kernel
theorem c_217_33 : aCod 217 33 = some (.iload 1, 34) := by decide +kernel
theorem c_217_34 : aCod 217 34 = some (.if_icmp .ge 104, 37) := by decide +kernel
theorem c_217_37 : aCod 217 37 = some (.sipush 0, 38) := by decide +kernel
theorem c_217_38 : aCod 217 38 = some (.istore 4, 40) := by decide +kernel
theorem c_217_40 : aCod 217 40 = some (.sipush 0, 41) := by decide +kernel
theorem c_217_41 : aCod 217 41 = some (.istore 5, 43) := by decide +kernel
theorem c_217_43 : aCod 217 43 = some (.iload 5, 45) := by decide +kernel
theorem c_217_45 : aCod 217 45 = some (.aload 0, 46) := by decide +kernel
theorem c_217_46 : aCod 217 46 = some (.invokevirtual 159, 49) := by decide +kernel
theorem c_217_49 : aCod 217 49 = some (.if_icmp .ge 82, 52) := by decide +kernel
theorem c_217_52 : aCod 217 52 = some (.aload 0, 53) := by decide +kernel
theorem c_217_53 : aCod 217 53 = some (.sipush 100, 55) := by decide +kernel
theorem c_217_55 : aCod 217 55 = some (.invokevirtual 216, 58) := by decide +kernel
theorem c_217_58 : aCod 217 58 = some (.aload 0, 59) := by decide +kernel
theorem c_217_59 : aCod 217 59 = some (.getfield 2354, 62) := by decide +kernel
theorem c_217_62 : aCod 217 62 = some (.sipush 5, 63) := by decide +kernel
theorem c_217_63 : aCod 217 63 = some (.iaload, 64) := by decide +kernel
theorem c_217_64 : aCod 217 64 = some (.if_icmp .ge 76, 67) := by decide +kernel
theorem c_217_67 : aCod 217 67 = some (.iload 4, 69) := by decide +kernel
theorem c_217_69 : aCod 217 69 = some (.sipush 1, 70) := by decide +kernel
theorem c_217_70 : aCod 217 70 = some (.iload 5, 72) := by decide +kernel
theorem c_217_72 : aCod 217 72 = some (.ishl, 73) := by decide +kernel
theorem c_217_73 : aCod 217 73 = some (.ior, 74) := by decide +kernel
theorem c_217_74 : aCod 217 74 = some (.istore 4, 76) := by decide +kernel
theorem c_217_76 : aCod 217 76 = some (.iinc 5 1, 79) := by decide +kernel
theorem c_217_79 : aCod 217 79 = some (.goto 43, 82) := by decide +kernel
theorem c_217_82 : aCod 217 82 = some (.iload 2, 83) := by decide +kernel
theorem c_217_83 : aCod 217 83 = some (.iload 4, 85) := by decide +kernel
theorem c_217_85 : aCod 217 85 = some (.invokestatic 183, 88) := by decide +kernel
theorem c_217_88 : aCod 217 88 = some (.iadd, 89) := by decide +kernel
theorem c_217_89 : aCod 217 89 = some (.istore 2, 90) := by decide +kernel
theorem c_217_90 : aCod 217 90 = some (.aload 0, 91) := by decide +kernel
theorem c_217_91 : aCod 217 91 = some (.iload 4, 93) := by decide +kernel
theorem c_217_93 : aCod 217 93 = some (.sipush 0, 94) := by decide +kernel
theorem c_217_94 : aCod 217 94 = some (.sipush 0, 95) := by decide +kernel
theorem c_217_95 : aCod 217 95 = some (.invokevirtual 175, 98) := by decide +kernel
theorem c_217_98 : aCod 217 98 = some (.iinc 3 1, 101) := by decide +kernel
theorem c_217_101 : aCod 217 101 = some (.goto 32, 104) := by decide +kernel
theorem c_217_104 : aCod 217 104 = some (.iload 2, 105) := by decide +kernel
theorem c_217_105 : aCod 217 105 = some (.ireturn, 106) := by decide +kernel
theorem c_218_0 : aCod 218 0 = some (.aload 0, 1) := by decide +kernel
theorem c_218_1 : aCod 218 1 = some (.getfield 2401, 4) := by decide +kernel
theorem c_218_4 : aCod 218 4 = some (.aload 0, 5) := by decide +kernel
theorem c_218_5 : aCod 218 5 = some (.getfield 2402, 8) := by decide +kernel
theorem c_218_8 : aCod 218 8 = some (.iload 1, 9) := by decide +kernel
theorem c_218_9 : aCod 218 9 = some (.iastore, 10) := by decide +kernel
theorem c_218_10 : aCod 218 10 = some (.aload 0, 11) := by decide +kernel
theorem c_218_11 : aCod 218 11 = some (.dup, 12) := by decide +kernel
theorem c_218_12 : aCod 218 12 = some (.getfield 2402, 15) := by decide +kernel
theorem c_218_15 : aCod 218 15 = some (.sipush 1, 16) := by decide +kernel
theorem c_218_16 : aCod 218 16 = some (.iadd, 17) := by decide +kernel
theorem c_218_17 : aCod 218 17 = some (.putfield 2402, 20) := by decide +kernel
theorem c_218_20 : aCod 218 20 = some (.return_, 21) := by decide +kernel
theorem c_219_0 : aCod 219 0 = some (.aload 0, 1) := by decide +kernel
theorem c_219_1 : aCod 219 1 = some (.getfield 2309, 4) := by decide +kernel
theorem c_219_4 : aCod 219 4 = some (.ifCond .eq 8, 7) := by decide +kernel
theorem c_219_7 : aCod 219 7 = some (.return_, 8) := by decide +kernel
theorem c_219_8 : aCod 219 8 = some (.aload 0, 9) := by decide +kernel
theorem c_219_9 : aCod 219 9 = some (.getfield 2405, 12) := by decide +kernel
theorem c_219_12 : aCod 219 12 = some (.sipush 6, 14) := by decide +kernel
theorem c_219_14 : aCod 219 14 = some (.if_icmp .ne 24, 17) := by decide +kernel
theorem c_219_17 : aCod 219 17 = some (.aload 0, 18) := by decide +kernel
theorem c_219_18 : aCod 219 18 = some (.sipush 4, 19) := by decide +kernel
theorem c_219_19 : aCod 219 19 = some (.iload 2, 20) := by decide +kernel
theorem c_219_20 : aCod 219 20 = some (.invokevirtual 133, 23) := by decide +kernel
theorem c_219_23 : aCod 219 23 = some (.return_, 24) := by decide +kernel
theorem c_219_24 : aCod 219 24 = some (.aload 0, 25) := by decide +kernel
theorem c_219_25 : aCod 219 25 = some (.dup, 26) := by decide +kernel
theorem c_219_26 : aCod 219 26 = some (.getfield 2405, 29) := by decide +kernel
theorem c_219_29 : aCod 219 29 = some (.sipush 1, 30) := by decide +kernel
theorem c_219_30 : aCod 219 30 = some (.iadd, 31) := by decide +kernel
theorem c_219_31 : aCod 219 31 = some (.putfield 2405, 34) := by decide +kernel
theorem c_219_34 : aCod 219 34 = some (.aload 0, 35) := by decide +kernel
theorem c_219_35 : aCod 219 35 = some (.getfield 2403, 38) := by decide +kernel
theorem c_219_38 : aCod 219 38 = some (.aload 0, 39) := by decide +kernel
theorem c_219_39 : aCod 219 39 = some (.getfield 2404, 42) := by decide +kernel
theorem c_219_42 : aCod 219 42 = some (.iload 1, 43) := by decide +kernel
theorem c_219_43 : aCod 219 43 = some (.iastore, 44) := by decide +kernel
theorem c_219_44 : aCod 219 44 = some (.aload 0, 45) := by decide +kernel
theorem c_219_45 : aCod 219 45 = some (.dup, 46) := by decide +kernel
theorem c_219_46 : aCod 219 46 = some (.getfield 2404, 49) := by decide +kernel
theorem c_219_49 : aCod 219 49 = some (.sipush 1, 50) := by decide +kernel
theorem c_219_50 : aCod 219 50 = some (.iadd, 51) := by decide +kernel
theorem c_219_51 : aCod 219 51 = some (.putfield 2404, 54) := by decide +kernel
theorem c_219_54 : aCod 219 54 = some (.return_, 55) := by decide +kernel
theorem c_220_0 : aCod 220 0 = some (.aload 0, 1) := by decide +kernel
theorem c_220_1 : aCod 220 1 = some (.getfield 2404, 4) := by decide +kernel
theorem c_220_4 : aCod 220 4 = some (.ifCond .le 26, 7) := by decide +kernel
theorem c_220_7 : aCod 220 7 = some (.aload 0, 8) := by decide +kernel
theorem c_220_8 : aCod 220 8 = some (.getfield 2403, 11) := by decide +kernel
theorem c_220_11 : aCod 220 11 = some (.aload 0, 12) := by decide +kernel
theorem c_220_12 : aCod 220 12 = some (.getfield 2404, 15) := by decide +kernel
theorem c_220_15 : aCod 220 15 = some (.sipush 1, 16) := by decide +kernel
theorem c_220_16 : aCod 220 16 = some (.isub, 17) := by decide +kernel
theorem c_220_17 : aCod 220 17 = some (.iaload, 18) := by decide +kernel
theorem c_220_18 : aCod 220 18 = some (.iload 1, 19) := by decide +kernel
theorem c_220_19 : aCod 220 19 = some (.if_icmp .ne 26, 22) := by decide +kernel
theorem c_220_22 : aCod 220 22 = some (.sipush 1, 23) := by decide +kernel
theorem c_220_23 : aCod 220 23 = some (.goto 27, 26) := by decide +kernel
theorem c_220_26 : aCod 220 26 = some (.sipush 0, 27) := by decide +kernel
theorem c_220_27 : aCod 220 27 = some (.ireturn, 28) := by decide +kernel
theorem c_221_0 : aCod 221 0 = some (.aload 0, 1) := by decide +kernel
theorem c_221_1 : aCod 221 1 = some (.dup, 2) := by decide +kernel
theorem c_221_2 : aCod 221 2 = some (.getfield 2404, 5) := by decide +kernel
theorem c_221_5 : aCod 221 5 = some (.sipush 1, 6) := by decide +kernel
theorem c_221_6 : aCod 221 6 = some (.isub, 7) := by decide +kernel
theorem c_221_7 : aCod 221 7 = some (.putfield 2404, 10) := by decide +kernel
theorem c_221_10 : aCod 221 10 = some (.aload 0, 11) := by decide +kernel
theorem c_221_11 : aCod 221 11 = some (.aload 0, 12) := by decide +kernel
theorem c_221_12 : aCod 221 12 = some (.getfield 2403, 15) := by decide +kernel
theorem c_221_15 : aCod 221 15 = some (.aload 0, 16) := by decide +kernel
theorem c_221_16 : aCod 221 16 = some (.getfield 2404, 19) := by decide +kernel
theorem c_221_19 : aCod 221 19 = some (.iaload, 20) := by decide +kernel
theorem c_221_20 : aCod 221 20 = some (.invokevirtual 218, 23) := by decide +kernel
theorem c_221_23 : aCod 221 23 = some (.return_, 24) := by decide +kernel
theorem c_222_0 : aCod 222 0 = some (.iload 0, 1) := by decide +kernel
theorem c_222_1 : aCod 222 1 = some (.sipush 20, 3) := by decide +kernel
theorem c_222_3 : aCod 222 3 = some (.if_icmp .lt 16, 6) := by decide +kernel
theorem c_222_6 : aCod 222 6 = some (.iload 0, 7) := by decide +kernel
theorem c_222_7 : aCod 222 7 = some (.sipush 24, 9) := by decide +kernel
theorem c_222_9 : aCod 222 9 = some (.if_icmp .gt 16, 12) := by decide +kernel
theorem c_222_12 : aCod 222 12 = some (.sipush 1, 13) := by decide +kernel
theorem c_222_13 : aCod 222 13 = some (.goto 17, 16) := by decide +kernel
theorem c_222_16 : aCod 222 16 = some (.sipush 0, 17) := by decide +kernel
theorem c_222_17 : aCod 222 17 = some (.ireturn, 18) := by decide +kernel
theorem c_223_0 : aCod 223 0 = some (.aload 0, 1) := by decide +kernel
theorem c_223_1 : aCod 223 1 = some (.getfield 2404, 4) := by decide +kernel
theorem c_223_4 : aCod 223 4 = some (.sipush 1, 5) := by decide +kernel
theorem c_223_5 : aCod 223 5 = some (.isub, 6) := by decide +kernel
theorem c_223_6 : aCod 223 6 = some (.istore 1, 7) := by decide +kernel
theorem c_223_7 : aCod 223 7 = some (.iload 1, 8) := by decide +kernel
theorem c_223_8 : aCod 223 8 = some (.aload 0, 9) := by decide +kernel
theorem c_223_9 : aCod 223 9 = some (.getfield 2406, 12) := by decide +kernel
theorem c_223_12 : aCod 223 12 = some (.if_icmp .lt 33, 15) := by decide +kernel
theorem c_223_15 : aCod 223 15 = some (.aload 0, 16) := by decide +kernel
theorem c_223_16 : aCod 223 16 = some (.getfield 2403, 19) := by decide +kernel
theorem c_223_19 : aCod 223 19 = some (.iload 1, 20) := by decide +kernel
theorem c_223_20 : aCod 223 20 = some (.iaload, 21) := by decide +kernel
theorem c_223_21 : aCod 223 21 = some (.invokestatic 222, 24) := by decide +kernel
theorem c_223_24 : aCod 223 24 = some (.ifCond .ne 33, 27) := by decide +kernel
theorem c_223_27 : aCod 223 27 = some (.iinc 1 (-1), 30) := by decide +kernel
theorem c_223_30 : aCod 223 30 = some (.goto 7, 33) := by decide +kernel
theorem c_223_33 : aCod 223 33 = some (.iload 1, 34) := by decide +kernel
theorem c_223_34 : aCod 223 34 = some (.aload 0, 35) := by decide +kernel
theorem c_223_35 : aCod 223 35 = some (.getfield 2406, 38) := by decide +kernel
theorem c_223_38 : aCod 223 38 = some (.if_icmp .lt 50, 41) := by decide +kernel
theorem c_223_41 : aCod 223 41 = some (.aload 0, 42) := by decide +kernel
theorem c_223_42 : aCod 223 42 = some (.getfield 2403, 45) := by decide +kernel
theorem c_223_45 : aCod 223 45 = some (.iload 1, 46) := by decide +kernel
theorem c_223_46 : aCod 223 46 = some (.iaload, 47) := by decide +kernel
theorem c_223_47 : aCod 223 47 = some (.goto 51, 50) := by decide +kernel
theorem c_223_50 : aCod 223 50 = some (.sipush (-1), 51) := by decide +kernel
theorem c_223_51 : aCod 223 51 = some (.ireturn, 52) := by decide +kernel
theorem c_224_0 : aCod 224 0 = some (.aload 0, 1) := by decide +kernel
theorem c_224_1 : aCod 224 1 = some (.getfield 2404, 4) := by decide +kernel
theorem c_224_4 : aCod 224 4 = some (.aload 0, 5) := by decide +kernel
theorem c_224_5 : aCod 224 5 = some (.getfield 2406, 8) := by decide +kernel
theorem c_224_8 : aCod 224 8 = some (.if_icmp .le 35, 11) := by decide +kernel
theorem c_224_11 : aCod 224 11 = some (.aload 0, 12) := by decide +kernel
theorem c_224_12 : aCod 224 12 = some (.getfield 2403, 15) := by decide +kernel
theorem c_224_15 : aCod 224 15 = some (.aload 0, 16) := by decide +kernel
theorem c_224_16 : aCod 224 16 = some (.getfield 2404, 19) := by decide +kernel
theorem c_224_19 : aCod 224 19 = some (.sipush 1, 20) := by decide +kernel
theorem c_224_20 : aCod 224 20 = some (.isub, 21) := by decide +kernel
theorem c_224_21 : aCod 224 21 = some (.iaload, 22) := by decide +kernel
theorem c_224_22 : aCod 224 22 = some (.invokestatic 222, 25) := by decide +kernel
theorem c_224_25 : aCod 224 25 = some (.ifCond .ne 35, 28) := by decide +kernel
theorem c_224_28 : aCod 224 28 = some (.aload 0, 29) := by decide +kernel
theorem c_224_29 : aCod 224 29 = some (.invokevirtual 221, 32) := by decide +kernel
theorem c_224_32 : aCod 224 32 = some (.goto 0, 35) := by decide +kernel
theorem c_224_35 : aCod 224 35 = some (.return_, 36) := by decide +kernel
theorem c_225_0 : aCod 225 0 = some (.aload 0, 1) := by decide +kernel
theorem c_225_1 : aCod 225 1 = some (.aload 0, 2) := by decide +kernel
theorem c_225_2 : aCod 225 2 = some (.getfield 2389, 5) := by decide +kernel
theorem c_225_5 : aCod 225 5 = some (.invokevirtual 137, 8) := by decide +kernel
theorem c_225_8 : aCod 225 8 = some (.ifCond .eq 13, 11) := by decide +kernel
theorem c_225_11 : aCod 225 11 = some (.sipush 0, 12) := by decide +kernel
theorem c_225_12 : aCod 225 12 = some (.ireturn, 13) := by decide +kernel
theorem c_225_13 : aCod 225 13 = some (.aload 0, 14) := by decide +kernel
theorem c_225_14 : aCod 225 14 = some (.aload 0, 15) := by decide +kernel
theorem c_225_15 : aCod 225 15 = some (.getfield 2390, 18) := by decide +kernel
theorem c_225_18 : aCod 225 18 = some (.invokevirtual 137, 21) := by decide +kernel
theorem c_225_21 : aCod 225 21 = some (.ifCond .eq 26, 24) := by decide +kernel
theorem c_225_24 : aCod 225 24 = some (.sipush 1, 25) := by decide +kernel
theorem c_225_25 : aCod 225 25 = some (.ireturn, 26) := by decide +kernel
theorem c_225_26 : aCod 225 26 = some (.aload 0, 27) := by decide +kernel
theorem c_225_27 : aCod 225 27 = some (.aload 0, 28) := by decide +kernel
theorem c_225_28 : aCod 225 28 = some (.getfield 2391, 31) := by decide +kernel
theorem c_225_31 : aCod 225 31 = some (.invokevirtual 137, 34) := by decide +kernel
theorem c_225_34 : aCod 225 34 = some (.ifCond .eq 39, 37) := by decide +kernel
theorem c_225_37 : aCod 225 37 = some (.sipush 2, 38) := by decide +kernel
theorem c_225_38 : aCod 225 38 = some (.ireturn, 39) := by decide +kernel
theorem c_225_39 : aCod 225 39 = some (.aload 0, 40) := by decide +kernel
theorem c_225_40 : aCod 225 40 = some (.aload 0, 41) := by decide +kernel
theorem c_225_41 : aCod 225 41 = some (.getfield 2392, 44) := by decide +kernel
theorem c_225_44 : aCod 225 44 = some (.invokevirtual 137, 47) := by decide +kernel
theorem c_225_47 : aCod 225 47 = some (.ifCond .eq 52, 50) := by decide +kernel
theorem c_225_50 : aCod 225 50 = some (.sipush 3, 51) := by decide +kernel
theorem c_225_51 : aCod 225 51 = some (.ireturn, 52) := by decide +kernel
theorem c_225_52 : aCod 225 52 = some (.aload 0, 53) := by decide +kernel
theorem c_225_53 : aCod 225 53 = some (.aload 0, 54) := by decide +kernel
theorem c_225_54 : aCod 225 54 = some (.getfield 2393, 57) := by decide +kernel
theorem c_225_57 : aCod 225 57 = some (.invokevirtual 137, 60) := by decide +kernel
theorem c_225_60 : aCod 225 60 = some (.ifCond .eq 65, 63) := by decide +kernel
theorem c_225_63 : aCod 225 63 = some (.sipush 4, 64) := by decide +kernel
theorem c_225_64 : aCod 225 64 = some (.ireturn, 65) := by decide +kernel
theorem c_225_65 : aCod 225 65 = some (.aload 0, 66) := by decide +kernel
theorem c_225_66 : aCod 225 66 = some (.aload 0, 67) := by decide +kernel
theorem c_225_67 : aCod 225 67 = some (.getfield 2394, 70) := by decide +kernel
theorem c_225_70 : aCod 225 70 = some (.invokevirtual 137, 73) := by decide +kernel
theorem c_225_73 : aCod 225 73 = some (.ifCond .eq 78, 76) := by decide +kernel
theorem c_225_76 : aCod 225 76 = some (.sipush 5, 77) := by decide +kernel
theorem c_225_77 : aCod 225 77 = some (.ireturn, 78) := by decide +kernel
theorem c_225_78 : aCod 225 78 = some (.aload 0, 79) := by decide +kernel
theorem c_225_79 : aCod 225 79 = some (.aload 0, 80) := by decide +kernel
theorem c_225_80 : aCod 225 80 = some (.getfield 2395, 83) := by decide +kernel
theorem c_225_83 : aCod 225 83 = some (.invokevirtual 137, 86) := by decide +kernel
theorem c_225_86 : aCod 225 86 = some (.ifCond .eq 92, 89) := by decide +kernel
theorem c_225_89 : aCod 225 89 = some (.sipush 6, 91) := by decide +kernel
theorem c_225_91 : aCod 225 91 = some (.ireturn, 92) := by decide +kernel
theorem c_225_92 : aCod 225 92 = some (.aload 0, 93) := by decide +kernel
theorem c_225_93 : aCod 225 93 = some (.aload 0, 94) := by decide +kernel
theorem c_225_94 : aCod 225 94 = some (.getfield 2396, 97) := by decide +kernel
theorem c_225_97 : aCod 225 97 = some (.invokevirtual 137, 100) := by decide +kernel
theorem c_225_100 : aCod 225 100 = some (.ifCond .eq 106, 103) := by decide +kernel
theorem c_225_103 : aCod 225 103 = some (.sipush 7, 105) := by decide +kernel
theorem c_225_105 : aCod 225 105 = some (.ireturn, 106) := by decide +kernel
theorem c_225_106 : aCod 225 106 = some (.aload 0, 107) := by decide +kernel
theorem c_225_107 : aCod 225 107 = some (.aload 0, 108) := by decide +kernel
theorem c_225_108 : aCod 225 108 = some (.getfield 2397, 111) := by decide +kernel
theorem c_225_111 : aCod 225 111 = some (.invokevirtual 137, 114) := by decide +kernel
theorem c_225_114 : aCod 225 114 = some (.ifCond .eq 120, 117) := by decide +kernel
theorem c_225_117 : aCod 225 117 = some (.sipush 8, 119) := by decide +kernel
theorem c_225_119 : aCod 225 119 = some (.ireturn, 120) := by decide +kernel
theorem c_225_120 : aCod 225 120 = some (.aload 0, 121) := by decide +kernel
theorem c_225_121 : aCod 225 121 = some (.aload 0, 122) := by decide +kernel
theorem c_225_122 : aCod 225 122 = some (.getfield 2398, 125) := by decide +kernel
theorem c_225_125 : aCod 225 125 = some (.invokevirtual 137, 128) := by decide +kernel
theorem c_225_128 : aCod 225 128 = some (.ifCond .eq 134, 131) := by decide +kernel
theorem c_225_131 : aCod 225 131 = some (.sipush 9, 133) := by decide +kernel
theorem c_225_133 : aCod 225 133 = some (.ireturn, 134) := by decide +kernel
theorem c_225_134 : aCod 225 134 = some (.aload 0, 135) := by decide +kernel
theorem c_225_135 : aCod 225 135 = some (.aload 0, 136) := by decide +kernel
theorem c_225_136 : aCod 225 136 = some (.getfield 2399, 139) := by decide +kernel
theorem c_225_139 : aCod 225 139 = some (.invokevirtual 137, 142) := by decide +kernel
theorem c_225_142 : aCod 225 142 = some (.ifCond .eq 148, 145) := by decide +kernel
theorem c_225_145 : aCod 225 145 = some (.sipush 10, 147) := by decide +kernel
theorem c_225_147 : aCod 225 147 = some (.ireturn, 148) := by decide +kernel
theorem c_225_148 : aCod 225 148 = some (.aload 0, 149) := by decide +kernel
theorem c_225_149 : aCod 225 149 = some (.aload 0, 150) := by decide +kernel
theorem c_225_150 : aCod 225 150 = some (.getfield 2400, 153) := by decide +kernel
theorem c_225_153 : aCod 225 153 = some (.invokevirtual 137, 156) := by decide +kernel
theorem c_225_156 : aCod 225 156 = some (.ifCond .eq 162, 159) := by decide +kernel
theorem c_225_159 : aCod 225 159 = some (.sipush 11, 161) := by decide +kernel
theorem c_225_161 : aCod 225 161 = some (.ireturn, 162) := by decide +kernel
theorem c_225_162 : aCod 225 162 = some (.sipush (-1), 163) := by decide +kernel
theorem c_225_163 : aCod 225 163 = some (.ireturn, 164) := by decide +kernel
theorem c_226_0 : aCod 226 0 = some (.aload 0, 1) := by decide +kernel
theorem c_226_1 : aCod 226 1 = some (.invokevirtual 225, 4) := by decide +kernel
theorem c_226_4 : aCod 226 4 = some (.istore 3, 5) := by decide +kernel
theorem c_226_5 : aCod 226 5 = some (.iload 3, 6) := by decide +kernel
theorem c_226_6 : aCod 226 6 = some (.iload 1, 7) := by decide +kernel
theorem c_226_7 : aCod 226 7 = some (.if_icmp .lt 27, 10) := by decide +kernel
theorem c_226_10 : aCod 226 10 = some (.iload 3, 11) := by decide +kernel
theorem c_226_11 : aCod 226 11 = some (.iload 2, 12) := by decide +kernel
theorem c_226_12 : aCod 226 12 = some (.if_icmp .ge 27, 15) := by decide +kernel
theorem c_226_15 : aCod 226 15 = some (.aload 0, 16) := by decide +kernel
theorem c_226_16 : aCod 226 16 = some (.iload 3, 17) := by decide +kernel
theorem c_226_17 : aCod 226 17 = some (.invokevirtual 145, 20) := by decide +kernel
theorem c_226_20 : aCod 226 20 = some (.ifCond .eq 27, 23) := by decide +kernel
theorem c_226_23 : aCod 226 23 = some (.iload 3, 24) := by decide +kernel
theorem c_226_24 : aCod 226 24 = some (.goto 28, 27) := by decide +kernel
theorem c_226_27 : aCod 226 27 = some (.sipush (-1), 28) := by decide +kernel
theorem c_226_28 : aCod 226 28 = some (.ireturn, 29) := by decide +kernel
theorem c_227_0 : aCod 227 0 = some (.iload 1, 1) := by decide +kernel
theorem c_227_1 : aCod 227 1 = some (.tableswitch 181 0 10 #[60, 71, 82, 93, 104, 115, 126, 137, 148, 159, 170], 60) := by decide +kernel
theorem c_227_60 : aCod 227 60 = some (.aload 0, 61) := by decide +kernel
theorem c_227_61 : aCod 227 61 = some (.aload 0, 62) := by decide +kernel
theorem c_227_62 : aCod 227 62 = some (.getfield 2389, 65) := by decide +kernel
theorem c_227_65 : aCod 227 65 = some (.invokevirtual 139, 68) := by decide +kernel
theorem c_227_68 : aCod 227 68 = some (.goto 189, 71) := by decide +kernel
theorem c_227_71 : aCod 227 71 = some (.aload 0, 72) := by decide +kernel
theorem c_227_72 : aCod 227 72 = some (.aload 0, 73) := by decide +kernel
theorem c_227_73 : aCod 227 73 = some (.getfield 2390, 76) := by decide +kernel
theorem c_227_76 : aCod 227 76 = some (.invokevirtual 139, 79) := by decide +kernel
theorem c_227_79 : aCod 227 79 = some (.goto 189, 82) := by decide +kernel
theorem c_227_82 : aCod 227 82 = some (.aload 0, 83) := by decide +kernel
theorem c_227_83 : aCod 227 83 = some (.aload 0, 84) := by decide +kernel
theorem c_227_84 : aCod 227 84 = some (.getfield 2391, 87) := by decide +kernel
theorem c_227_87 : aCod 227 87 = some (.invokevirtual 139, 90) := by decide +kernel
theorem c_227_90 : aCod 227 90 = some (.goto 189, 93) := by decide +kernel
theorem c_227_93 : aCod 227 93 = some (.aload 0, 94) := by decide +kernel
theorem c_227_94 : aCod 227 94 = some (.aload 0, 95) := by decide +kernel
theorem c_227_95 : aCod 227 95 = some (.getfield 2392, 98) := by decide +kernel
theorem c_227_98 : aCod 227 98 = some (.invokevirtual 139, 101) := by decide +kernel
theorem c_227_101 : aCod 227 101 = some (.goto 189, 104) := by decide +kernel
theorem c_227_104 : aCod 227 104 = some (.aload 0, 105) := by decide +kernel
theorem c_227_105 : aCod 227 105 = some (.aload 0, 106) := by decide +kernel
theorem c_227_106 : aCod 227 106 = some (.getfield 2393, 109) := by decide +kernel
theorem c_227_109 : aCod 227 109 = some (.invokevirtual 139, 112) := by decide +kernel
theorem c_227_112 : aCod 227 112 = some (.goto 189, 115) := by decide +kernel
theorem c_227_115 : aCod 227 115 = some (.aload 0, 116) := by decide +kernel
theorem c_227_116 : aCod 227 116 = some (.aload 0, 117) := by decide +kernel
theorem c_227_117 : aCod 227 117 = some (.getfield 2394, 120) := by decide +kernel
theorem c_227_120 : aCod 227 120 = some (.invokevirtual 139, 123) := by decide +kernel
theorem c_227_123 : aCod 227 123 = some (.goto 189, 126) := by decide +kernel
theorem c_227_126 : aCod 227 126 = some (.aload 0, 127) := by decide +kernel
theorem c_227_127 : aCod 227 127 = some (.aload 0, 128) := by decide +kernel
theorem c_227_128 : aCod 227 128 = some (.getfield 2395, 131) := by decide +kernel
theorem c_227_131 : aCod 227 131 = some (.invokevirtual 139, 134) := by decide +kernel
theorem c_227_134 : aCod 227 134 = some (.goto 189, 137) := by decide +kernel
theorem c_227_137 : aCod 227 137 = some (.aload 0, 138) := by decide +kernel
theorem c_227_138 : aCod 227 138 = some (.aload 0, 139) := by decide +kernel
theorem c_227_139 : aCod 227 139 = some (.getfield 2396, 142) := by decide +kernel
theorem c_227_142 : aCod 227 142 = some (.invokevirtual 139, 145) := by decide +kernel
theorem c_227_145 : aCod 227 145 = some (.goto 189, 148) := by decide +kernel
theorem c_227_148 : aCod 227 148 = some (.aload 0, 149) := by decide +kernel
theorem c_227_149 : aCod 227 149 = some (.aload 0, 150) := by decide +kernel
theorem c_227_150 : aCod 227 150 = some (.getfield 2397, 153) := by decide +kernel
theorem c_227_153 : aCod 227 153 = some (.invokevirtual 139, 156) := by decide +kernel
theorem c_227_156 : aCod 227 156 = some (.goto 189, 159) := by decide +kernel
theorem c_227_159 : aCod 227 159 = some (.aload 0, 160) := by decide +kernel
theorem c_227_160 : aCod 227 160 = some (.aload 0, 161) := by decide +kernel
theorem c_227_161 : aCod 227 161 = some (.getfield 2398, 164) := by decide +kernel
theorem c_227_164 : aCod 227 164 = some (.invokevirtual 139, 167) := by decide +kernel
theorem c_227_167 : aCod 227 167 = some (.goto 189, 170) := by decide +kernel
theorem c_227_170 : aCod 227 170 = some (.aload 0, 171) := by decide +kernel
theorem c_227_171 : aCod 227 171 = some (.aload 0, 172) := by decide +kernel
theorem c_227_172 : aCod 227 172 = some (.getfield 2399, 175) := by decide +kernel
theorem c_227_175 : aCod 227 175 = some (.invokevirtual 139, 178) := by decide +kernel
theorem c_227_178 : aCod 227 178 = some (.goto 189, 181) := by decide +kernel
theorem c_227_181 : aCod 227 181 = some (.aload 0, 182) := by decide +kernel
theorem c_227_182 : aCod 227 182 = some (.aload 0, 183) := by decide +kernel
theorem c_227_183 : aCod 227 183 = some (.getfield 2400, 186) := by decide +kernel
theorem c_227_186 : aCod 227 186 = some (.invokevirtual 139, 189) := by decide +kernel
theorem c_227_189 : aCod 227 189 = some (.return_, 190) := by decide +kernel
theorem c_228_0 : aCod 228 0 = some (.aload 0, 1) := by decide +kernel
theorem c_228_1 : aCod 228 1 = some (.getfield 2309, 4) := by decide +kernel
theorem c_228_4 : aCod 228 4 = some (.ifCond .ne 51, 7) := by decide +kernel
theorem c_228_7 : aCod 228 7 = some (.aload 0, 8) := by decide +kernel
theorem c_228_8 : aCod 228 8 = some (.getfield 2404, 11) := by decide +kernel
theorem c_228_11 : aCod 228 11 = some (.aload 0, 12) := by decide +kernel
theorem c_228_12 : aCod 228 12 = some (.getfield 2406, 15) := by decide +kernel
theorem c_228_15 : aCod 228 15 = some (.if_icmp .le 51, 18) := by decide +kernel
theorem c_228_18 : aCod 228 18 = some (.aload 0, 19) := by decide +kernel
theorem c_228_19 : aCod 228 19 = some (.getfield 2403, 22) := by decide +kernel
theorem c_228_22 : aCod 228 22 = some (.aload 0, 23) := by decide +kernel
theorem c_228_23 : aCod 228 23 = some (.getfield 2404, 26) := by decide +kernel
theorem c_228_26 : aCod 228 26 = some (.sipush 1, 27) := by decide +kernel
theorem c_228_27 : aCod 228 27 = some (.isub, 28) := by decide +kernel
theorem c_228_28 : aCod 228 28 = some (.iaload, 29) := by decide +kernel
theorem c_228_29 : aCod 228 29 = some (.sipush 60, 31) := by decide +kernel
theorem c_228_31 : aCod 228 31 = some (.if_icmp .lt 51, 34) := by decide +kernel
theorem c_228_34 : aCod 228 34 = some (.aload 0, 35) := by decide +kernel
theorem c_228_35 : aCod 228 35 = some (.dup, 36) := by decide +kernel
theorem c_228_36 : aCod 228 36 = some (.getfield 2405, 39) := by decide +kernel
theorem c_228_39 : aCod 228 39 = some (.sipush 1, 40) := by decide +kernel
theorem c_228_40 : aCod 228 40 = some (.isub, 41) := by decide +kernel
theorem c_228_41 : aCod 228 41 = some (.putfield 2405, 44) := by decide +kernel
theorem c_228_44 : aCod 228 44 = some (.aload 0, 45) := by decide +kernel
theorem c_228_45 : aCod 228 45 = some (.invokevirtual 221, 48) := by decide +kernel
theorem c_228_48 : aCod 228 48 = some (.goto 0, 51) := by decide +kernel
theorem c_228_51 : aCod 228 51 = some (.return_, 52) := by decide +kernel
theorem c_229_0 : aCod 229 0 = some (.sipush 1, 1) := by decide +kernel
theorem c_229_1 : aCod 229 1 = some (.istore 1, 2) := by decide +kernel
theorem c_229_2 : aCod 229 2 = some (.iload 1, 3) := by decide +kernel
theorem c_229_3 : aCod 229 3 = some (.ifCond .eq 186, 6) := by decide +kernel
theorem c_229_6 : aCod 229 6 = some (.aload 0, 7) := by decide +kernel
theorem c_229_7 : aCod 229 7 = some (.getfield 2309, 10) := by decide +kernel
theorem c_229_10 : aCod 229 10 = some (.ifCond .ne 186, 13) := by decide +kernel
theorem c_229_13 : aCod 229 13 = some (.aload 0, 14) := by decide +kernel
theorem c_229_14 : aCod 229 14 = some (.invokevirtual 136, 17) := by decide +kernel
theorem c_229_17 : aCod 229 17 = some (.istore 2, 18) := by decide +kernel
theorem c_229_18 : aCod 229 18 = some (.aload 0, 19) := by decide +kernel
theorem c_229_19 : aCod 229 19 = some (.sipush 11, 21) := by decide +kernel
theorem c_229_21 : aCod 229 21 = some (.sipush 12, 23) := by decide +kernel
theorem c_229_23 : aCod 229 23 = some (.invokevirtual 226, 26) := by decide +kernel
theorem c_229_26 : aCod 229 26 = some (.istore 3, 27) := by decide +kernel
theorem c_229_27 : aCod 229 27 = some (.iload 2, 28) := by decide +kernel
theorem c_229_28 : aCod 229 28 = some (.sipush 40, 30) := by decide +kernel
theorem c_229_30 : aCod 229 30 = some (.if_icmp .ne 56, 33) := by decide +kernel
theorem c_229_33 : aCod 229 33 = some (.aload 0, 34) := by decide +kernel
theorem c_229_34 : aCod 229 34 = some (.sipush 20, 36) := by decide +kernel
theorem c_229_36 : aCod 229 36 = some (.aload 0, 37) := by decide +kernel
theorem c_229_37 : aCod 229 37 = some (.getfield 2306, 40) := by decide +kernel
theorem c_229_40 : aCod 229 40 = some (.invokevirtual 219, 43) := by decide +kernel
theorem c_229_43 : aCod 229 43 = some (.aload 0, 44) := by decide +kernel
theorem c_229_44 : aCod 229 44 = some (.dup, 45) := by decide +kernel
theorem c_229_45 : aCod 229 45 = some (.getfield 2306, 48) := by decide +kernel
theorem c_229_48 : aCod 229 48 = some (.sipush 1, 49) := by decide +kernel
theorem c_229_49 : aCod 229 49 = some (.iadd, 50) := by decide +kernel
theorem c_229_50 : aCod 229 50 = some (.putfield 2306, 53) := by decide +kernel
theorem c_229_53 : aCod 229 53 = some (.goto 183, 56) := by decide +kernel
theorem c_229_56 : aCod 229 56 = some (.aload 0, 57) := by decide +kernel
theorem c_229_57 : aCod 229 57 = some (.aload 0, 58) := by decide +kernel
theorem c_229_58 : aCod 229 58 = some (.getfield 2387, 61) := by decide +kernel
theorem c_229_61 : aCod 229 61 = some (.invokevirtual 137, 64) := by decide +kernel
theorem c_229_64 : aCod 229 64 = some (.ifCond .ne 78, 67) := by decide +kernel
theorem c_229_67 : aCod 229 67 = some (.aload 0, 68) := by decide +kernel
theorem c_229_68 : aCod 229 68 = some (.aload 0, 69) := by decide +kernel
theorem c_229_69 : aCod 229 69 = some (.getfield 2388, 72) := by decide +kernel
theorem c_229_72 : aCod 229 72 = some (.invokevirtual 137, 75) := by decide +kernel
theorem c_229_75 : aCod 229 75 = some (.ifCond .eq 153, 78) := by decide +kernel
theorem c_229_78 : aCod 229 78 = some (.aload 0, 79) := by decide +kernel
theorem c_229_79 : aCod 229 79 = some (.aload 0, 80) := by decide +kernel
theorem c_229_80 : aCod 229 80 = some (.getfield 2387, 83) := by decide +kernel
theorem c_229_83 : aCod 229 83 = some (.invokevirtual 138, 86) := by decide +kernel
theorem c_229_86 : aCod 229 86 = some (.istore 4, 88) := by decide +kernel
theorem c_229_88 : aCod 229 88 = some (.iload 4, 90) := by decide +kernel
theorem c_229_90 : aCod 229 90 = some (.ifCond .ne 101, 93) := by decide +kernel
theorem c_229_93 : aCod 229 93 = some (.aload 0, 94) := by decide +kernel
theorem c_229_94 : aCod 229 94 = some (.aload 0, 95) := by decide +kernel
theorem c_229_95 : aCod 229 95 = some (.getfield 2388, 98) := by decide +kernel
theorem c_229_98 : aCod 229 98 = some (.invokevirtual 139, 101) := by decide +kernel
theorem c_229_101 : aCod 229 101 = some (.aload 0, 102) := by decide +kernel
theorem c_229_102 : aCod 229 102 = some (.invokevirtual 136, 105) := by decide +kernel
theorem c_229_105 : aCod 229 105 = some (.sipush 40, 107) := by decide +kernel
theorem c_229_107 : aCod 229 107 = some (.if_icmp .ne 117, 110) := by decide +kernel
theorem c_229_110 : aCod 229 110 = some (.aload 0, 111) := by decide +kernel
theorem c_229_111 : aCod 229 111 = some (.getfield 2306, 114) := by decide +kernel
theorem c_229_114 : aCod 229 114 = some (.goto 118, 117) := by decide +kernel
theorem c_229_117 : aCod 229 117 = some (.sipush (-1), 118) := by decide +kernel
theorem c_229_118 : aCod 229 118 = some (.istore 5, 120) := by decide +kernel
theorem c_229_120 : aCod 229 120 = some (.iload 5, 122) := by decide +kernel
theorem c_229_122 : aCod 229 122 = some (.sipush (-1), 123) := by decide +kernel
theorem c_229_123 : aCod 229 123 = some (.if_icmp .eq 144, 126) := by decide +kernel
theorem c_229_126 : aCod 229 126 = some (.aload 0, 127) := by decide +kernel
theorem c_229_127 : aCod 229 127 = some (.iload 4, 129) := by decide +kernel
theorem c_229_129 : aCod 229 129 = some (.ifCond .eq 137, 132) := by decide +kernel
theorem c_229_132 : aCod 229 132 = some (.sipush 21, 134) := by decide +kernel
theorem c_229_134 : aCod 229 134 = some (.goto 139, 137) := by decide +kernel
theorem c_229_137 : aCod 229 137 = some (.sipush 22, 139) := by decide +kernel
theorem c_229_139 : aCod 229 139 = some (.iload 5, 141) := by decide +kernel
theorem c_229_141 : aCod 229 141 = some (.invokevirtual 219, 144) := by decide +kernel
theorem c_229_144 : aCod 229 144 = some (.aload 0, 145) := by decide +kernel
theorem c_229_145 : aCod 229 145 = some (.sipush 40, 147) := by decide +kernel
theorem c_229_147 : aCod 229 147 = some (.invokevirtual 141, 150) := by decide +kernel
theorem c_229_150 : aCod 229 150 = some (.goto 183, 153) := by decide +kernel
theorem c_229_153 : aCod 229 153 = some (.iload 3, 154) := by decide +kernel
theorem c_229_154 : aCod 229 154 = some (.sipush (-1), 155) := by decide +kernel
theorem c_229_155 : aCod 229 155 = some (.if_icmp .eq 181, 158) := by decide +kernel
theorem c_229_158 : aCod 229 158 = some (.aload 0, 159) := by decide +kernel
theorem c_229_159 : aCod 229 159 = some (.sipush 60, 161) := by decide +kernel
theorem c_229_161 : aCod 229 161 = some (.iload 3, 162) := by decide +kernel
theorem c_229_162 : aCod 229 162 = some (.iadd, 163) := by decide +kernel
theorem c_229_163 : aCod 229 163 = some (.sipush 11, 165) := by decide +kernel
theorem c_229_165 : aCod 229 165 = some (.isub, 166) := by decide +kernel
theorem c_229_166 : aCod 229 166 = some (.aload 0, 167) := by decide +kernel
theorem c_229_167 : aCod 229 167 = some (.getfield 2306, 170) := by decide +kernel
theorem c_229_170 : aCod 229 170 = some (.invokevirtual 219, 173) := by decide +kernel
theorem c_229_173 : aCod 229 173 = some (.aload 0, 174) := by decide +kernel
theorem c_229_174 : aCod 229 174 = some (.iload 3, 175) := by decide +kernel
theorem c_229_175 : aCod 229 175 = some (.invokevirtual 227, 178) := by decide +kernel
theorem c_229_178 : aCod 229 178 = some (.goto 183, 181) := by decide +kernel
theorem c_229_181 : aCod 229 181 = some (.sipush 0, 182) := by decide +kernel
theorem c_229_182 : aCod 229 182 = some (.istore 1, 183) := by decide +kernel
theorem c_229_183 : aCod 229 183 = some (.goto 2, 186) := by decide +kernel
theorem c_229_186 : aCod 229 186 = some (.aload 0, 187) := by decide +kernel
theorem c_229_187 : aCod 229 187 = some (.getfield 2309, 190) := by decide +kernel
theorem c_229_190 : aCod 229 190 = some (.ifCond .eq 194, 193) := by decide +kernel
theorem c_229_193 : aCod 229 193 = some (.return_, 194) := by decide +kernel
theorem c_229_194 : aCod 229 194 = some (.aload 0, 195) := by decide +kernel
theorem c_229_195 : aCod 229 195 = some (.sipush 0, 196) := by decide +kernel
theorem c_229_196 : aCod 229 196 = some (.sipush 11, 198) := by decide +kernel
theorem c_229_198 : aCod 229 198 = some (.invokevirtual 226, 201) := by decide +kernel
theorem c_229_201 : aCod 229 201 = some (.istore 2, 202) := by decide +kernel
theorem c_229_202 : aCod 229 202 = some (.iload 2, 203) := by decide +kernel
theorem c_229_203 : aCod 229 203 = some (.sipush (-1), 204) := by decide +kernel
theorem c_229_204 : aCod 229 204 = some (.if_icmp .eq 212, 207) := by decide +kernel
theorem c_229_207 : aCod 229 207 = some (.aload 0, 208) := by decide +kernel
theorem c_229_208 : aCod 229 208 = some (.iload 2, 209) := by decide +kernel
theorem c_229_209 : aCod 229 209 = some (.invokevirtual 227, 212) := by decide +kernel
theorem c_229_212 : aCod 229 212 = some (.aload 0, 213) := by decide +kernel
theorem c_229_213 : aCod 229 213 = some (.iload 2, 214) := by decide +kernel
theorem c_229_214 : aCod 229 214 = some (.sipush (-1), 215) := by decide +kernel
theorem c_229_215 : aCod 229 215 = some (.if_icmp .eq 225, 218) := by decide +kernel
theorem c_229_218 : aCod 229 218 = some (.sipush 40, 220) := by decide +kernel
theorem c_229_220 : aCod 229 220 = some (.iload 2, 221) := by decide +kernel
theorem c_229_221 : aCod 229 221 = some (.iadd, 222) := by decide +kernel
theorem c_229_222 : aCod 229 222 = some (.goto 237, 225) := by decide +kernel
theorem c_229_225 : aCod 229 225 = some (.sipush 1000, 228) := by decide +kernel
theorem c_229_228 : aCod 229 228 = some (.aload 0, 229) := by decide +kernel
theorem c_229_229 : aCod 229 229 = some (.sipush 0, 230) := by decide +kernel
theorem c_229_230 : aCod 229 230 = some (.sipush 9999, 233) := by decide +kernel
theorem c_229_233 : aCod 229 233 = some (.invokevirtual 142, 236) := by decide +kernel
theorem c_229_236 : aCod 229 236 = some (.iadd, 237) := by decide +kernel
theorem c_229_237 : aCod 229 237 = some (.invokevirtual 218, 240) := by decide +kernel
theorem c_229_240 : aCod 229 240 = some (.aload 0, 241) := by decide +kernel
theorem c_229_241 : aCod 229 241 = some (.invokevirtual 228, 244) := by decide +kernel
theorem c_229_244 : aCod 229 244 = some (.return_, 245) := by decide +kernel
