/-! the code, row by row (gen19.py) -/
theorem c_130_0 : aCod 130 0 = some (.lload 0, 1) := by decide +kernel
theorem c_130_1 : aCod 130 1 = some (.lload 2, 2) := by decide +kernel
theorem c_130_2 : aCod 130 2 = some (.lcmp, 3) := by decide +kernel
theorem c_130_3 : aCod 130 3 = some (.ifCond .lt 17, 6) := by decide +kernel
theorem c_130_6 : aCod 130 6 = some (.lload 0, 7) := by decide +kernel
theorem c_130_7 : aCod 130 7 = some (.lload 4, 9) := by decide +kernel
theorem c_130_9 : aCod 130 9 = some (.lcmp, 10) := by decide +kernel
theorem c_130_10 : aCod 130 10 = some (.ifCond .gt 17, 13) := by decide +kernel
theorem c_130_13 : aCod 130 13 = some (.sipush 1, 14) := by decide +kernel
theorem c_130_14 : aCod 130 14 = some (.goto 18, 17) := by decide +kernel
theorem c_130_17 : aCod 130 17 = some (.sipush 0, 18) := by decide +kernel
theorem c_130_18 : aCod 130 18 = some (.ireturn, 19) := by decide +kernel
theorem c_131_0 : aCod 131 0 = some (.aload 0, 1) := by decide +kernel
theorem c_131_1 : aCod 131 1 = some (.getfield 2305, 4) := by decide +kernel
theorem c_131_4 : aCod 131 4 = some (.sipush 20, 6) := by decide +kernel
theorem c_131_6 : aCod 131 6 = some (.iadd, 7) := by decide +kernel
theorem c_131_7 : aCod 131 7 = some (.sipush 1600, 10) := by decide +kernel
theorem c_131_10 : aCod 131 10 = some (.if_icmp .le 25, 13) := by decide +kernel
theorem c_131_13 : aCod 131 13 = some (.aload 0, 14) := by decide +kernel
theorem c_131_14 : aCod 131 14 = some (.getfield 2313, 17) := by decide +kernel
theorem c_131_17 : aCod 131 17 = some (.sipush 0, 18) := by decide +kernel
theorem c_131_18 : aCod 131 18 = some (.dup2, 19) := by decide +kernel
theorem c_131_19 : aCod 131 19 = some (.iaload, 20) := by decide +kernel
theorem c_131_20 : aCod 131 20 = some (.sipush 1, 21) := by decide +kernel
theorem c_131_21 : aCod 131 21 = some (.iadd, 22) := by decide +kernel
theorem c_131_22 : aCod 131 22 = some (.iastore, 23) := by decide +kernel
theorem c_131_23 : aCod 131 23 = some (.sipush (-1), 24) := by decide +kernel
theorem c_131_24 : aCod 131 24 = some (.ireturn, 25) := by decide +kernel
theorem c_131_25 : aCod 131 25 = some (.sipush 0, 26) := by decide +kernel
theorem c_131_26 : aCod 131 26 = some (.istore 6, 28) := by decide +kernel
theorem c_131_28 : aCod 131 28 = some (.iload 6, 30) := by decide +kernel
theorem c_131_30 : aCod 131 30 = some (.sipush 20, 32) := by decide +kernel
theorem c_131_32 : aCod 131 32 = some (.if_icmp .ge 124, 35) := by decide +kernel
theorem c_131_35 : aCod 131 35 = some (.iload 6, 37) := by decide +kernel
theorem c_131_37 : aCod 131 37 = some (.sipush 4, 38) := by decide +kernel
theorem c_131_38 : aCod 131 38 = some (.if_icmp .ge 45, 41) := by decide +kernel
theorem c_131_41 : aCod 131 41 = some (.iload 1, 42) := by decide +kernel
theorem c_131_42 : aCod 131 42 = some (.goto 81, 45) := by decide +kernel
theorem c_131_45 : aCod 131 45 = some (.iload 6, 47) := by decide +kernel
theorem c_131_47 : aCod 131 47 = some (.sipush 8, 49) := by decide +kernel
theorem c_131_49 : aCod 131 49 = some (.if_icmp .ge 56, 52) := by decide +kernel
theorem c_131_52 : aCod 131 52 = some (.iload 2, 53) := by decide +kernel
theorem c_131_53 : aCod 131 53 = some (.goto 81, 56) := by decide +kernel
theorem c_131_56 : aCod 131 56 = some (.iload 6, 58) := by decide +kernel
theorem c_131_58 : aCod 131 58 = some (.sipush 12, 60) := by decide +kernel
theorem c_131_60 : aCod 131 60 = some (.if_icmp .ge 67, 63) := by decide +kernel
theorem c_131_63 : aCod 131 63 = some (.iload 3, 64) := by decide +kernel
theorem c_131_64 : aCod 131 64 = some (.goto 81, 67) := by decide +kernel
theorem c_131_67 : aCod 131 67 = some (.iload 6, 69) := by decide +kernel
theorem c_131_69 : aCod 131 69 = some (.sipush 16, 71) := by decide +kernel
theorem c_131_71 : aCod 131 71 = some (.if_icmp .ge 79, 74) := by decide +kernel
theorem c_131_74 : aCod 131 74 = some (.iload 4, 76) := by decide +kernel
theorem c_131_76 : aCod 131 76 = some (.goto 81, 79) := by decide +kernel
theorem c_131_79 : aCod 131 79 = some (.iload 5, 81) := by decide +kernel
theorem c_131_81 : aCod 131 81 = some (.istore 7, 83) := by decide +kernel
theorem c_131_83 : aCod 131 83 = some (.aload 0, 84) := by decide +kernel
theorem c_131_84 : aCod 131 84 = some (.getfield 2304, 87) := by decide +kernel
theorem c_131_87 : aCod 131 87 = some (.aload 0, 88) := by decide +kernel
theorem c_131_88 : aCod 131 88 = some (.getfield 2305, 91) := by decide +kernel
theorem c_131_91 : aCod 131 91 = some (.iload 7, 93) := by decide +kernel
theorem c_131_93 : aCod 131 93 = some (.sipush 8, 95) := by decide +kernel
theorem c_131_95 : aCod 131 95 = some (.sipush 3, 96) := by decide +kernel
theorem c_131_96 : aCod 131 96 = some (.iload 6, 98) := by decide +kernel
theorem c_131_98 : aCod 131 98 = some (.sipush 4, 99) := by decide +kernel
theorem c_131_99 : aCod 131 99 = some (.irem, 100) := by decide +kernel
theorem c_131_100 : aCod 131 100 = some (.isub, 101) := by decide +kernel
theorem c_131_101 : aCod 131 101 = some (.imul, 102) := by decide +kernel
theorem c_131_102 : aCod 131 102 = some (.ishr, 103) := by decide +kernel
theorem c_131_103 : aCod 131 103 = some (.sipush 255, 106) := by decide +kernel
theorem c_131_106 : aCod 131 106 = some (.iand, 107) := by decide +kernel
theorem c_131_107 : aCod 131 107 = some (.iastore, 108) := by decide +kernel
theorem c_131_108 : aCod 131 108 = some (.aload 0, 109) := by decide +kernel
theorem c_131_109 : aCod 131 109 = some (.dup, 110) := by decide +kernel
theorem c_131_110 : aCod 131 110 = some (.getfield 2305, 113) := by decide +kernel
theorem c_131_113 : aCod 131 113 = some (.sipush 1, 114) := by decide +kernel
theorem c_131_114 : aCod 131 114 = some (.iadd, 115) := by decide +kernel
theorem c_131_115 : aCod 131 115 = some (.putfield 2305, 118) := by decide +kernel
theorem c_131_118 : aCod 131 118 = some (.iinc 6 1, 121) := by decide +kernel
theorem c_131_121 : aCod 131 121 = some (.goto 28, 124) := by decide +kernel
theorem c_131_124 : aCod 131 124 = some (.aload 0, 125) := by decide +kernel
theorem c_131_125 : aCod 131 125 = some (.getfield 2305, 128) := by decide +kernel
theorem c_131_128 : aCod 131 128 = some (.ireturn, 129) := by decide +kernel
theorem c_132_0 : aCod 132 0 = some (.iload 1, 1) := by decide +kernel
theorem c_132_1 : aCod 132 1 = some (.ifCond .lt 12, 4) := by decide +kernel
theorem c_132_4 : aCod 132 4 = some (.iload 1, 5) := by decide +kernel
theorem c_132_5 : aCod 132 5 = some (.aload 0, 6) := by decide +kernel
theorem c_132_6 : aCod 132 6 = some (.getfield 2305, 9) := by decide +kernel
theorem c_132_9 : aCod 132 9 = some (.if_icmp .le 24, 12) := by decide +kernel
theorem c_132_12 : aCod 132 12 = some (.aload 0, 13) := by decide +kernel
theorem c_132_13 : aCod 132 13 = some (.getfield 2313, 16) := by decide +kernel
theorem c_132_16 : aCod 132 16 = some (.sipush 0, 17) := by decide +kernel
theorem c_132_17 : aCod 132 17 = some (.dup2, 18) := by decide +kernel
theorem c_132_18 : aCod 132 18 = some (.iaload, 19) := by decide +kernel
theorem c_132_19 : aCod 132 19 = some (.sipush 1, 20) := by decide +kernel
theorem c_132_20 : aCod 132 20 = some (.iadd, 21) := by decide +kernel
theorem c_132_21 : aCod 132 21 = some (.iastore, 22) := by decide +kernel
theorem c_132_22 : aCod 132 22 = some (.sipush 0, 23) := by decide +kernel
theorem c_132_23 : aCod 132 23 = some (.ireturn, 24) := by decide +kernel
theorem c_132_24 : aCod 132 24 = some (.aload 0, 25) := by decide +kernel
theorem c_132_25 : aCod 132 25 = some (.iload 1, 26) := by decide +kernel
theorem c_132_26 : aCod 132 26 = some (.putfield 2305, 29) := by decide +kernel
theorem c_132_29 : aCod 132 29 = some (.sipush 1, 30) := by decide +kernel
theorem c_132_30 : aCod 132 30 = some (.ireturn, 31) := by decide +kernel
theorem c_133_0 : aCod 133 0 = some (.aload 0, 1) := by decide +kernel
theorem c_133_1 : aCod 133 1 = some (.getfield 2309, 4) := by decide +kernel
theorem c_133_4 : aCod 133 4 = some (.ifCond .eq 8, 7) := by decide +kernel
theorem c_133_7 : aCod 133 7 = some (.return_, 8) := by decide +kernel
theorem c_133_8 : aCod 133 8 = some (.aload 0, 9) := by decide +kernel
theorem c_133_9 : aCod 133 9 = some (.iload 1, 10) := by decide +kernel
theorem c_133_10 : aCod 133 10 = some (.putfield 2309, 13) := by decide +kernel
theorem c_133_13 : aCod 133 13 = some (.aload 0, 14) := by decide +kernel
theorem c_133_14 : aCod 133 14 = some (.iload 2, 15) := by decide +kernel
theorem c_133_15 : aCod 133 15 = some (.putfield 2310, 18) := by decide +kernel
theorem c_133_18 : aCod 133 18 = some (.return_, 19) := by decide +kernel
theorem c_134_0 : aCod 134 0 = some (.iload 0, 1) := by decide +kernel
theorem c_134_1 : aCod 134 1 = some (.sipush 97, 3) := by decide +kernel
theorem c_134_3 : aCod 134 3 = some (.if_icmp .lt 16, 6) := by decide +kernel
theorem c_134_6 : aCod 134 6 = some (.iload 0, 7) := by decide +kernel
theorem c_134_7 : aCod 134 7 = some (.sipush 122, 9) := by decide +kernel
theorem c_134_9 : aCod 134 9 = some (.if_icmp .gt 16, 12) := by decide +kernel
theorem c_134_12 : aCod 134 12 = some (.sipush 1, 13) := by decide +kernel
theorem c_134_13 : aCod 134 13 = some (.goto 17, 16) := by decide +kernel
theorem c_134_16 : aCod 134 16 = some (.sipush 0, 17) := by decide +kernel
theorem c_134_17 : aCod 134 17 = some (.ireturn, 18) := by decide +kernel
theorem c_135_0 : aCod 135 0 = some (.iload 0, 1) := by decide +kernel
theorem c_135_1 : aCod 135 1 = some (.sipush 48, 3) := by decide +kernel
theorem c_135_3 : aCod 135 3 = some (.if_icmp .lt 16, 6) := by decide +kernel
theorem c_135_6 : aCod 135 6 = some (.iload 0, 7) := by decide +kernel
theorem c_135_7 : aCod 135 7 = some (.sipush 57, 9) := by decide +kernel
theorem c_135_9 : aCod 135 9 = some (.if_icmp .gt 16, 12) := by decide +kernel
theorem c_135_12 : aCod 135 12 = some (.sipush 1, 13) := by decide +kernel
theorem c_135_13 : aCod 135 13 = some (.goto 17, 16) := by decide +kernel
theorem c_135_16 : aCod 135 16 = some (.sipush 0, 17) := by decide +kernel
theorem c_135_17 : aCod 135 17 = some (.ireturn, 18) := by decide +kernel
theorem c_136_0 : aCod 136 0 = some (.aload 0, 1) := by decide +kernel
theorem c_136_1 : aCod 136 1 = some (.getfield 2306, 4) := by decide +kernel
theorem c_136_4 : aCod 136 4 = some (.aload 0, 5) := by decide +kernel
theorem c_136_5 : aCod 136 5 = some (.getfield 2307, 8) := by decide +kernel
theorem c_136_8 : aCod 136 8 = some (.if_icmp .ge 52, 11) := by decide +kernel
theorem c_136_11 : aCod 136 11 = some (.aload 0, 12) := by decide +kernel
theorem c_136_12 : aCod 136 12 = some (.getfield 2304, 15) := by decide +kernel
theorem c_136_15 : aCod 136 15 = some (.aload 0, 16) := by decide +kernel
theorem c_136_16 : aCod 136 16 = some (.getfield 2306, 19) := by decide +kernel
theorem c_136_19 : aCod 136 19 = some (.iaload, 20) := by decide +kernel
theorem c_136_20 : aCod 136 20 = some (.sipush 10, 22) := by decide +kernel
theorem c_136_22 : aCod 136 22 = some (.if_icmp .eq 39, 25) := by decide +kernel
theorem c_136_25 : aCod 136 25 = some (.aload 0, 26) := by decide +kernel
theorem c_136_26 : aCod 136 26 = some (.getfield 2304, 29) := by decide +kernel
theorem c_136_29 : aCod 136 29 = some (.aload 0, 30) := by decide +kernel
theorem c_136_30 : aCod 136 30 = some (.getfield 2306, 33) := by decide +kernel
theorem c_136_33 : aCod 136 33 = some (.iaload, 34) := by decide +kernel
theorem c_136_34 : aCod 136 34 = some (.sipush 32, 36) := by decide +kernel
theorem c_136_36 : aCod 136 36 = some (.if_icmp .ne 52, 39) := by decide +kernel
theorem c_136_39 : aCod 136 39 = some (.aload 0, 40) := by decide +kernel
theorem c_136_40 : aCod 136 40 = some (.dup, 41) := by decide +kernel
theorem c_136_41 : aCod 136 41 = some (.getfield 2306, 44) := by decide +kernel
theorem c_136_44 : aCod 136 44 = some (.sipush 1, 45) := by decide +kernel
theorem c_136_45 : aCod 136 45 = some (.iadd, 46) := by decide +kernel
theorem c_136_46 : aCod 136 46 = some (.putfield 2306, 49) := by decide +kernel
theorem c_136_49 : aCod 136 49 = some (.goto 0, 52) := by decide +kernel
theorem c_136_52 : aCod 136 52 = some (.aload 0, 53) := by decide +kernel
theorem c_136_53 : aCod 136 53 = some (.getfield 2306, 56) := by decide +kernel
theorem c_136_56 : aCod 136 56 = some (.aload 0, 57) := by decide +kernel
theorem c_136_57 : aCod 136 57 = some (.getfield 2307, 60) := by decide +kernel
theorem c_136_60 : aCod 136 60 = some (.if_icmp .ge 75, 63) := by decide +kernel
theorem c_136_63 : aCod 136 63 = some (.aload 0, 64) := by decide +kernel
theorem c_136_64 : aCod 136 64 = some (.getfield 2304, 67) := by decide +kernel
theorem c_136_67 : aCod 136 67 = some (.aload 0, 68) := by decide +kernel
theorem c_136_68 : aCod 136 68 = some (.getfield 2306, 71) := by decide +kernel
theorem c_136_71 : aCod 136 71 = some (.iaload, 72) := by decide +kernel
theorem c_136_72 : aCod 136 72 = some (.goto 76, 75) := by decide +kernel
theorem c_136_75 : aCod 136 75 = some (.sipush (-1), 76) := by decide +kernel
theorem c_136_76 : aCod 136 76 = some (.ireturn, 77) := by decide +kernel
theorem c_137_0 : aCod 137 0 = some (.aload 0, 1) := by decide +kernel
theorem c_137_1 : aCod 137 1 = some (.getfield 2309, 4) := by decide +kernel
theorem c_137_4 : aCod 137 4 = some (.ifCond .ne 28, 7) := by decide +kernel
theorem c_137_7 : aCod 137 7 = some (.aload 0, 8) := by decide +kernel
theorem c_137_8 : aCod 137 8 = some (.invokevirtual 136, 11) := by decide +kernel
theorem c_137_11 : aCod 137 11 = some (.invokestatic 134, 14) := by decide +kernel
theorem c_137_14 : aCod 137 14 = some (.ifCond .eq 28, 17) := by decide +kernel
theorem c_137_17 : aCod 137 17 = some (.aload 0, 18) := by decide +kernel
theorem c_137_18 : aCod 137 18 = some (.getfield 2306, 21) := by decide +kernel
theorem c_137_21 : aCod 137 21 = some (.aload 0, 22) := by decide +kernel
theorem c_137_22 : aCod 137 22 = some (.getfield 2308, 25) := by decide +kernel
theorem c_137_25 : aCod 137 25 = some (.if_icmp .ne 30, 28) := by decide +kernel
theorem c_137_28 : aCod 137 28 = some (.sipush 0, 29) := by decide +kernel
theorem c_137_29 : aCod 137 29 = some (.ireturn, 30) := by decide +kernel
theorem c_137_30 : aCod 137 30 = some (.aload 0, 31) := by decide +kernel
theorem c_137_31 : aCod 137 31 = some (.getfield 2306, 34) := by decide +kernel
theorem c_137_34 : aCod 137 34 = some (.istore 2, 35) := by decide +kernel
theorem c_137_35 : aCod 137 35 = some (.iload 2, 36) := by decide +kernel
theorem c_137_36 : aCod 137 36 = some (.aload 0, 37) := by decide +kernel
theorem c_137_37 : aCod 137 37 = some (.getfield 2307, 40) := by decide +kernel
theorem c_137_40 : aCod 137 40 = some (.if_icmp .ge 61, 43) := by decide +kernel
theorem c_137_43 : aCod 137 43 = some (.aload 0, 44) := by decide +kernel
theorem c_137_44 : aCod 137 44 = some (.getfield 2304, 47) := by decide +kernel
theorem c_137_47 : aCod 137 47 = some (.iload 2, 48) := by decide +kernel
theorem c_137_48 : aCod 137 48 = some (.iaload, 49) := by decide +kernel
theorem c_137_49 : aCod 137 49 = some (.invokestatic 134, 52) := by decide +kernel
theorem c_137_52 : aCod 137 52 = some (.ifCond .eq 61, 55) := by decide +kernel
theorem c_137_55 : aCod 137 55 = some (.iinc 2 1, 58) := by decide +kernel
theorem c_137_58 : aCod 137 58 = some (.goto 35, 61) := by decide +kernel
theorem c_137_61 : aCod 137 61 = some (.iload 2, 62) := by decide +kernel
theorem c_137_62 : aCod 137 62 = some (.aload 0, 63) := by decide +kernel
theorem c_137_63 : aCod 137 63 = some (.getfield 2306, 66) := by decide +kernel
theorem c_137_66 : aCod 137 66 = some (.isub, 67) := by decide +kernel
theorem c_137_67 : aCod 137 67 = some (.aload 1, 68) := by decide +kernel
theorem c_137_68 : aCod 137 68 = some (.arraylength, 69) := by decide +kernel
theorem c_137_69 : aCod 137 69 = some (.if_icmp .eq 74, 72) := by decide +kernel
theorem c_137_72 : aCod 137 72 = some (.sipush 0, 73) := by decide +kernel
theorem c_137_73 : aCod 137 73 = some (.ireturn, 74) := by decide +kernel
theorem c_137_74 : aCod 137 74 = some (.sipush 0, 75) := by decide +kernel
theorem c_137_75 : aCod 137 75 = some (.istore 3, 76) := by decide +kernel
theorem c_137_76 : aCod 137 76 = some (.iload 3, 77) := by decide +kernel
theorem c_137_77 : aCod 137 77 = some (.aload 1, 78) := by decide +kernel
theorem c_137_78 : aCod 137 78 = some (.arraylength, 79) := by decide +kernel
theorem c_137_79 : aCod 137 79 = some (.if_icmp .ge 107, 82) := by decide +kernel
theorem c_137_82 : aCod 137 82 = some (.aload 0, 83) := by decide +kernel
theorem c_137_83 : aCod 137 83 = some (.getfield 2304, 86) := by decide +kernel
theorem c_137_86 : aCod 137 86 = some (.aload 0, 87) := by decide +kernel
theorem c_137_87 : aCod 137 87 = some (.getfield 2306, 90) := by decide +kernel
theorem c_137_90 : aCod 137 90 = some (.iload 3, 91) := by decide +kernel
theorem c_137_91 : aCod 137 91 = some (.iadd, 92) := by decide +kernel
theorem c_137_92 : aCod 137 92 = some (.iaload, 93) := by decide +kernel
theorem c_137_93 : aCod 137 93 = some (.aload 1, 94) := by decide +kernel
theorem c_137_94 : aCod 137 94 = some (.iload 3, 95) := by decide +kernel
theorem c_137_95 : aCod 137 95 = some (.caload, 96) := by decide +kernel
theorem c_137_96 : aCod 137 96 = some (.if_icmp .eq 101, 99) := by decide +kernel
theorem c_137_99 : aCod 137 99 = some (.sipush 0, 100) := by decide +kernel
theorem c_137_100 : aCod 137 100 = some (.ireturn, 101) := by decide +kernel
theorem c_137_101 : aCod 137 101 = some (.iinc 3 1, 104) := by decide +kernel
theorem c_137_104 : aCod 137 104 = some (.goto 76, 107) := by decide +kernel
theorem c_137_107 : aCod 137 107 = some (.sipush 1, 108) := by decide +kernel
theorem c_137_108 : aCod 137 108 = some (.ireturn, 109) := by decide +kernel
theorem c_138_0 : aCod 138 0 = some (.aload 0, 1) := by decide +kernel
theorem c_138_1 : aCod 138 1 = some (.aload 1, 2) := by decide +kernel
theorem c_138_2 : aCod 138 2 = some (.invokevirtual 137, 5) := by decide +kernel
theorem c_138_5 : aCod 138 5 = some (.ifCond .ne 10, 8) := by decide +kernel
theorem c_138_8 : aCod 138 8 = some (.sipush 0, 9) := by decide +kernel
theorem c_138_9 : aCod 138 9 = some (.ireturn, 10) := by decide +kernel
theorem c_138_10 : aCod 138 10 = some (.aload 0, 11) := by decide +kernel
theorem c_138_11 : aCod 138 11 = some (.dup, 12) := by decide +kernel
theorem c_138_12 : aCod 138 12 = some (.getfield 2306, 15) := by decide +kernel
theorem c_138_15 : aCod 138 15 = some (.aload 1, 16) := by decide +kernel
theorem c_138_16 : aCod 138 16 = some (.arraylength, 17) := by decide +kernel
theorem c_138_17 : aCod 138 17 = some (.iadd, 18) := by decide +kernel
theorem c_138_18 : aCod 138 18 = some (.putfield 2306, 21) := by decide +kernel
theorem c_138_21 : aCod 138 21 = some (.aload 0, 22) := by decide +kernel
theorem c_138_22 : aCod 138 22 = some (.aload 0, 23) := by decide +kernel
theorem c_138_23 : aCod 138 23 = some (.getfield 2306, 26) := by decide +kernel
theorem c_138_26 : aCod 138 26 = some (.putfield 2308, 29) := by decide +kernel
theorem c_138_29 : aCod 138 29 = some (.sipush 1, 30) := by decide +kernel
theorem c_138_30 : aCod 138 30 = some (.ireturn, 31) := by decide +kernel
theorem c_139_0 : aCod 139 0 = some (.aload 0, 1) := by decide +kernel
theorem c_139_1 : aCod 139 1 = some (.getfield 2309, 4) := by decide +kernel
theorem c_139_4 : aCod 139 4 = some (.ifCond .ne 24, 7) := by decide +kernel
theorem c_139_7 : aCod 139 7 = some (.aload 0, 8) := by decide +kernel
theorem c_139_8 : aCod 139 8 = some (.aload 1, 9) := by decide +kernel
theorem c_139_9 : aCod 139 9 = some (.invokevirtual 138, 12) := by decide +kernel
theorem c_139_12 : aCod 139 12 = some (.ifCond .ne 24, 15) := by decide +kernel
theorem c_139_15 : aCod 139 15 = some (.aload 0, 16) := by decide +kernel
theorem c_139_16 : aCod 139 16 = some (.sipush 1, 17) := by decide +kernel
theorem c_139_17 : aCod 139 17 = some (.aload 0, 18) := by decide +kernel
theorem c_139_18 : aCod 139 18 = some (.getfield 2306, 21) := by decide +kernel
theorem c_139_21 : aCod 139 21 = some (.invokevirtual 133, 24) := by decide +kernel
theorem c_139_24 : aCod 139 24 = some (.return_, 25) := by decide +kernel
theorem c_140_0 : aCod 140 0 = some (.aload 0, 1) := by decide +kernel
theorem c_140_1 : aCod 140 1 = some (.getfield 2309, 4) := by decide +kernel
theorem c_140_4 : aCod 140 4 = some (.ifCond .ne 15, 7) := by decide +kernel
theorem c_140_7 : aCod 140 7 = some (.aload 0, 8) := by decide +kernel
theorem c_140_8 : aCod 140 8 = some (.invokevirtual 136, 11) := by decide +kernel
theorem c_140_11 : aCod 140 11 = some (.iload 1, 12) := by decide +kernel
theorem c_140_12 : aCod 140 12 = some (.if_icmp .eq 17, 15) := by decide +kernel
theorem c_140_15 : aCod 140 15 = some (.sipush 0, 16) := by decide +kernel
theorem c_140_16 : aCod 140 16 = some (.ireturn, 17) := by decide +kernel
theorem c_140_17 : aCod 140 17 = some (.aload 0, 18) := by decide +kernel
theorem c_140_18 : aCod 140 18 = some (.dup, 19) := by decide +kernel
theorem c_140_19 : aCod 140 19 = some (.getfield 2306, 22) := by decide +kernel
theorem c_140_22 : aCod 140 22 = some (.sipush 1, 23) := by decide +kernel
theorem c_140_23 : aCod 140 23 = some (.iadd, 24) := by decide +kernel
theorem c_140_24 : aCod 140 24 = some (.putfield 2306, 27) := by decide +kernel
theorem c_140_27 : aCod 140 27 = some (.sipush 1, 28) := by decide +kernel
theorem c_140_28 : aCod 140 28 = some (.ireturn, 29) := by decide +kernel
theorem c_141_0 : aCod 141 0 = some (.aload 0, 1) := by decide +kernel
theorem c_141_1 : aCod 141 1 = some (.getfield 2309, 4) := by decide +kernel
theorem c_141_4 : aCod 141 4 = some (.ifCond .ne 24, 7) := by decide +kernel
theorem c_141_7 : aCod 141 7 = some (.aload 0, 8) := by decide +kernel
theorem c_141_8 : aCod 141 8 = some (.iload 1, 9) := by decide +kernel
theorem c_141_9 : aCod 141 9 = some (.invokevirtual 140, 12) := by decide +kernel
theorem c_141_12 : aCod 141 12 = some (.ifCond .ne 24, 15) := by decide +kernel
theorem c_141_15 : aCod 141 15 = some (.aload 0, 16) := by decide +kernel
theorem c_141_16 : aCod 141 16 = some (.sipush 1, 17) := by decide +kernel
theorem c_141_17 : aCod 141 17 = some (.aload 0, 18) := by decide +kernel
theorem c_141_18 : aCod 141 18 = some (.getfield 2306, 21) := by decide +kernel
theorem c_141_21 : aCod 141 21 = some (.invokevirtual 133, 24) := by decide +kernel
theorem c_141_24 : aCod 141 24 = some (.return_, 25) := by decide +kernel
theorem c_142_0 : aCod 142 0 = some (.aload 0, 1) := by decide +kernel
theorem c_142_1 : aCod 142 1 = some (.getfield 2309, 4) := by decide +kernel
theorem c_142_4 : aCod 142 4 = some (.ifCond .eq 9, 7) := by decide +kernel
theorem c_142_7 : aCod 142 7 = some (.sipush 0, 8) := by decide +kernel
theorem c_142_8 : aCod 142 8 = some (.ireturn, 9) := by decide +kernel
theorem c_142_9 : aCod 142 9 = some (.aload 0, 10) := by decide +kernel
theorem c_142_10 : aCod 142 10 = some (.invokevirtual 136, 13) := by decide +kernel
theorem c_142_13 : aCod 142 13 = some (.invokestatic 135, 16) := by decide +kernel
theorem c_142_16 : aCod 142 16 = some (.ifCond .eq 30, 19) := by decide +kernel
theorem c_142_19 : aCod 142 19 = some (.aload 0, 20) := by decide +kernel
theorem c_142_20 : aCod 142 20 = some (.getfield 2306, 23) := by decide +kernel
theorem c_142_23 : aCod 142 23 = some (.aload 0, 24) := by decide +kernel
theorem c_142_24 : aCod 142 24 = some (.getfield 2308, 27) := by decide +kernel
theorem c_142_27 : aCod 142 27 = some (.if_icmp .ne 41, 30) := by decide +kernel
theorem c_142_30 : aCod 142 30 = some (.aload 0, 31) := by decide +kernel
theorem c_142_31 : aCod 142 31 = some (.sipush 1, 32) := by decide +kernel
theorem c_142_32 : aCod 142 32 = some (.aload 0, 33) := by decide +kernel
theorem c_142_33 : aCod 142 33 = some (.getfield 2306, 36) := by decide +kernel
theorem c_142_36 : aCod 142 36 = some (.invokevirtual 133, 39) := by decide +kernel
theorem c_142_39 : aCod 142 39 = some (.sipush 0, 40) := by decide +kernel
theorem c_142_40 : aCod 142 40 = some (.ireturn, 41) := by decide +kernel
theorem c_142_41 : aCod 142 41 = some (.aload 0, 42) := by decide +kernel
theorem c_142_42 : aCod 142 42 = some (.getfield 2306, 45) := by decide +kernel
theorem c_142_45 : aCod 142 45 = some (.istore 3, 46) := by decide +kernel
theorem c_142_46 : aCod 142 46 = some (.sipush 0, 47) := by decide +kernel
theorem c_142_47 : aCod 142 47 = some (.istore 4, 49) := by decide +kernel
theorem c_142_49 : aCod 142 49 = some (.aload 0, 50) := by decide +kernel
theorem c_142_50 : aCod 142 50 = some (.getfield 2306, 53) := by decide +kernel
theorem c_142_53 : aCod 142 53 = some (.aload 0, 54) := by decide +kernel
theorem c_142_54 : aCod 142 54 = some (.getfield 2307, 57) := by decide +kernel
theorem c_142_57 : aCod 142 57 = some (.if_icmp .ge 129, 60) := by decide +kernel
theorem c_142_60 : aCod 142 60 = some (.aload 0, 61) := by decide +kernel
theorem c_142_61 : aCod 142 61 = some (.getfield 2304, 64) := by decide +kernel
theorem c_142_64 : aCod 142 64 = some (.aload 0, 65) := by decide +kernel
theorem c_142_65 : aCod 142 65 = some (.getfield 2306, 68) := by decide +kernel
theorem c_142_68 : aCod 142 68 = some (.iaload, 69) := by decide +kernel
theorem c_142_69 : aCod 142 69 = some (.invokestatic 135, 72) := by decide +kernel
theorem c_142_72 : aCod 142 72 = some (.ifCond .eq 129, 75) := by decide +kernel
theorem c_142_75 : aCod 142 75 = some (.aload 0, 76) := by decide +kernel
theorem c_142_76 : aCod 142 76 = some (.getfield 2306, 79) := by decide +kernel
theorem c_142_79 : aCod 142 79 = some (.iload 3, 80) := by decide +kernel
theorem c_142_80 : aCod 142 80 = some (.isub, 81) := by decide +kernel
theorem c_142_81 : aCod 142 81 = some (.sipush 4, 82) := by decide +kernel
theorem c_142_82 : aCod 142 82 = some (.if_icmp .ne 96, 85) := by decide +kernel
theorem c_142_85 : aCod 142 85 = some (.aload 0, 86) := by decide +kernel
theorem c_142_86 : aCod 142 86 = some (.sipush 1, 87) := by decide +kernel
theorem c_142_87 : aCod 142 87 = some (.aload 0, 88) := by decide +kernel
theorem c_142_88 : aCod 142 88 = some (.getfield 2306, 91) := by decide +kernel
theorem c_142_91 : aCod 142 91 = some (.invokevirtual 133, 94) := by decide +kernel
theorem c_142_94 : aCod 142 94 = some (.sipush 0, 95) := by decide +kernel
theorem c_142_95 : aCod 142 95 = some (.ireturn, 96) := by decide +kernel
theorem c_142_96 : aCod 142 96 = some (.sipush 10, 98) := by decide +kernel
theorem c_142_98 : aCod 142 98 = some (.iload 4, 100) := by decide +kernel
theorem c_142_100 : aCod 142 100 = some (.imul, 101) := by decide +kernel
theorem c_142_101 : aCod 142 101 = some (.aload 0, 102) := by decide +kernel
theorem c_142_102 : aCod 142 102 = some (.getfield 2304, 105) := by decide +kernel
theorem c_142_105 : aCod 142 105 = some (.aload 0, 106) := by decide +kernel
theorem c_142_106 : aCod 142 106 = some (.getfield 2306, 109) := by decide +kernel
theorem c_142_109 : aCod 142 109 = some (.iaload, 110) := by decide +kernel
theorem c_142_110 : aCod 142 110 = some (.iadd, 111) := by decide +kernel
theorem c_142_111 : aCod 142 111 = some (.sipush 48, 113) := by decide +kernel
theorem c_142_113 : aCod 142 113 = some (.isub, 114) := by decide +kernel
theorem c_142_114 : aCod 142 114 = some (.istore 4, 116) := by decide +kernel
theorem c_142_116 : aCod 142 116 = some (.aload 0, 117) := by decide +kernel
theorem c_142_117 : aCod 142 117 = some (.dup, 118) := by decide +kernel
theorem c_142_118 : aCod 142 118 = some (.getfield 2306, 121) := by decide +kernel
theorem c_142_121 : aCod 142 121 = some (.sipush 1, 122) := by decide +kernel
theorem c_142_122 : aCod 142 122 = some (.iadd, 123) := by decide +kernel
theorem c_142_123 : aCod 142 123 = some (.putfield 2306, 126) := by decide +kernel
theorem c_142_126 : aCod 142 126 = some (.goto 49, 129) := by decide +kernel
theorem c_142_129 : aCod 142 129 = some (.aload 0, 130) := by decide +kernel
theorem c_142_130 : aCod 142 130 = some (.aload 0, 131) := by decide +kernel
theorem c_142_131 : aCod 142 131 = some (.getfield 2306, 134) := by decide +kernel
theorem c_142_134 : aCod 142 134 = some (.putfield 2308, 137) := by decide +kernel
theorem c_142_137 : aCod 142 137 = some (.aload 0, 138) := by decide +kernel
theorem c_142_138 : aCod 142 138 = some (.iload 3, 139) := by decide +kernel
theorem c_142_139 : aCod 142 139 = some (.putfield 2314, 142) := by decide +kernel
theorem c_142_142 : aCod 142 142 = some (.iload 4, 144) := by decide +kernel
theorem c_142_144 : aCod 142 144 = some (.i2l, 145) := by decide +kernel
theorem c_142_145 : aCod 142 145 = some (.iload 1, 146) := by decide +kernel
theorem c_142_146 : aCod 142 146 = some (.i2l, 147) := by decide +kernel
theorem c_142_147 : aCod 142 147 = some (.iload 2, 148) := by decide +kernel
theorem c_142_148 : aCod 142 148 = some (.i2l, 149) := by decide +kernel
theorem c_142_149 : aCod 142 149 = some (.invokestatic 130, 152) := by decide +kernel
theorem c_142_152 : aCod 142 152 = some (.ifCond .ne 161, 155) := by decide +kernel
theorem c_142_155 : aCod 142 155 = some (.aload 0, 156) := by decide +kernel
theorem c_142_156 : aCod 142 156 = some (.sipush 2, 157) := by decide +kernel
theorem c_142_157 : aCod 142 157 = some (.iload 3, 158) := by decide +kernel
theorem c_142_158 : aCod 142 158 = some (.invokevirtual 133, 161) := by decide +kernel
theorem c_142_161 : aCod 142 161 = some (.iload 4, 163) := by decide +kernel
theorem c_142_163 : aCod 142 163 = some (.ireturn, 164) := by decide +kernel
theorem c_143_0 : aCod 143 0 = some (.aload 0, 1) := by decide +kernel
theorem c_143_1 : aCod 143 1 = some (.aload 0, 2) := by decide +kernel
theorem c_143_2 : aCod 143 2 = some (.getfield 2315, 5) := by decide +kernel
theorem c_143_5 : aCod 143 5 = some (.invokevirtual 137, 8) := by decide +kernel
theorem c_143_8 : aCod 143 8 = some (.ifCond .ne 66, 11) := by decide +kernel
theorem c_143_11 : aCod 143 11 = some (.aload 0, 12) := by decide +kernel
theorem c_143_12 : aCod 143 12 = some (.aload 0, 13) := by decide +kernel
theorem c_143_13 : aCod 143 13 = some (.getfield 2316, 16) := by decide +kernel
theorem c_143_16 : aCod 143 16 = some (.invokevirtual 137, 19) := by decide +kernel
theorem c_143_19 : aCod 143 19 = some (.ifCond .ne 66, 22) := by decide +kernel
theorem c_143_22 : aCod 143 22 = some (.aload 0, 23) := by decide +kernel
theorem c_143_23 : aCod 143 23 = some (.aload 0, 24) := by decide +kernel
theorem c_143_24 : aCod 143 24 = some (.getfield 2317, 27) := by decide +kernel
theorem c_143_27 : aCod 143 27 = some (.invokevirtual 137, 30) := by decide +kernel
theorem c_143_30 : aCod 143 30 = some (.ifCond .ne 66, 33) := by decide +kernel
theorem c_143_33 : aCod 143 33 = some (.aload 0, 34) := by decide +kernel
theorem c_143_34 : aCod 143 34 = some (.aload 0, 35) := by decide +kernel
theorem c_143_35 : aCod 143 35 = some (.getfield 2318, 38) := by decide +kernel
theorem c_143_38 : aCod 143 38 = some (.invokevirtual 137, 41) := by decide +kernel
theorem c_143_41 : aCod 143 41 = some (.ifCond .ne 66, 44) := by decide +kernel
theorem c_143_44 : aCod 143 44 = some (.aload 0, 45) := by decide +kernel
theorem c_143_45 : aCod 143 45 = some (.aload 0, 46) := by decide +kernel
theorem c_143_46 : aCod 143 46 = some (.getfield 2319, 49) := by decide +kernel
theorem c_143_49 : aCod 143 49 = some (.invokevirtual 137, 52) := by decide +kernel
theorem c_143_52 : aCod 143 52 = some (.ifCond .ne 66, 55) := by decide +kernel
theorem c_143_55 : aCod 143 55 = some (.aload 0, 56) := by decide +kernel
theorem c_143_56 : aCod 143 56 = some (.aload 0, 57) := by decide +kernel
theorem c_143_57 : aCod 143 57 = some (.getfield 2320, 60) := by decide +kernel
theorem c_143_60 : aCod 143 60 = some (.invokevirtual 137, 63) := by decide +kernel
theorem c_143_63 : aCod 143 63 = some (.ifCond .eq 70, 66) := by decide +kernel
theorem c_143_66 : aCod 143 66 = some (.sipush 1, 67) := by decide +kernel
theorem c_143_67 : aCod 143 67 = some (.goto 71, 70) := by decide +kernel
theorem c_143_70 : aCod 143 70 = some (.sipush 0, 71) := by decide +kernel
theorem c_143_71 : aCod 143 71 = some (.istore 1, 72) := by decide +kernel
theorem c_143_72 : aCod 143 72 = some (.iload 1, 73) := by decide +kernel
theorem c_143_73 : aCod 143 73 = some (.ifCond .ne 142, 76) := by decide +kernel
theorem c_143_76 : aCod 143 76 = some (.aload 0, 77) := by decide +kernel
theorem c_143_77 : aCod 143 77 = some (.aload 0, 78) := by decide +kernel
theorem c_143_78 : aCod 143 78 = some (.getfield 2321, 81) := by decide +kernel
theorem c_143_81 : aCod 143 81 = some (.invokevirtual 137, 84) := by decide +kernel
theorem c_143_84 : aCod 143 84 = some (.ifCond .ne 142, 87) := by decide +kernel
theorem c_143_87 : aCod 143 87 = some (.aload 0, 88) := by decide +kernel
theorem c_143_88 : aCod 143 88 = some (.aload 0, 89) := by decide +kernel
theorem c_143_89 : aCod 143 89 = some (.getfield 2322, 92) := by decide +kernel
theorem c_143_92 : aCod 143 92 = some (.invokevirtual 137, 95) := by decide +kernel
theorem c_143_95 : aCod 143 95 = some (.ifCond .ne 142, 98) := by decide +kernel
theorem c_143_98 : aCod 143 98 = some (.aload 0, 99) := by decide +kernel
theorem c_143_99 : aCod 143 99 = some (.aload 0, 100) := by decide +kernel
theorem c_143_100 : aCod 143 100 = some (.getfield 2323, 103) := by decide +kernel
theorem c_143_103 : aCod 143 103 = some (.invokevirtual 137, 106) := by decide +kernel
theorem c_143_106 : aCod 143 106 = some (.ifCond .ne 142, 109) := by decide +kernel
theorem c_143_109 : aCod 143 109 = some (.aload 0, 110) := by decide +kernel
theorem c_143_110 : aCod 143 110 = some (.aload 0, 111) := by decide +kernel
theorem c_143_111 : aCod 143 111 = some (.getfield 2324, 114) := by decide +kernel
theorem c_143_114 : aCod 143 114 = some (.invokevirtual 137, 117) := by decide +kernel
theorem c_143_117 : aCod 143 117 = some (.ifCond .ne 142, 120) := by decide +kernel
theorem c_143_120 : aCod 143 120 = some (.aload 0, 121) := by decide +kernel
theorem c_143_121 : aCod 143 121 = some (.aload 0, 122) := by decide +kernel
theorem c_143_122 : aCod 143 122 = some (.getfield 2325, 125) := by decide +kernel
theorem c_143_125 : aCod 143 125 = some (.invokevirtual 137, 128) := by decide +kernel
theorem c_143_128 : aCod 143 128 = some (.ifCond .ne 142, 131) := by decide +kernel
theorem c_143_131 : aCod 143 131 = some (.aload 0, 132) := by decide +kernel
theorem c_143_132 : aCod 143 132 = some (.aload 0, 133) := by decide +kernel
theorem c_143_133 : aCod 143 133 = some (.getfield 2326, 136) := by decide +kernel
theorem c_143_136 : aCod 143 136 = some (.invokevirtual 137, 139) := by decide +kernel
theorem c_143_139 : aCod 143 139 = some (.ifCond .eq 146, 142) := by decide +kernel
theorem c_143_142 : aCod 143 142 = some (.sipush 1, 143) := by decide +kernel
theorem c_143_143 : aCod 143 143 = some (.goto 147, 146) := by decide +kernel
theorem c_143_146 : aCod 143 146 = some (.sipush 0, 147) := by decide +kernel
theorem c_143_147 : aCod 143 147 = some (.istore 1, 148) := by decide +kernel
theorem c_143_148 : aCod 143 148 = some (.iload 1, 149) := by decide +kernel
theorem c_143_149 : aCod 143 149 = some (.ifCond .ne 218, 152) := by decide +kernel
theorem c_143_152 : aCod 143 152 = some (.aload 0, 153) := by decide +kernel
theorem c_143_153 : aCod 143 153 = some (.aload 0, 154) := by decide +kernel
theorem c_143_154 : aCod 143 154 = some (.getfield 2327, 157) := by decide +kernel
theorem c_143_157 : aCod 143 157 = some (.invokevirtual 137, 160) := by decide +kernel
theorem c_143_160 : aCod 143 160 = some (.ifCond .ne 218, 163) := by decide +kernel
theorem c_143_163 : aCod 143 163 = some (.aload 0, 164) := by decide +kernel
theorem c_143_164 : aCod 143 164 = some (.aload 0, 165) := by decide +kernel
theorem c_143_165 : aCod 143 165 = some (.getfield 2328, 168) := by decide +kernel
theorem c_143_168 : aCod 143 168 = some (.invokevirtual 137, 171) := by decide +kernel
theorem c_143_171 : aCod 143 171 = some (.ifCond .ne 218, 174) := by decide +kernel
theorem c_143_174 : aCod 143 174 = some (.aload 0, 175) := by decide +kernel
theorem c_143_175 : aCod 143 175 = some (.aload 0, 176) := by decide +kernel
theorem c_143_176 : aCod 143 176 = some (.getfield 2329, 179) := by decide +kernel
theorem c_143_179 : aCod 143 179 = some (.invokevirtual 137, 182) := by decide +kernel
theorem c_143_182 : aCod 143 182 = some (.ifCond .ne 218, 185) := by decide +kernel
theorem c_143_185 : aCod 143 185 = some (.aload 0, 186) := by decide +kernel
theorem c_143_186 : aCod 143 186 = some (.aload 0, 187) := by decide +kernel
theorem c_143_187 : aCod 143 187 = some (.getfield 2330, 190) := by decide +kernel
theorem c_143_190 : aCod 143 190 = some (.invokevirtual 137, 193) := by decide +kernel
theorem c_143_193 : aCod 143 193 = some (.ifCond .ne 218, 196) := by decide +kernel
theorem c_143_196 : aCod 143 196 = some (.aload 0, 197) := by decide +kernel
theorem c_143_197 : aCod 143 197 = some (.aload 0, 198) := by decide +kernel
theorem c_143_198 : aCod 143 198 = some (.getfield 2331, 201) := by decide +kernel
theorem c_143_201 : aCod 143 201 = some (.invokevirtual 137, 204) := by decide +kernel
theorem c_143_204 : aCod 143 204 = some (.ifCond .ne 218, 207) := by decide +kernel
theorem c_143_207 : aCod 143 207 = some (.aload 0, 208) := by decide +kernel
theorem c_143_208 : aCod 143 208 = some (.aload 0, 209) := by decide +kernel
theorem c_143_209 : aCod 143 209 = some (.getfield 2332, 212) := by decide +kernel
theorem c_143_212 : aCod 143 212 = some (.invokevirtual 137, 215) := by decide +kernel
theorem c_143_215 : aCod 143 215 = some (.ifCond .eq 222, 218) := by decide +kernel
theorem c_143_218 : aCod 143 218 = some (.sipush 1, 219) := by decide +kernel
theorem c_143_219 : aCod 143 219 = some (.goto 223, 222) := by decide +kernel
theorem c_143_222 : aCod 143 222 = some (.sipush 0, 223) := by decide +kernel
theorem c_143_223 : aCod 143 223 = some (.istore 1, 224) := by decide +kernel
theorem c_143_224 : aCod 143 224 = some (.iload 1, 225) := by decide +kernel
theorem c_143_225 : aCod 143 225 = some (.ifCond .ne 294, 228) := by decide +kernel
theorem c_143_228 : aCod 143 228 = some (.aload 0, 229) := by decide +kernel
theorem c_143_229 : aCod 143 229 = some (.aload 0, 230) := by decide +kernel
theorem c_143_230 : aCod 143 230 = some (.getfield 2333, 233) := by decide +kernel
theorem c_143_233 : aCod 143 233 = some (.invokevirtual 137, 236) := by decide +kernel
theorem c_143_236 : aCod 143 236 = some (.ifCond .ne 294, 239) := by decide +kernel
theorem c_143_239 : aCod 143 239 = some (.aload 0, 240) := by decide +kernel
theorem c_143_240 : aCod 143 240 = some (.aload 0, 241) := by decide +kernel
theorem c_143_241 : aCod 143 241 = some (.getfield 2334, 244) := by decide +kernel
theorem c_143_244 : aCod 143 244 = some (.invokevirtual 137, 247) := by decide +kernel
theorem c_143_247 : aCod 143 247 = some (.ifCond .ne 294, 250) := by decide +kernel
theorem c_143_250 : aCod 143 250 = some (.aload 0, 251) := by decide +kernel
theorem c_143_251 : aCod 143 251 = some (.aload 0, 252) := by decide +kernel
theorem c_143_252 : aCod 143 252 = some (.getfield 2335, 255) := by decide +kernel
theorem c_143_255 : aCod 143 255 = some (.invokevirtual 137, 258) := by decide +kernel
theorem c_143_258 : aCod 143 258 = some (.ifCond .ne 294, 261) := by decide +kernel
theorem c_143_261 : aCod 143 261 = some (.aload 0, 262) := by decide +kernel
theorem c_143_262 : aCod 143 262 = some (.aload 0, 263) := by decide +kernel
theorem c_143_263 : aCod 143 263 = some (.getfield 2336, 266) := by decide +kernel
theorem c_143_266 : aCod 143 266 = some (.invokevirtual 137, 269) := by decide +kernel
theorem c_143_269 : aCod 143 269 = some (.ifCond .ne 294, 272) := by decide +kernel
theorem c_143_272 : aCod 143 272 = some (.aload 0, 273) := by decide +kernel
theorem c_143_273 : aCod 143 273 = some (.aload 0, 274) := by decide +kernel
theorem c_143_274 : aCod 143 274 = some (.getfield 2337, 277) := by decide +kernel
theorem c_143_277 : aCod 143 277 = some (.invokevirtual 137, 280) := by decide +kernel
theorem c_143_280 : aCod 143 280 = some (.ifCond .ne 294, 283) := by decide +kernel
theorem c_143_283 : aCod 143 283 = some (.aload 0, 284) := by decide +kernel
theorem c_143_284 : aCod 143 284 = some (.aload 0, 285) := by decide +kernel
theorem c_143_285 : aCod 143 285 = some (.getfield 2338, 288) := by decide +kernel
theorem c_143_288 : aCod 143 288 = some (.invokevirtual 137, 291) := by decide +kernel
theorem c_143_291 : aCod 143 291 = some (.ifCond .eq 298, 294) := by decide +kernel
theorem c_143_294 : aCod 143 294 = some (.sipush 1, 295) := by decide +kernel
theorem c_143_295 : aCod 143 295 = some (.goto 299, 298) := by decide +kernel
theorem c_143_298 : aCod 143 298 = some (.sipush 0, 299) := by decide +kernel
theorem c_143_299 : aCod 143 299 = some (.istore 1, 300) := by decide +kernel
theorem c_143_300 : aCod 143 300 = some (.iload 1, 301) := by decide +kernel
theorem c_143_301 : aCod 143 301 = some (.ifCond .ne 370, 304) := by decide +kernel
theorem c_143_304 : aCod 143 304 = some (.aload 0, 305) := by decide +kernel
theorem c_143_305 : aCod 143 305 = some (.aload 0, 306) := by decide +kernel
theorem c_143_306 : aCod 143 306 = some (.getfield 2339, 309) := by decide +kernel
theorem c_143_309 : aCod 143 309 = some (.invokevirtual 137, 312) := by decide +kernel
theorem c_143_312 : aCod 143 312 = some (.ifCond .ne 370, 315) := by decide +kernel
theorem c_143_315 : aCod 143 315 = some (.aload 0, 316) := by decide +kernel
theorem c_143_316 : aCod 143 316 = some (.aload 0, 317) := by decide +kernel
theorem c_143_317 : aCod 143 317 = some (.getfield 2340, 320) := by decide +kernel
theorem c_143_320 : aCod 143 320 = some (.invokevirtual 137, 323) := by decide +kernel
theorem c_143_323 : aCod 143 323 = some (.ifCond .ne 370, 326) := by decide +kernel
theorem c_143_326 : aCod 143 326 = some (.aload 0, 327) := by decide +kernel
theorem c_143_327 : aCod 143 327 = some (.aload 0, 328) := by decide +kernel
theorem c_143_328 : aCod 143 328 = some (.getfield 2341, 331) := by decide +kernel
theorem c_143_331 : aCod 143 331 = some (.invokevirtual 137, 334) := by decide +kernel
theorem c_143_334 : aCod 143 334 = some (.ifCond .ne 370, 337) := by decide +kernel
theorem c_143_337 : aCod 143 337 = some (.aload 0, 338) := by decide +kernel
theorem c_143_338 : aCod 143 338 = some (.aload 0, 339) := by decide +kernel
theorem c_143_339 : aCod 143 339 = some (.getfield 2342, 342) := by decide +kernel
theorem c_143_342 : aCod 143 342 = some (.invokevirtual 137, 345) := by decide +kernel
theorem c_143_345 : aCod 143 345 = some (.ifCond .ne 370, 348) := by decide +kernel
theorem c_143_348 : aCod 143 348 = some (.aload 0, 349) := by decide +kernel
theorem c_143_349 : aCod 143 349 = some (.aload 0, 350) := by decide +kernel
theorem c_143_350 : aCod 143 350 = some (.getfield 2343, 353) := by decide +kernel
theorem c_143_353 : aCod 143 353 = some (.invokevirtual 137, 356) := by decide +kernel
theorem c_143_356 : aCod 143 356 = some (.ifCond .ne 370, 359) := by decide +kernel
theorem c_143_359 : aCod 143 359 = some (.aload 0, 360) := by decide +kernel
theorem c_143_360 : aCod 143 360 = some (.aload 0, 361) := by decide +kernel
theorem c_143_361 : aCod 143 361 = some (.getfield 2344, 364) := by decide +kernel
theorem c_143_364 : aCod 143 364 = some (.invokevirtual 137, 367) := by decide +kernel
theorem c_143_367 : aCod 143 367 = some (.ifCond .eq 374, 370) := by decide +kernel
theorem c_143_370 : aCod 143 370 = some (.sipush 1, 371) := by decide +kernel
theorem c_143_371 : aCod 143 371 = some (.goto 375, 374) := by decide +kernel
theorem c_143_374 : aCod 143 374 = some (.sipush 0, 375) := by decide +kernel
theorem c_143_375 : aCod 143 375 = some (.istore 1, 376) := by decide +kernel
theorem c_143_376 : aCod 143 376 = some (.iload 1, 377) := by decide +kernel
theorem c_143_377 : aCod 143 377 = some (.ifCond .ne 402, 380) := by decide +kernel
theorem c_143_380 : aCod 143 380 = some (.aload 0, 381) := by decide +kernel
theorem c_143_381 : aCod 143 381 = some (.aload 0, 382) := by decide +kernel
theorem c_143_382 : aCod 143 382 = some (.getfield 2345, 385) := by decide +kernel
theorem c_143_385 : aCod 143 385 = some (.invokevirtual 137, 388) := by decide +kernel
theorem c_143_388 : aCod 143 388 = some (.ifCond .ne 402, 391) := by decide +kernel
theorem c_143_391 : aCod 143 391 = some (.aload 0, 392) := by decide +kernel
theorem c_143_392 : aCod 143 392 = some (.aload 0, 393) := by decide +kernel
theorem c_143_393 : aCod 143 393 = some (.getfield 2346, 396) := by decide +kernel
theorem c_143_396 : aCod 143 396 = some (.invokevirtual 137, 399) := by decide +kernel
theorem c_143_399 : aCod 143 399 = some (.ifCond .eq 406, 402) := by decide +kernel
theorem c_143_402 : aCod 143 402 = some (.sipush 1, 403) := by decide +kernel
theorem c_143_403 : aCod 143 403 = some (.goto 407, 406) := by decide +kernel
theorem c_143_406 : aCod 143 406 = some (.sipush 0, 407) := by decide +kernel
theorem c_143_407 : aCod 143 407 = some (.istore 1, 408) := by decide +kernel
theorem c_143_408 : aCod 143 408 = some (.iload 1, 409) := by decide +kernel
theorem c_143_409 : aCod 143 409 = some (.ireturn, 410) := by decide +kernel
theorem c_144_0 : aCod 144 0 = some (.aload 0, 1) := by decide +kernel
theorem c_144_1 : aCod 144 1 = some (.getfield 2309, 4) := by decide +kernel
theorem c_144_4 : aCod 144 4 = some (.ifCond .eq 9, 7) := by decide +kernel
theorem c_144_7 : aCod 144 7 = some (.goto_w 0, 8) := by decide +kernel
theorem c_144_8 : aCod 144 8 = some (.lreturn, 9) := by decide +kernel
theorem c_144_9 : aCod 144 9 = some (.aload 0, 10) := by decide +kernel
theorem c_144_10 : aCod 144 10 = some (.invokevirtual 136, 13) := by decide +kernel
theorem c_144_13 : aCod 144 13 = some (.invokestatic 134, 16) := by decide +kernel
theorem c_144_16 : aCod 144 16 = some (.ifCond .eq 37, 19) := by decide +kernel
theorem c_144_19 : aCod 144 19 = some (.aload 0, 20) := by decide +kernel
theorem c_144_20 : aCod 144 20 = some (.getfield 2306, 23) := by decide +kernel
theorem c_144_23 : aCod 144 23 = some (.aload 0, 24) := by decide +kernel
theorem c_144_24 : aCod 144 24 = some (.getfield 2308, 27) := by decide +kernel
theorem c_144_27 : aCod 144 27 = some (.if_icmp .eq 37, 30) := by decide +kernel
theorem c_144_30 : aCod 144 30 = some (.aload 0, 31) := by decide +kernel
theorem c_144_31 : aCod 144 31 = some (.invokevirtual 143, 34) := by decide +kernel
theorem c_144_34 : aCod 144 34 = some (.ifCond .eq 48, 37) := by decide +kernel
theorem c_144_37 : aCod 144 37 = some (.aload 0, 38) := by decide +kernel
theorem c_144_38 : aCod 144 38 = some (.sipush 1, 39) := by decide +kernel
theorem c_144_39 : aCod 144 39 = some (.aload 0, 40) := by decide +kernel
theorem c_144_40 : aCod 144 40 = some (.getfield 2306, 43) := by decide +kernel
theorem c_144_43 : aCod 144 43 = some (.invokevirtual 133, 46) := by decide +kernel
theorem c_144_46 : aCod 144 46 = some (.goto_w 0, 47) := by decide +kernel
theorem c_144_47 : aCod 144 47 = some (.lreturn, 48) := by decide +kernel
theorem c_144_48 : aCod 144 48 = some (.aload 0, 49) := by decide +kernel
theorem c_144_49 : aCod 144 49 = some (.aload 0, 50) := by decide +kernel
theorem c_144_50 : aCod 144 50 = some (.getfield 2306, 53) := by decide +kernel
theorem c_144_53 : aCod 144 53 = some (.putfield 2347, 56) := by decide +kernel
theorem c_144_56 : aCod 144 56 = some (.goto_w 0, 57) := by decide +kernel
theorem c_144_57 : aCod 144 57 = some (.lstore 1, 58) := by decide +kernel
theorem c_144_58 : aCod 144 58 = some (.aload 0, 59) := by decide +kernel
theorem c_144_59 : aCod 144 59 = some (.getfield 2306, 62) := by decide +kernel
theorem c_144_62 : aCod 144 62 = some (.aload 0, 63) := by decide +kernel
theorem c_144_63 : aCod 144 63 = some (.getfield 2307, 66) := by decide +kernel
theorem c_144_66 : aCod 144 66 = some (.if_icmp .ge 145, 69) := by decide +kernel
theorem c_144_69 : aCod 144 69 = some (.aload 0, 70) := by decide +kernel
theorem c_144_70 : aCod 144 70 = some (.getfield 2304, 73) := by decide +kernel
theorem c_144_73 : aCod 144 73 = some (.aload 0, 74) := by decide +kernel
theorem c_144_74 : aCod 144 74 = some (.getfield 2306, 77) := by decide +kernel
theorem c_144_77 : aCod 144 77 = some (.iaload, 78) := by decide +kernel
theorem c_144_78 : aCod 144 78 = some (.invokestatic 134, 81) := by decide +kernel
theorem c_144_81 : aCod 144 81 = some (.ifCond .eq 145, 84) := by decide +kernel
theorem c_144_84 : aCod 144 84 = some (.aload 0, 85) := by decide +kernel
theorem c_144_85 : aCod 144 85 = some (.getfield 2306, 88) := by decide +kernel
theorem c_144_88 : aCod 144 88 = some (.aload 0, 89) := by decide +kernel
theorem c_144_89 : aCod 144 89 = some (.getfield 2347, 92) := by decide +kernel
theorem c_144_92 : aCod 144 92 = some (.isub, 93) := by decide +kernel
theorem c_144_93 : aCod 144 93 = some (.sipush 6, 95) := by decide +kernel
theorem c_144_95 : aCod 144 95 = some (.if_icmp .ne 109, 98) := by decide +kernel
theorem c_144_98 : aCod 144 98 = some (.aload 0, 99) := by decide +kernel
theorem c_144_99 : aCod 144 99 = some (.sipush 1, 100) := by decide +kernel
theorem c_144_100 : aCod 144 100 = some (.aload 0, 101) := by decide +kernel
theorem c_144_101 : aCod 144 101 = some (.getfield 2306, 104) := by decide +kernel
theorem c_144_104 : aCod 144 104 = some (.invokevirtual 133, 107) := by decide +kernel
theorem c_144_107 : aCod 144 107 = some (.goto_w 0, 108) := by decide +kernel
theorem c_144_108 : aCod 144 108 = some (.lreturn, 109) := by decide +kernel
theorem c_144_109 : aCod 144 109 = some (.goto_w 27, 112) := by decide +kernel
theorem c_144_112 : aCod 144 112 = some (.lload 1, 113) := by decide +kernel
theorem c_144_113 : aCod 144 113 = some (.lmul, 114) := by decide +kernel
theorem c_144_114 : aCod 144 114 = some (.aload 0, 115) := by decide +kernel
theorem c_144_115 : aCod 144 115 = some (.getfield 2304, 118) := by decide +kernel
theorem c_144_118 : aCod 144 118 = some (.aload 0, 119) := by decide +kernel
theorem c_144_119 : aCod 144 119 = some (.getfield 2306, 122) := by decide +kernel
theorem c_144_122 : aCod 144 122 = some (.iaload, 123) := by decide +kernel
theorem c_144_123 : aCod 144 123 = some (.i2l, 124) := by decide +kernel
theorem c_144_124 : aCod 144 124 = some (.ladd, 125) := by decide +kernel
theorem c_144_125 : aCod 144 125 = some (.goto_w 97, 128) := by decide +kernel
theorem c_144_128 : aCod 144 128 = some (.lsub, 129) := by decide +kernel
theorem c_144_129 : aCod 144 129 = some (.goto_w 1, 130) := by decide +kernel
theorem c_144_130 : aCod 144 130 = some (.ladd, 131) := by decide +kernel
theorem c_144_131 : aCod 144 131 = some (.lstore 1, 132) := by decide +kernel
theorem c_144_132 : aCod 144 132 = some (.aload 0, 133) := by decide +kernel
theorem c_144_133 : aCod 144 133 = some (.dup, 134) := by decide +kernel
theorem c_144_134 : aCod 144 134 = some (.getfield 2306, 137) := by decide +kernel
theorem c_144_137 : aCod 144 137 = some (.sipush 1, 138) := by decide +kernel
theorem c_144_138 : aCod 144 138 = some (.iadd, 139) := by decide +kernel
theorem c_144_139 : aCod 144 139 = some (.putfield 2306, 142) := by decide +kernel
theorem c_144_142 : aCod 144 142 = some (.goto 58, 145) := by decide +kernel
theorem c_144_145 : aCod 144 145 = some (.aload 0, 146) := by decide +kernel
theorem c_144_146 : aCod 144 146 = some (.aload 0, 147) := by decide +kernel
theorem c_144_147 : aCod 144 147 = some (.getfield 2306, 150) := by decide +kernel
theorem c_144_150 : aCod 144 150 = some (.putfield 2308, 153) := by decide +kernel
theorem c_144_153 : aCod 144 153 = some (.lload 1, 154) := by decide +kernel
theorem c_144_154 : aCod 144 154 = some (.lreturn, 155) := by decide +kernel
theorem c_145_0 : aCod 145 0 = some (.iload 1, 1) := by decide +kernel
theorem c_145_1 : aCod 145 1 = some (.sipush 4, 2) := by decide +kernel
theorem c_145_2 : aCod 145 2 = some (.if_icmp .lt 49, 5) := by decide +kernel
theorem c_145_5 : aCod 145 5 = some (.aload 0, 6) := by decide +kernel
theorem c_145_6 : aCod 145 6 = some (.getfield 2361, 9) := by decide +kernel
theorem c_145_9 : aCod 145 9 = some (.ifCond .ne 21, 12) := by decide +kernel
theorem c_145_12 : aCod 145 12 = some (.iload 1, 13) := by decide +kernel
theorem c_145_13 : aCod 145 13 = some (.sipush 6, 15) := by decide +kernel
theorem c_145_15 : aCod 145 15 = some (.if_icmp .ge 53, 18) := by decide +kernel
theorem c_145_18 : aCod 145 18 = some (.goto 49, 21) := by decide +kernel
theorem c_145_21 : aCod 145 21 = some (.aload 0, 22) := by decide +kernel
theorem c_145_22 : aCod 145 22 = some (.getfield 2361, 25) := by decide +kernel
theorem c_145_25 : aCod 145 25 = some (.sipush 1, 26) := by decide +kernel
theorem c_145_26 : aCod 145 26 = some (.if_icmp .ne 44, 29) := by decide +kernel
theorem c_145_29 : aCod 145 29 = some (.iload 1, 30) := by decide +kernel
theorem c_145_30 : aCod 145 30 = some (.sipush 6, 32) := by decide +kernel
theorem c_145_32 : aCod 145 32 = some (.if_icmp .eq 49, 35) := by decide +kernel
theorem c_145_35 : aCod 145 35 = some (.iload 1, 36) := by decide +kernel
theorem c_145_36 : aCod 145 36 = some (.sipush 7, 38) := by decide +kernel
theorem c_145_38 : aCod 145 38 = some (.if_icmp .ne 53, 41) := by decide +kernel
theorem c_145_41 : aCod 145 41 = some (.goto 49, 44) := by decide +kernel
theorem c_145_44 : aCod 145 44 = some (.iload 1, 45) := by decide +kernel
theorem c_145_45 : aCod 145 45 = some (.sipush 5, 46) := by decide +kernel
theorem c_145_46 : aCod 145 46 = some (.if_icmp .le 53, 49) := by decide +kernel
theorem c_145_49 : aCod 145 49 = some (.sipush 1, 50) := by decide +kernel
theorem c_145_50 : aCod 145 50 = some (.goto 54, 53) := by decide +kernel
theorem c_145_53 : aCod 145 53 = some (.sipush 0, 54) := by decide +kernel
theorem c_145_54 : aCod 145 54 = some (.ireturn, 55) := by decide +kernel
theorem c_146_0 : aCod 146 0 = some (.aload 0, 1) := by decide +kernel
theorem c_146_1 : aCod 146 1 = some (.getfield 2309, 4) := by decide +kernel
theorem c_146_4 : aCod 146 4 = some (.ifCond .ne 23, 7) := by decide +kernel
theorem c_146_7 : aCod 146 7 = some (.aload 0, 8) := by decide +kernel
theorem c_146_8 : aCod 146 8 = some (.getfield 2348, 11) := by decide +kernel
theorem c_146_11 : aCod 146 11 = some (.iload 1, 12) := by decide +kernel
theorem c_146_12 : aCod 146 12 = some (.iaload, 13) := by decide +kernel
theorem c_146_13 : aCod 146 13 = some (.iload 2, 14) := by decide +kernel
theorem c_146_14 : aCod 146 14 = some (.if_icmp .ne 23, 17) := by decide +kernel
theorem c_146_17 : aCod 146 17 = some (.aload 0, 18) := by decide +kernel
theorem c_146_18 : aCod 146 18 = some (.sipush 5, 19) := by decide +kernel
theorem c_146_19 : aCod 146 19 = some (.iload 3, 20) := by decide +kernel
theorem c_146_20 : aCod 146 20 = some (.invokevirtual 133, 23) := by decide +kernel
theorem c_146_23 : aCod 146 23 = some (.aload 0, 24) := by decide +kernel
theorem c_146_24 : aCod 146 24 = some (.getfield 2309, 27) := by decide +kernel
theorem c_146_27 : aCod 146 27 = some (.ifCond .eq 34, 30) := by decide +kernel
theorem c_146_30 : aCod 146 30 = some (.sipush 1, 31) := by decide +kernel
theorem c_146_31 : aCod 146 31 = some (.goto 35, 34) := by decide +kernel
theorem c_146_34 : aCod 146 34 = some (.sipush 0, 35) := by decide +kernel
theorem c_146_35 : aCod 146 35 = some (.ireturn, 36) := by decide +kernel
theorem c_147_0 : aCod 147 0 = some (.sipush 0, 1) := by decide +kernel
theorem c_147_1 : aCod 147 1 = some (.istore 4, 3) := by decide +kernel
theorem c_147_3 : aCod 147 3 = some (.iload 4, 5) := by decide +kernel
theorem c_147_5 : aCod 147 5 = some (.aload 0, 6) := by decide +kernel
theorem c_147_6 : aCod 147 6 = some (.getfield 2348, 9) := by decide +kernel
theorem c_147_9 : aCod 147 9 = some (.iload 1, 10) := by decide +kernel
theorem c_147_10 : aCod 147 10 = some (.iaload, 11) := by decide +kernel
theorem c_147_11 : aCod 147 11 = some (.if_icmp .ge 40, 14) := by decide +kernel
theorem c_147_14 : aCod 147 14 = some (.aload 0, 15) := by decide +kernel
theorem c_147_15 : aCod 147 15 = some (.getfield 2349, 18) := by decide +kernel
theorem c_147_18 : aCod 147 18 = some (.sipush 8, 20) := by decide +kernel
theorem c_147_20 : aCod 147 20 = some (.iload 1, 21) := by decide +kernel
theorem c_147_21 : aCod 147 21 = some (.imul, 22) := by decide +kernel
theorem c_147_22 : aCod 147 22 = some (.iload 4, 24) := by decide +kernel
theorem c_147_24 : aCod 147 24 = some (.iadd, 25) := by decide +kernel
theorem c_147_25 : aCod 147 25 = some (.laload, 26) := by decide +kernel
theorem c_147_26 : aCod 147 26 = some (.lload 2, 27) := by decide +kernel
theorem c_147_27 : aCod 147 27 = some (.lcmp, 28) := by decide +kernel
theorem c_147_28 : aCod 147 28 = some (.ifCond .ne 34, 31) := by decide +kernel
theorem c_147_31 : aCod 147 31 = some (.iload 4, 33) := by decide +kernel
theorem c_147_33 : aCod 147 33 = some (.ireturn, 34) := by decide +kernel
theorem c_147_34 : aCod 147 34 = some (.iinc 4 1, 37) := by decide +kernel
theorem c_147_37 : aCod 147 37 = some (.goto 3, 40) := by decide +kernel
theorem c_147_40 : aCod 147 40 = some (.sipush (-1), 41) := by decide +kernel
theorem c_147_41 : aCod 147 41 = some (.ireturn, 42) := by decide +kernel
theorem c_148_0 : aCod 148 0 = some (.aload 0, 1) := by decide +kernel
theorem c_148_1 : aCod 148 1 = some (.invokevirtual 144, 4) := by decide +kernel
theorem c_148_4 : aCod 148 4 = some (.lstore 1, 5) := by decide +kernel
theorem c_148_5 : aCod 148 5 = some (.sipush 0, 6) := by decide +kernel
theorem c_148_6 : aCod 148 6 = some (.istore 3, 7) := by decide +kernel
theorem c_148_7 : aCod 148 7 = some (.iload 3, 8) := by decide +kernel
theorem c_148_8 : aCod 148 8 = some (.sipush 3, 9) := by decide +kernel
theorem c_148_9 : aCod 148 9 = some (.if_icmp .ge 44, 12) := by decide +kernel
theorem c_148_12 : aCod 148 12 = some (.aload 0, 13) := by decide +kernel
theorem c_148_13 : aCod 148 13 = some (.getfield 2309, 16) := by decide +kernel
theorem c_148_16 : aCod 148 16 = some (.ifCond .ne 38, 19) := by decide +kernel
theorem c_148_19 : aCod 148 19 = some (.aload 0, 20) := by decide +kernel
theorem c_148_20 : aCod 148 20 = some (.iload 3, 21) := by decide +kernel
theorem c_148_21 : aCod 148 21 = some (.lload 1, 22) := by decide +kernel
theorem c_148_22 : aCod 148 22 = some (.invokevirtual 147, 25) := by decide +kernel
theorem c_148_25 : aCod 148 25 = some (.sipush (-1), 26) := by decide +kernel
theorem c_148_26 : aCod 148 26 = some (.if_icmp .eq 38, 29) := by decide +kernel
theorem c_148_29 : aCod 148 29 = some (.aload 0, 30) := by decide +kernel
theorem c_148_30 : aCod 148 30 = some (.sipush 3, 31) := by decide +kernel
theorem c_148_31 : aCod 148 31 = some (.aload 0, 32) := by decide +kernel
theorem c_148_32 : aCod 148 32 = some (.getfield 2347, 35) := by decide +kernel
theorem c_148_35 : aCod 148 35 = some (.invokevirtual 133, 38) := by decide +kernel
theorem c_148_38 : aCod 148 38 = some (.iinc 3 1, 41) := by decide +kernel
theorem c_148_41 : aCod 148 41 = some (.goto 7, 44) := by decide +kernel
theorem c_148_44 : aCod 148 44 = some (.lload 1, 45) := by decide +kernel
theorem c_148_45 : aCod 148 45 = some (.lreturn, 46) := by decide +kernel
theorem c_149_0 : aCod 149 0 = some (.aload 0, 1) := by decide +kernel
theorem c_149_1 : aCod 149 1 = some (.getfield 2349, 4) := by decide +kernel
theorem c_149_4 : aCod 149 4 = some (.sipush 8, 6) := by decide +kernel
theorem c_149_6 : aCod 149 6 = some (.iload 1, 7) := by decide +kernel
theorem c_149_7 : aCod 149 7 = some (.imul, 8) := by decide +kernel
theorem c_149_8 : aCod 149 8 = some (.aload 0, 9) := by decide +kernel
theorem c_149_9 : aCod 149 9 = some (.getfield 2348, 12) := by decide +kernel
theorem c_149_12 : aCod 149 12 = some (.iload 1, 13) := by decide +kernel
theorem c_149_13 : aCod 149 13 = some (.iaload, 14) := by decide +kernel
theorem c_149_14 : aCod 149 14 = some (.iadd, 15) := by decide +kernel
theorem c_149_15 : aCod 149 15 = some (.lload 2, 16) := by decide +kernel
theorem c_149_16 : aCod 149 16 = some (.lastore, 17) := by decide +kernel
theorem c_149_17 : aCod 149 17 = some (.aload 0, 18) := by decide +kernel
theorem c_149_18 : aCod 149 18 = some (.getfield 2348, 21) := by decide +kernel
theorem c_149_21 : aCod 149 21 = some (.iload 1, 22) := by decide +kernel
theorem c_149_22 : aCod 149 22 = some (.dup2, 23) := by decide +kernel
theorem c_149_23 : aCod 149 23 = some (.iaload, 24) := by decide +kernel
theorem c_149_24 : aCod 149 24 = some (.sipush 1, 25) := by decide +kernel
theorem c_149_25 : aCod 149 25 = some (.iadd, 26) := by decide +kernel
theorem c_149_26 : aCod 149 26 = some (.iastore, 27) := by decide +kernel
theorem c_149_27 : aCod 149 27 = some (.aload 0, 28) := by decide +kernel
theorem c_149_28 : aCod 149 28 = some (.getfield 2348, 31) := by decide +kernel
theorem c_149_31 : aCod 149 31 = some (.iload 1, 32) := by decide +kernel
theorem c_149_32 : aCod 149 32 = some (.iaload, 33) := by decide +kernel
theorem c_149_33 : aCod 149 33 = some (.sipush 1, 34) := by decide +kernel
theorem c_149_34 : aCod 149 34 = some (.isub, 35) := by decide +kernel
theorem c_149_35 : aCod 149 35 = some (.ireturn, 36) := by decide +kernel
theorem c_150_0 : aCod 150 0 = some (.aload 0, 1) := by decide +kernel
theorem c_150_1 : aCod 150 1 = some (.aload 0, 2) := by decide +kernel
theorem c_150_2 : aCod 150 2 = some (.getfield 2315, 5) := by decide +kernel
theorem c_150_5 : aCod 150 5 = some (.invokevirtual 139, 8) := by decide +kernel
theorem c_150_8 : aCod 150 8 = some (.aload 0, 9) := by decide +kernel
theorem c_150_9 : aCod 150 9 = some (.aload 0, 10) := by decide +kernel
theorem c_150_10 : aCod 150 10 = some (.getfield 2316, 13) := by decide +kernel
theorem c_150_13 : aCod 150 13 = some (.invokevirtual 139, 16) := by decide +kernel
theorem c_150_16 : aCod 150 16 = some (.aload 0, 17) := by decide +kernel
theorem c_150_17 : aCod 150 17 = some (.getfield 2350, 20) := by decide +kernel
theorem c_150_20 : aCod 150 20 = some (.sipush 0, 21) := by decide +kernel
theorem c_150_21 : aCod 150 21 = some (.aload 0, 22) := by decide +kernel
theorem c_150_22 : aCod 150 22 = some (.sipush 0, 23) := by decide +kernel
theorem c_150_23 : aCod 150 23 = some (.sipush 9999, 26) := by decide +kernel
theorem c_150_26 : aCod 150 26 = some (.invokevirtual 142, 29) := by decide +kernel
theorem c_150_29 : aCod 150 29 = some (.iastore, 30) := by decide +kernel
theorem c_150_30 : aCod 150 30 = some (.aload 0, 31) := by decide +kernel
theorem c_150_31 : aCod 150 31 = some (.aload 0, 32) := by decide +kernel
theorem c_150_32 : aCod 150 32 = some (.getfield 2317, 35) := by decide +kernel
theorem c_150_35 : aCod 150 35 = some (.invokevirtual 139, 38) := by decide +kernel
theorem c_150_38 : aCod 150 38 = some (.aload 0, 39) := by decide +kernel
theorem c_150_39 : aCod 150 39 = some (.getfield 2350, 42) := by decide +kernel
theorem c_150_42 : aCod 150 42 = some (.sipush 1, 43) := by decide +kernel
theorem c_150_43 : aCod 150 43 = some (.aload 0, 44) := by decide +kernel
theorem c_150_44 : aCod 150 44 = some (.sipush 0, 45) := by decide +kernel
theorem c_150_45 : aCod 150 45 = some (.sipush 9999, 48) := by decide +kernel
theorem c_150_48 : aCod 150 48 = some (.invokevirtual 142, 51) := by decide +kernel
theorem c_150_51 : aCod 150 51 = some (.iastore, 52) := by decide +kernel
theorem c_150_52 : aCod 150 52 = some (.aload 0, 53) := by decide +kernel
theorem c_150_53 : aCod 150 53 = some (.aload 0, 54) := by decide +kernel
theorem c_150_54 : aCod 150 54 = some (.getfield 2318, 57) := by decide +kernel
theorem c_150_57 : aCod 150 57 = some (.invokevirtual 139, 60) := by decide +kernel
theorem c_150_60 : aCod 150 60 = some (.aload 0, 61) := by decide +kernel
theorem c_150_61 : aCod 150 61 = some (.getfield 2350, 64) := by decide +kernel
theorem c_150_64 : aCod 150 64 = some (.sipush 2, 65) := by decide +kernel
theorem c_150_65 : aCod 150 65 = some (.aload 0, 66) := by decide +kernel
theorem c_150_66 : aCod 150 66 = some (.sipush 1, 67) := by decide +kernel
theorem c_150_67 : aCod 150 67 = some (.sipush 9999, 70) := by decide +kernel
theorem c_150_70 : aCod 150 70 = some (.invokevirtual 142, 73) := by decide +kernel
theorem c_150_73 : aCod 150 73 = some (.iastore, 74) := by decide +kernel
theorem c_150_74 : aCod 150 74 = some (.aload 0, 75) := by decide +kernel
theorem c_150_75 : aCod 150 75 = some (.getfield 2309, 78) := by decide +kernel
theorem c_150_78 : aCod 150 78 = some (.ifCond .ne 105, 81) := by decide +kernel
theorem c_150_81 : aCod 150 81 = some (.aload 0, 82) := by decide +kernel
theorem c_150_82 : aCod 150 82 = some (.getfield 2350, 85) := by decide +kernel
theorem c_150_85 : aCod 150 85 = some (.sipush 2, 86) := by decide +kernel
theorem c_150_86 : aCod 150 86 = some (.iaload, 87) := by decide +kernel
theorem c_150_87 : aCod 150 87 = some (.aload 0, 88) := by decide +kernel
theorem c_150_88 : aCod 150 88 = some (.getfield 2350, 91) := by decide +kernel
theorem c_150_91 : aCod 150 91 = some (.sipush 0, 92) := by decide +kernel
theorem c_150_92 : aCod 150 92 = some (.iaload, 93) := by decide +kernel
theorem c_150_93 : aCod 150 93 = some (.if_icmp .ge 105, 96) := by decide +kernel
theorem c_150_96 : aCod 150 96 = some (.aload 0, 97) := by decide +kernel
theorem c_150_97 : aCod 150 97 = some (.sipush 2, 98) := by decide +kernel
theorem c_150_98 : aCod 150 98 = some (.aload 0, 99) := by decide +kernel
theorem c_150_99 : aCod 150 99 = some (.getfield 2314, 102) := by decide +kernel
theorem c_150_102 : aCod 150 102 = some (.invokevirtual 133, 105) := by decide +kernel
theorem c_150_105 : aCod 150 105 = some (.aload 0, 106) := by decide +kernel
theorem c_150_106 : aCod 150 106 = some (.sipush 59, 108) := by decide +kernel
theorem c_150_108 : aCod 150 108 = some (.invokevirtual 141, 111) := by decide +kernel
theorem c_150_111 : aCod 150 111 = some (.return_, 112) := by decide +kernel
theorem c_151_0 : aCod 151 0 = some (.aload 0, 1) := by decide +kernel
theorem c_151_1 : aCod 151 1 = some (.sipush 0, 2) := by decide +kernel
theorem c_151_2 : aCod 151 2 = some (.sipush 6, 4) := by decide +kernel
theorem c_151_4 : aCod 151 4 = some (.iload 1, 5) := by decide +kernel
theorem c_151_5 : aCod 151 5 = some (.invokevirtual 146, 8) := by decide +kernel
theorem c_151_8 : aCod 151 8 = some (.ifCond .eq 12, 11) := by decide +kernel
theorem c_151_11 : aCod 151 11 = some (.return_, 12) := by decide +kernel
theorem c_151_12 : aCod 151 12 = some (.aload 0, 13) := by decide +kernel
theorem c_151_13 : aCod 151 13 = some (.invokevirtual 148, 16) := by decide +kernel
theorem c_151_16 : aCod 151 16 = some (.lstore 2, 17) := by decide +kernel
theorem c_151_17 : aCod 151 17 = some (.aload 0, 18) := by decide +kernel
theorem c_151_18 : aCod 151 18 = some (.aload 0, 19) := by decide +kernel
theorem c_151_19 : aCod 151 19 = some (.getfield 2320, 22) := by decide +kernel
theorem c_151_22 : aCod 151 22 = some (.invokevirtual 139, 25) := by decide +kernel
theorem c_151_25 : aCod 151 25 = some (.aload 0, 26) := by decide +kernel
theorem c_151_26 : aCod 151 26 = some (.sipush 0, 27) := by decide +kernel
theorem c_151_27 : aCod 151 27 = some (.sipush 999, 30) := by decide +kernel
theorem c_151_30 : aCod 151 30 = some (.invokevirtual 142, 33) := by decide +kernel
theorem c_151_33 : aCod 151 33 = some (.istore 4, 35) := by decide +kernel
theorem c_151_35 : aCod 151 35 = some (.aload 0, 36) := by decide +kernel
theorem c_151_36 : aCod 151 36 = some (.aload 0, 37) := by decide +kernel
theorem c_151_37 : aCod 151 37 = some (.getfield 2317, 40) := by decide +kernel
theorem c_151_40 : aCod 151 40 = some (.invokevirtual 139, 43) := by decide +kernel
theorem c_151_43 : aCod 151 43 = some (.aload 0, 44) := by decide +kernel
theorem c_151_44 : aCod 151 44 = some (.sipush 0, 45) := by decide +kernel
theorem c_151_45 : aCod 151 45 = some (.sipush 999, 48) := by decide +kernel
theorem c_151_48 : aCod 151 48 = some (.invokevirtual 142, 51) := by decide +kernel
theorem c_151_51 : aCod 151 51 = some (.istore 5, 53) := by decide +kernel
theorem c_151_53 : aCod 151 53 = some (.aload 0, 54) := by decide +kernel
theorem c_151_54 : aCod 151 54 = some (.getfield 2309, 57) := by decide +kernel
theorem c_151_57 : aCod 151 57 = some (.ifCond .eq 61, 60) := by decide +kernel
theorem c_151_60 : aCod 151 60 = some (.return_, 61) := by decide +kernel
theorem c_151_61 : aCod 151 61 = some (.aload 0, 62) := by decide +kernel
theorem c_151_62 : aCod 151 62 = some (.sipush 0, 63) := by decide +kernel
theorem c_151_63 : aCod 151 63 = some (.lload 2, 64) := by decide +kernel
theorem c_151_64 : aCod 151 64 = some (.invokevirtual 149, 67) := by decide +kernel
theorem c_151_67 : aCod 151 67 = some (.istore 6, 69) := by decide +kernel
theorem c_151_69 : aCod 151 69 = some (.aload 0, 70) := by decide +kernel
theorem c_151_70 : aCod 151 70 = some (.getfield 2351, 73) := by decide +kernel
theorem c_151_73 : aCod 151 73 = some (.sipush 2, 74) := by decide +kernel
theorem c_151_74 : aCod 151 74 = some (.iload 6, 76) := by decide +kernel
theorem c_151_76 : aCod 151 76 = some (.imul, 77) := by decide +kernel
theorem c_151_77 : aCod 151 77 = some (.iload 4, 79) := by decide +kernel
theorem c_151_79 : aCod 151 79 = some (.iastore, 80) := by decide +kernel
theorem c_151_80 : aCod 151 80 = some (.aload 0, 81) := by decide +kernel
theorem c_151_81 : aCod 151 81 = some (.getfield 2351, 84) := by decide +kernel
theorem c_151_84 : aCod 151 84 = some (.sipush 2, 85) := by decide +kernel
theorem c_151_85 : aCod 151 85 = some (.iload 6, 87) := by decide +kernel
theorem c_151_87 : aCod 151 87 = some (.imul, 88) := by decide +kernel
theorem c_151_88 : aCod 151 88 = some (.sipush 1, 89) := by decide +kernel
theorem c_151_89 : aCod 151 89 = some (.iadd, 90) := by decide +kernel
theorem c_151_90 : aCod 151 90 = some (.iload 5, 92) := by decide +kernel
theorem c_151_92 : aCod 151 92 = some (.iastore, 93) := by decide +kernel
theorem c_151_93 : aCod 151 93 = some (.return_, 94) := by decide +kernel
theorem c_152_0 : aCod 152 0 = some (.aload 0, 1) := by decide +kernel
theorem c_152_1 : aCod 152 1 = some (.sipush 1, 2) := by decide +kernel
theorem c_152_2 : aCod 152 2 = some (.sipush 6, 4) := by decide +kernel
theorem c_152_4 : aCod 152 4 = some (.iload 1, 5) := by decide +kernel
theorem c_152_5 : aCod 152 5 = some (.invokevirtual 146, 8) := by decide +kernel
theorem c_152_8 : aCod 152 8 = some (.ifCond .eq 12, 11) := by decide +kernel
theorem c_152_11 : aCod 152 11 = some (.return_, 12) := by decide +kernel
theorem c_152_12 : aCod 152 12 = some (.aload 0, 13) := by decide +kernel
theorem c_152_13 : aCod 152 13 = some (.invokevirtual 148, 16) := by decide +kernel
theorem c_152_16 : aCod 152 16 = some (.lstore 2, 17) := by decide +kernel
theorem c_152_17 : aCod 152 17 = some (.aload 0, 18) := by decide +kernel
theorem c_152_18 : aCod 152 18 = some (.aload 0, 19) := by decide +kernel
theorem c_152_19 : aCod 152 19 = some (.getfield 2322, 22) := by decide +kernel
theorem c_152_22 : aCod 152 22 = some (.invokevirtual 139, 25) := by decide +kernel
theorem c_152_25 : aCod 152 25 = some (.aload 0, 26) := by decide +kernel
theorem c_152_26 : aCod 152 26 = some (.sipush 0, 27) := by decide +kernel
theorem c_152_27 : aCod 152 27 = some (.sipush 99, 29) := by decide +kernel
theorem c_152_29 : aCod 152 29 = some (.invokevirtual 142, 32) := by decide +kernel
theorem c_152_32 : aCod 152 32 = some (.istore 4, 34) := by decide +kernel
theorem c_152_34 : aCod 152 34 = some (.aload 0, 35) := by decide +kernel
theorem c_152_35 : aCod 152 35 = some (.getfield 2309, 38) := by decide +kernel
theorem c_152_38 : aCod 152 38 = some (.ifCond .ne 54, 41) := by decide +kernel
theorem c_152_41 : aCod 152 41 = some (.aload 0, 42) := by decide +kernel
theorem c_152_42 : aCod 152 42 = some (.getfield 2352, 45) := by decide +kernel
theorem c_152_45 : aCod 152 45 = some (.aload 0, 46) := by decide +kernel
theorem c_152_46 : aCod 152 46 = some (.sipush 1, 47) := by decide +kernel
theorem c_152_47 : aCod 152 47 = some (.lload 2, 48) := by decide +kernel
theorem c_152_48 : aCod 152 48 = some (.invokevirtual 149, 51) := by decide +kernel
theorem c_152_51 : aCod 152 51 = some (.iload 4, 53) := by decide +kernel
theorem c_152_53 : aCod 152 53 = some (.iastore, 54) := by decide +kernel
theorem c_152_54 : aCod 152 54 = some (.return_, 55) := by decide +kernel
theorem c_153_0 : aCod 153 0 = some (.aload 0, 1) := by decide +kernel
theorem c_153_1 : aCod 153 1 = some (.sipush 2, 2) := by decide +kernel
theorem c_153_2 : aCod 153 2 = some (.sipush 8, 4) := by decide +kernel
theorem c_153_4 : aCod 153 4 = some (.iload 1, 5) := by decide +kernel
theorem c_153_5 : aCod 153 5 = some (.invokevirtual 146, 8) := by decide +kernel
theorem c_153_8 : aCod 153 8 = some (.ifCond .eq 12, 11) := by decide +kernel
theorem c_153_11 : aCod 153 11 = some (.return_, 12) := by decide +kernel
theorem c_153_12 : aCod 153 12 = some (.aload 0, 13) := by decide +kernel
theorem c_153_13 : aCod 153 13 = some (.invokevirtual 148, 16) := by decide +kernel
theorem c_153_16 : aCod 153 16 = some (.lstore 2, 17) := by decide +kernel
theorem c_153_17 : aCod 153 17 = some (.aload 0, 18) := by decide +kernel
theorem c_153_18 : aCod 153 18 = some (.aload 0, 19) := by decide +kernel
theorem c_153_19 : aCod 153 19 = some (.getfield 2324, 22) := by decide +kernel
theorem c_153_22 : aCod 153 22 = some (.invokevirtual 139, 25) := by decide +kernel
theorem c_153_25 : aCod 153 25 = some (.aload 0, 26) := by decide +kernel
theorem c_153_26 : aCod 153 26 = some (.invokevirtual 144, 29) := by decide +kernel
theorem c_153_29 : aCod 153 29 = some (.lstore 4, 31) := by decide +kernel
theorem c_153_31 : aCod 153 31 = some (.aload 0, 32) := by decide +kernel
theorem c_153_32 : aCod 153 32 = some (.sipush 1, 33) := by decide +kernel
theorem c_153_33 : aCod 153 33 = some (.lload 4, 35) := by decide +kernel
theorem c_153_35 : aCod 153 35 = some (.invokevirtual 147, 38) := by decide +kernel
theorem c_153_38 : aCod 153 38 = some (.istore 6, 40) := by decide +kernel
theorem c_153_40 : aCod 153 40 = some (.aload 0, 41) := by decide +kernel
theorem c_153_41 : aCod 153 41 = some (.getfield 2309, 44) := by decide +kernel
theorem c_153_44 : aCod 153 44 = some (.ifCond .ne 62, 47) := by decide +kernel
theorem c_153_47 : aCod 153 47 = some (.iload 6, 49) := by decide +kernel
theorem c_153_49 : aCod 153 49 = some (.sipush (-1), 50) := by decide +kernel
theorem c_153_50 : aCod 153 50 = some (.if_icmp .ne 62, 53) := by decide +kernel
theorem c_153_53 : aCod 153 53 = some (.aload 0, 54) := by decide +kernel
theorem c_153_54 : aCod 153 54 = some (.sipush 3, 55) := by decide +kernel
theorem c_153_55 : aCod 153 55 = some (.aload 0, 56) := by decide +kernel
theorem c_153_56 : aCod 153 56 = some (.getfield 2347, 59) := by decide +kernel
theorem c_153_59 : aCod 153 59 = some (.invokevirtual 133, 62) := by decide +kernel
theorem c_153_62 : aCod 153 62 = some (.aload 0, 63) := by decide +kernel
theorem c_153_63 : aCod 153 63 = some (.aload 0, 64) := by decide +kernel
theorem c_153_64 : aCod 153 64 = some (.getfield 2325, 67) := by decide +kernel
theorem c_153_67 : aCod 153 67 = some (.invokevirtual 139, 70) := by decide +kernel
theorem c_153_70 : aCod 153 70 = some (.aload 0, 71) := by decide +kernel
theorem c_153_71 : aCod 153 71 = some (.sipush 1, 72) := by decide +kernel
theorem c_153_72 : aCod 153 72 = some (.sipush 999, 75) := by decide +kernel
theorem c_153_75 : aCod 153 75 = some (.invokevirtual 142, 78) := by decide +kernel
theorem c_153_78 : aCod 153 78 = some (.istore 7, 80) := by decide +kernel
theorem c_153_80 : aCod 153 80 = some (.aload 0, 81) := by decide +kernel
theorem c_153_81 : aCod 153 81 = some (.aload 0, 82) := by decide +kernel
theorem c_153_82 : aCod 153 82 = some (.getfield 2326, 85) := by decide +kernel
theorem c_153_85 : aCod 153 85 = some (.invokevirtual 139, 88) := by decide +kernel
theorem c_153_88 : aCod 153 88 = some (.aload 0, 89) := by decide +kernel
theorem c_153_89 : aCod 153 89 = some (.sipush 0, 90) := by decide +kernel
theorem c_153_90 : aCod 153 90 = some (.sipush 99, 92) := by decide +kernel
theorem c_153_92 : aCod 153 92 = some (.invokevirtual 142, 95) := by decide +kernel
theorem c_153_95 : aCod 153 95 = some (.istore 8, 97) := by decide +kernel
theorem c_153_97 : aCod 153 97 = some (.aload 0, 98) := by decide +kernel
theorem c_153_98 : aCod 153 98 = some (.aload 0, 99) := by decide +kernel
theorem c_153_99 : aCod 153 99 = some (.getfield 2327, 102) := by decide +kernel
theorem c_153_102 : aCod 153 102 = some (.invokevirtual 139, 105) := by decide +kernel
theorem c_153_105 : aCod 153 105 = some (.aload 0, 106) := by decide +kernel
theorem c_153_106 : aCod 153 106 = some (.sipush 0, 107) := by decide +kernel
theorem c_153_107 : aCod 153 107 = some (.sipush 99, 109) := by decide +kernel
theorem c_153_109 : aCod 153 109 = some (.invokevirtual 142, 112) := by decide +kernel
theorem c_153_112 : aCod 153 112 = some (.istore 9, 114) := by decide +kernel
theorem c_153_114 : aCod 153 114 = some (.aload 0, 115) := by decide +kernel
theorem c_153_115 : aCod 153 115 = some (.getfield 2309, 118) := by decide +kernel
theorem c_153_118 : aCod 153 118 = some (.ifCond .eq 122, 121) := by decide +kernel
theorem c_153_121 : aCod 153 121 = some (.return_, 122) := by decide +kernel
theorem c_153_122 : aCod 153 122 = some (.sipush 4, 123) := by decide +kernel
theorem c_153_123 : aCod 153 123 = some (.aload 0, 124) := by decide +kernel
theorem c_153_124 : aCod 153 124 = some (.sipush 2, 125) := by decide +kernel
theorem c_153_125 : aCod 153 125 = some (.lload 2, 126) := by decide +kernel
theorem c_153_126 : aCod 153 126 = some (.invokevirtual 149, 129) := by decide +kernel
theorem c_153_129 : aCod 153 129 = some (.imul, 130) := by decide +kernel
theorem c_153_130 : aCod 153 130 = some (.istore 10, 132) := by decide +kernel
theorem c_153_132 : aCod 153 132 = some (.aload 0, 133) := by decide +kernel
theorem c_153_133 : aCod 153 133 = some (.getfield 2353, 136) := by decide +kernel
theorem c_153_136 : aCod 153 136 = some (.iload 10, 138) := by decide +kernel
theorem c_153_138 : aCod 153 138 = some (.iload 6, 140) := by decide +kernel
theorem c_153_140 : aCod 153 140 = some (.iastore, 141) := by decide +kernel
theorem c_153_141 : aCod 153 141 = some (.aload 0, 142) := by decide +kernel
theorem c_153_142 : aCod 153 142 = some (.getfield 2353, 145) := by decide +kernel
theorem c_153_145 : aCod 153 145 = some (.iload 10, 147) := by decide +kernel
theorem c_153_147 : aCod 153 147 = some (.sipush 1, 148) := by decide +kernel
theorem c_153_148 : aCod 153 148 = some (.iadd, 149) := by decide +kernel
theorem c_153_149 : aCod 153 149 = some (.iload 7, 151) := by decide +kernel
theorem c_153_151 : aCod 153 151 = some (.iastore, 152) := by decide +kernel
theorem c_153_152 : aCod 153 152 = some (.aload 0, 153) := by decide +kernel
theorem c_153_153 : aCod 153 153 = some (.getfield 2353, 156) := by decide +kernel
theorem c_153_156 : aCod 153 156 = some (.iload 10, 158) := by decide +kernel
theorem c_153_158 : aCod 153 158 = some (.sipush 2, 159) := by decide +kernel
theorem c_153_159 : aCod 153 159 = some (.iadd, 160) := by decide +kernel
theorem c_153_160 : aCod 153 160 = some (.iload 8, 162) := by decide +kernel
theorem c_153_162 : aCod 153 162 = some (.iastore, 163) := by decide +kernel
theorem c_153_163 : aCod 153 163 = some (.aload 0, 164) := by decide +kernel
theorem c_153_164 : aCod 153 164 = some (.getfield 2353, 167) := by decide +kernel
theorem c_153_167 : aCod 153 167 = some (.iload 10, 169) := by decide +kernel
theorem c_153_169 : aCod 153 169 = some (.sipush 3, 170) := by decide +kernel
theorem c_153_170 : aCod 153 170 = some (.iadd, 171) := by decide +kernel
theorem c_153_171 : aCod 153 171 = some (.iload 9, 173) := by decide +kernel
theorem c_153_173 : aCod 153 173 = some (.iastore, 174) := by decide +kernel
theorem c_153_174 : aCod 153 174 = some (.return_, 175) := by decide +kernel
theorem c_154_0 : aCod 154 0 = some (.aload 0, 1) := by decide +kernel
theorem c_154_1 : aCod 154 1 = some (.getfield 2309, 4) := by decide +kernel
theorem c_154_4 : aCod 154 4 = some (.ifCond .ne 23, 7) := by decide +kernel
theorem c_154_7 : aCod 154 7 = some (.aload 0, 8) := by decide +kernel
theorem c_154_8 : aCod 154 8 = some (.getfield 2355, 11) := by decide +kernel
theorem c_154_11 : aCod 154 11 = some (.iload 1, 12) := by decide +kernel
theorem c_154_12 : aCod 154 12 = some (.iaload, 13) := by decide +kernel
theorem c_154_13 : aCod 154 13 = some (.sipush (-1), 14) := by decide +kernel
theorem c_154_14 : aCod 154 14 = some (.if_icmp .eq 23, 17) := by decide +kernel
theorem c_154_17 : aCod 154 17 = some (.aload 0, 18) := by decide +kernel
theorem c_154_18 : aCod 154 18 = some (.sipush 5, 19) := by decide +kernel
theorem c_154_19 : aCod 154 19 = some (.iload 2, 20) := by decide +kernel
theorem c_154_20 : aCod 154 20 = some (.invokevirtual 133, 23) := by decide +kernel
theorem c_154_23 : aCod 154 23 = some (.aload 0, 24) := by decide +kernel
theorem c_154_24 : aCod 154 24 = some (.getfield 2309, 27) := by decide +kernel
theorem c_154_27 : aCod 154 27 = some (.ifCond .eq 31, 30) := by decide +kernel
theorem c_154_30 : aCod 154 30 = some (.return_, 31) := by decide +kernel
theorem c_154_31 : aCod 154 31 = some (.aload 0, 32) := by decide +kernel
theorem c_154_32 : aCod 154 32 = some (.iload 1, 33) := by decide +kernel
theorem c_154_33 : aCod 154 33 = some (.sipush 1, 34) := by decide +kernel
theorem c_154_34 : aCod 154 34 = some (.if_icmp .ne 41, 37) := by decide +kernel
theorem c_154_37 : aCod 154 37 = some (.sipush 1, 38) := by decide +kernel
theorem c_154_38 : aCod 154 38 = some (.goto 42, 41) := by decide +kernel
theorem c_154_41 : aCod 154 41 = some (.sipush 0, 42) := by decide +kernel
theorem c_154_42 : aCod 154 42 = some (.putfield 2361, 45) := by decide +kernel
theorem c_154_45 : aCod 154 45 = some (.aload 0, 46) := by decide +kernel
theorem c_154_46 : aCod 154 46 = some (.sipush 0, 47) := by decide +kernel
theorem c_154_47 : aCod 154 47 = some (.putfield 2402, 50) := by decide +kernel
theorem c_154_50 : aCod 154 50 = some (.aload 0, 51) := by decide +kernel
theorem c_154_51 : aCod 154 51 = some (.sipush 0, 52) := by decide +kernel
theorem c_154_52 : aCod 154 52 = some (.putfield 2404, 55) := by decide +kernel
theorem c_154_55 : aCod 154 55 = some (.aload 0, 56) := by decide +kernel
theorem c_154_56 : aCod 154 56 = some (.sipush 0, 57) := by decide +kernel
theorem c_154_57 : aCod 154 57 = some (.putfield 2405, 60) := by decide +kernel
theorem c_154_60 : aCod 154 60 = some (.aload 0, 61) := by decide +kernel
theorem c_154_61 : aCod 154 61 = some (.sipush 0, 62) := by decide +kernel
theorem c_154_62 : aCod 154 62 = some (.putfield 2406, 65) := by decide +kernel
theorem c_154_65 : aCod 154 65 = some (.iload 1, 66) := by decide +kernel
theorem c_154_66 : aCod 154 66 = some (.sipush 2, 67) := by decide +kernel
theorem c_154_67 : aCod 154 67 = some (.if_icmp .ne 77, 70) := by decide +kernel
theorem c_154_70 : aCod 154 70 = some (.aload 0, 71) := by decide +kernel
theorem c_154_71 : aCod 154 71 = some (.invokevirtual 235, 74) := by decide +kernel
theorem c_154_74 : aCod 154 74 = some (.goto 81, 77) := by decide +kernel
theorem c_154_77 : aCod 154 77 = some (.aload 0, 78) := by decide +kernel
theorem c_154_78 : aCod 154 78 = some (.invokevirtual 231, 81) := by decide +kernel
theorem c_154_81 : aCod 154 81 = some (.aload 0, 82) := by decide +kernel
theorem c_154_82 : aCod 154 82 = some (.getfield 2309, 85) := by decide +kernel
theorem c_154_85 : aCod 154 85 = some (.ifCond .eq 89, 88) := by decide +kernel
theorem c_154_88 : aCod 154 88 = some (.return_, 89) := by decide +kernel
theorem c_154_89 : aCod 154 89 = some (.aload 0, 90) := by decide +kernel
theorem c_154_90 : aCod 154 90 = some (.getfield 2355, 93) := by decide +kernel
theorem c_154_93 : aCod 154 93 = some (.iload 1, 94) := by decide +kernel
theorem c_154_94 : aCod 154 94 = some (.aload 0, 95) := by decide +kernel
theorem c_154_95 : aCod 154 95 = some (.getfield 2358, 98) := by decide +kernel
theorem c_154_98 : aCod 154 98 = some (.iastore, 99) := by decide +kernel
theorem c_154_99 : aCod 154 99 = some (.sipush 0, 100) := by decide +kernel
theorem c_154_100 : aCod 154 100 = some (.istore 3, 101) := by decide +kernel
theorem c_154_101 : aCod 154 101 = some (.iload 3, 102) := by decide +kernel
theorem c_154_102 : aCod 154 102 = some (.aload 0, 103) := by decide +kernel
theorem c_154_103 : aCod 154 103 = some (.getfield 2402, 106) := by decide +kernel
theorem c_154_106 : aCod 154 106 = some (.if_icmp .ge 140, 109) := by decide +kernel
theorem c_154_109 : aCod 154 109 = some (.aload 0, 110) := by decide +kernel
theorem c_154_110 : aCod 154 110 = some (.getfield 2357, 113) := by decide +kernel
theorem c_154_113 : aCod 154 113 = some (.aload 0, 114) := by decide +kernel
theorem c_154_114 : aCod 154 114 = some (.getfield 2358, 117) := by decide +kernel
theorem c_154_117 : aCod 154 117 = some (.aload 0, 118) := by decide +kernel
theorem c_154_118 : aCod 154 118 = some (.getfield 2401, 121) := by decide +kernel
theorem c_154_121 : aCod 154 121 = some (.iload 3, 122) := by decide +kernel
theorem c_154_122 : aCod 154 122 = some (.iaload, 123) := by decide +kernel
theorem c_154_123 : aCod 154 123 = some (.iastore, 124) := by decide +kernel
theorem c_154_124 : aCod 154 124 = some (.aload 0, 125) := by decide +kernel
theorem c_154_125 : aCod 154 125 = some (.dup, 126) := by decide +kernel
theorem c_154_126 : aCod 154 126 = some (.getfield 2358, 129) := by decide +kernel
theorem c_154_129 : aCod 154 129 = some (.sipush 1, 130) := by decide +kernel
theorem c_154_130 : aCod 154 130 = some (.iadd, 131) := by decide +kernel
theorem c_154_131 : aCod 154 131 = some (.putfield 2358, 134) := by decide +kernel
theorem c_154_134 : aCod 154 134 = some (.iinc 3 1, 137) := by decide +kernel
theorem c_154_137 : aCod 154 137 = some (.goto 101, 140) := by decide +kernel
theorem c_154_140 : aCod 154 140 = some (.aload 0, 141) := by decide +kernel
theorem c_154_141 : aCod 154 141 = some (.getfield 2356, 144) := by decide +kernel
theorem c_154_144 : aCod 154 144 = some (.iload 1, 145) := by decide +kernel
theorem c_154_145 : aCod 154 145 = some (.aload 0, 146) := by decide +kernel
theorem c_154_146 : aCod 154 146 = some (.getfield 2358, 149) := by decide +kernel
theorem c_154_149 : aCod 154 149 = some (.iastore, 150) := by decide +kernel
theorem c_154_150 : aCod 154 150 = some (.return_, 151) := by decide +kernel
theorem c_155_0 : aCod 155 0 = some (.aload 0, 1) := by decide +kernel
theorem c_155_1 : aCod 155 1 = some (.getfield 2306, 4) := by decide +kernel
theorem c_155_4 : aCod 155 4 = some (.istore 1, 5) := by decide +kernel
theorem c_155_5 : aCod 155 5 = some (.aload 0, 6) := by decide +kernel
theorem c_155_6 : aCod 155 6 = some (.getfield 2359, 9) := by decide +kernel
theorem c_155_9 : aCod 155 9 = some (.sipush 70, 11) := by decide +kernel
theorem c_155_11 : aCod 155 11 = some (.if_icmp .ne 21, 14) := by decide +kernel
theorem c_155_14 : aCod 155 14 = some (.aload 0, 15) := by decide +kernel
theorem c_155_15 : aCod 155 15 = some (.sipush 5, 16) := by decide +kernel
theorem c_155_16 : aCod 155 16 = some (.iload 1, 17) := by decide +kernel
theorem c_155_17 : aCod 155 17 = some (.invokevirtual 133, 20) := by decide +kernel
theorem c_155_20 : aCod 155 20 = some (.return_, 21) := by decide +kernel
theorem c_155_21 : aCod 155 21 = some (.aload 0, 22) := by decide +kernel
theorem c_155_22 : aCod 155 22 = some (.aload 0, 23) := by decide +kernel
theorem c_155_23 : aCod 155 23 = some (.getfield 2319, 26) := by decide +kernel
theorem c_155_26 : aCod 155 26 = some (.invokevirtual 138, 29) := by decide +kernel
theorem c_155_29 : aCod 155 29 = some (.ifCond .eq 40, 32) := by decide +kernel
theorem c_155_32 : aCod 155 32 = some (.aload 0, 33) := by decide +kernel
theorem c_155_33 : aCod 155 33 = some (.iload 1, 34) := by decide +kernel
theorem c_155_34 : aCod 155 34 = some (.invokevirtual 151, 37) := by decide +kernel
theorem c_155_37 : aCod 155 37 = some (.goto 214, 40) := by decide +kernel
theorem c_155_40 : aCod 155 40 = some (.aload 0, 41) := by decide +kernel
theorem c_155_41 : aCod 155 41 = some (.aload 0, 42) := by decide +kernel
theorem c_155_42 : aCod 155 42 = some (.getfield 2321, 45) := by decide +kernel
theorem c_155_45 : aCod 155 45 = some (.invokevirtual 138, 48) := by decide +kernel
theorem c_155_48 : aCod 155 48 = some (.ifCond .eq 59, 51) := by decide +kernel
theorem c_155_51 : aCod 155 51 = some (.aload 0, 52) := by decide +kernel
theorem c_155_52 : aCod 155 52 = some (.iload 1, 53) := by decide +kernel
theorem c_155_53 : aCod 155 53 = some (.invokevirtual 152, 56) := by decide +kernel
theorem c_155_56 : aCod 155 56 = some (.goto 214, 59) := by decide +kernel
theorem c_155_59 : aCod 155 59 = some (.aload 0, 60) := by decide +kernel
theorem c_155_60 : aCod 155 60 = some (.aload 0, 61) := by decide +kernel
theorem c_155_61 : aCod 155 61 = some (.getfield 2323, 64) := by decide +kernel
theorem c_155_64 : aCod 155 64 = some (.invokevirtual 138, 67) := by decide +kernel
theorem c_155_67 : aCod 155 67 = some (.ifCond .eq 78, 70) := by decide +kernel
theorem c_155_70 : aCod 155 70 = some (.aload 0, 71) := by decide +kernel
theorem c_155_71 : aCod 155 71 = some (.iload 1, 72) := by decide +kernel
theorem c_155_72 : aCod 155 72 = some (.invokevirtual 153, 75) := by decide +kernel
theorem c_155_75 : aCod 155 75 = some (.goto 214, 78) := by decide +kernel
theorem c_155_78 : aCod 155 78 = some (.aload 0, 79) := by decide +kernel
theorem c_155_79 : aCod 155 79 = some (.aload 0, 80) := by decide +kernel
theorem c_155_80 : aCod 155 80 = some (.getfield 2328, 83) := by decide +kernel
theorem c_155_83 : aCod 155 83 = some (.invokevirtual 138, 86) := by decide +kernel
theorem c_155_86 : aCod 155 86 = some (.ifCond .eq 98, 89) := by decide +kernel
theorem c_155_89 : aCod 155 89 = some (.aload 0, 90) := by decide +kernel
theorem c_155_90 : aCod 155 90 = some (.sipush 0, 91) := by decide +kernel
theorem c_155_91 : aCod 155 91 = some (.iload 1, 92) := by decide +kernel
theorem c_155_92 : aCod 155 92 = some (.invokevirtual 154, 95) := by decide +kernel
theorem c_155_95 : aCod 155 95 = some (.goto 214, 98) := by decide +kernel
theorem c_155_98 : aCod 155 98 = some (.aload 0, 99) := by decide +kernel
theorem c_155_99 : aCod 155 99 = some (.aload 0, 100) := by decide +kernel
theorem c_155_100 : aCod 155 100 = some (.getfield 2329, 103) := by decide +kernel
theorem c_155_103 : aCod 155 103 = some (.invokevirtual 138, 106) := by decide +kernel
theorem c_155_106 : aCod 155 106 = some (.ifCond .eq 118, 109) := by decide +kernel
theorem c_155_109 : aCod 155 109 = some (.aload 0, 110) := by decide +kernel
theorem c_155_110 : aCod 155 110 = some (.sipush 1, 111) := by decide +kernel
theorem c_155_111 : aCod 155 111 = some (.iload 1, 112) := by decide +kernel
theorem c_155_112 : aCod 155 112 = some (.invokevirtual 154, 115) := by decide +kernel
theorem c_155_115 : aCod 155 115 = some (.goto 214, 118) := by decide +kernel
theorem c_155_118 : aCod 155 118 = some (.aload 0, 119) := by decide +kernel
theorem c_155_119 : aCod 155 119 = some (.aload 0, 120) := by decide +kernel
theorem c_155_120 : aCod 155 120 = some (.getfield 2330, 123) := by decide +kernel
theorem c_155_123 : aCod 155 123 = some (.invokevirtual 138, 126) := by decide +kernel
theorem c_155_126 : aCod 155 126 = some (.ifCond .eq 138, 129) := by decide +kernel
theorem c_155_129 : aCod 155 129 = some (.aload 0, 130) := by decide +kernel
theorem c_155_130 : aCod 155 130 = some (.sipush 2, 131) := by decide +kernel
theorem c_155_131 : aCod 155 131 = some (.iload 1, 132) := by decide +kernel
theorem c_155_132 : aCod 155 132 = some (.invokevirtual 154, 135) := by decide +kernel
theorem c_155_135 : aCod 155 135 = some (.goto 214, 138) := by decide +kernel
theorem c_155_138 : aCod 155 138 = some (.aload 0, 139) := by decide +kernel
theorem c_155_139 : aCod 155 139 = some (.aload 0, 140) := by decide +kernel
theorem c_155_140 : aCod 155 140 = some (.getfield 2331, 143) := by decide +kernel
theorem c_155_143 : aCod 155 143 = some (.invokevirtual 138, 146) := by decide +kernel
theorem c_155_146 : aCod 155 146 = some (.ifCond .eq 165, 149) := by decide +kernel
theorem c_155_149 : aCod 155 149 = some (.aload 0, 150) := by decide +kernel
theorem c_155_150 : aCod 155 150 = some (.getfield 2354, 153) := by decide +kernel
theorem c_155_153 : aCod 155 153 = some (.sipush 0, 154) := by decide +kernel
theorem c_155_154 : aCod 155 154 = some (.aload 0, 155) := by decide +kernel
theorem c_155_155 : aCod 155 155 = some (.sipush 0, 156) := by decide +kernel
theorem c_155_156 : aCod 155 156 = some (.sipush 100, 158) := by decide +kernel
theorem c_155_158 : aCod 155 158 = some (.invokevirtual 142, 161) := by decide +kernel
theorem c_155_161 : aCod 155 161 = some (.iastore, 162) := by decide +kernel
theorem c_155_162 : aCod 155 162 = some (.goto 214, 165) := by decide +kernel
theorem c_155_165 : aCod 155 165 = some (.aload 0, 166) := by decide +kernel
theorem c_155_166 : aCod 155 166 = some (.aload 0, 167) := by decide +kernel
theorem c_155_167 : aCod 155 167 = some (.getfield 2332, 170) := by decide +kernel
theorem c_155_170 : aCod 155 170 = some (.invokevirtual 138, 173) := by decide +kernel
theorem c_155_173 : aCod 155 173 = some (.ifCond .eq 193, 176) := by decide +kernel
theorem c_155_176 : aCod 155 176 = some (.aload 0, 177) := by decide +kernel
theorem c_155_177 : aCod 155 177 = some (.getfield 2354, 180) := by decide +kernel
theorem c_155_180 : aCod 155 180 = some (.sipush 1, 181) := by decide +kernel
theorem c_155_181 : aCod 155 181 = some (.aload 0, 182) := by decide +kernel
theorem c_155_182 : aCod 155 182 = some (.sipush 0, 183) := by decide +kernel
theorem c_155_183 : aCod 155 183 = some (.sipush 9999, 186) := by decide +kernel
theorem c_155_186 : aCod 155 186 = some (.invokevirtual 142, 189) := by decide +kernel
theorem c_155_189 : aCod 155 189 = some (.iastore, 190) := by decide +kernel
theorem c_155_190 : aCod 155 190 = some (.goto 214, 193) := by decide +kernel
theorem c_155_193 : aCod 155 193 = some (.aload 0, 194) := by decide +kernel
theorem c_155_194 : aCod 155 194 = some (.aload 0, 195) := by decide +kernel
theorem c_155_195 : aCod 155 195 = some (.getfield 2333, 198) := by decide +kernel
theorem c_155_198 : aCod 155 198 = some (.invokevirtual 139, 201) := by decide +kernel
theorem c_155_201 : aCod 155 201 = some (.aload 0, 202) := by decide +kernel
theorem c_155_202 : aCod 155 202 = some (.getfield 2354, 205) := by decide +kernel
theorem c_155_205 : aCod 155 205 = some (.sipush 2, 206) := by decide +kernel
theorem c_155_206 : aCod 155 206 = some (.aload 0, 207) := by decide +kernel
theorem c_155_207 : aCod 155 207 = some (.sipush 0, 208) := by decide +kernel
theorem c_155_208 : aCod 155 208 = some (.sipush 100, 210) := by decide +kernel
theorem c_155_210 : aCod 155 210 = some (.invokevirtual 142, 213) := by decide +kernel
theorem c_155_213 : aCod 155 213 = some (.iastore, 214) := by decide +kernel
theorem c_155_214 : aCod 155 214 = some (.aload 0, 215) := by decide +kernel
theorem c_155_215 : aCod 155 215 = some (.sipush 59, 217) := by decide +kernel
theorem c_155_217 : aCod 155 217 = some (.invokevirtual 141, 220) := by decide +kernel
theorem c_155_220 : aCod 155 220 = some (.aload 0, 221) := by decide +kernel
theorem c_155_221 : aCod 155 221 = some (.dup, 222) := by decide +kernel
theorem c_155_222 : aCod 155 222 = some (.getfield 2359, 225) := by decide +kernel
theorem c_155_225 : aCod 155 225 = some (.sipush 1, 226) := by decide +kernel
theorem c_155_226 : aCod 155 226 = some (.iadd, 227) := by decide +kernel
theorem c_155_227 : aCod 155 227 = some (.putfield 2359, 230) := by decide +kernel
theorem c_155_230 : aCod 155 230 = some (.return_, 231) := by decide +kernel
theorem c_156_0 : aCod 156 0 = some (.aload 0, 1) := by decide +kernel
theorem c_156_1 : aCod 156 1 = some (.aload 0, 2) := by decide +kernel
theorem c_156_2 : aCod 156 2 = some (.getfield 2305, 5) := by decide +kernel
theorem c_156_5 : aCod 156 5 = some (.putfield 2307, 8) := by decide +kernel
theorem c_156_8 : aCod 156 8 = some (.aload 0, 9) := by decide +kernel
theorem c_156_9 : aCod 156 9 = some (.sipush 0, 10) := by decide +kernel
theorem c_156_10 : aCod 156 10 = some (.putfield 2305, 13) := by decide +kernel
theorem c_156_13 : aCod 156 13 = some (.aload 0, 14) := by decide +kernel
theorem c_156_14 : aCod 156 14 = some (.sipush 0, 15) := by decide +kernel
theorem c_156_15 : aCod 156 15 = some (.putfield 2306, 18) := by decide +kernel
theorem c_156_18 : aCod 156 18 = some (.aload 0, 19) := by decide +kernel
theorem c_156_19 : aCod 156 19 = some (.sipush (-1), 20) := by decide +kernel
theorem c_156_20 : aCod 156 20 = some (.putfield 2308, 23) := by decide +kernel
theorem c_156_23 : aCod 156 23 = some (.aload 0, 24) := by decide +kernel
theorem c_156_24 : aCod 156 24 = some (.sipush 0, 25) := by decide +kernel
theorem c_156_25 : aCod 156 25 = some (.putfield 2309, 28) := by decide +kernel
theorem c_156_28 : aCod 156 28 = some (.aload 0, 29) := by decide +kernel
theorem c_156_29 : aCod 156 29 = some (.sipush (-1), 30) := by decide +kernel
theorem c_156_30 : aCod 156 30 = some (.putfield 2310, 33) := by decide +kernel
theorem c_156_33 : aCod 156 33 = some (.aload 0, 34) := by decide +kernel
theorem c_156_34 : aCod 156 34 = some (.sipush 0, 35) := by decide +kernel
theorem c_156_35 : aCod 156 35 = some (.putfield 2358, 38) := by decide +kernel
theorem c_156_38 : aCod 156 38 = some (.sipush 0, 39) := by decide +kernel
theorem c_156_39 : aCod 156 39 = some (.istore 1, 40) := by decide +kernel
theorem c_156_40 : aCod 156 40 = some (.iload 1, 41) := by decide +kernel
theorem c_156_41 : aCod 156 41 = some (.sipush 3, 42) := by decide +kernel
theorem c_156_42 : aCod 156 42 = some (.if_icmp .ge 65, 45) := by decide +kernel
theorem c_156_45 : aCod 156 45 = some (.aload 0, 46) := by decide +kernel
theorem c_156_46 : aCod 156 46 = some (.getfield 2348, 49) := by decide +kernel
theorem c_156_49 : aCod 156 49 = some (.iload 1, 50) := by decide +kernel
theorem c_156_50 : aCod 156 50 = some (.sipush 0, 51) := by decide +kernel
theorem c_156_51 : aCod 156 51 = some (.iastore, 52) := by decide +kernel
theorem c_156_52 : aCod 156 52 = some (.aload 0, 53) := by decide +kernel
theorem c_156_53 : aCod 156 53 = some (.getfield 2355, 56) := by decide +kernel
theorem c_156_56 : aCod 156 56 = some (.iload 1, 57) := by decide +kernel
theorem c_156_57 : aCod 156 57 = some (.sipush (-1), 58) := by decide +kernel
theorem c_156_58 : aCod 156 58 = some (.iastore, 59) := by decide +kernel
theorem c_156_59 : aCod 156 59 = some (.iinc 1 1, 62) := by decide +kernel
theorem c_156_62 : aCod 156 62 = some (.goto 40, 65) := by decide +kernel
theorem c_156_65 : aCod 156 65 = some (.aload 0, 66) := by decide +kernel
theorem c_156_66 : aCod 156 66 = some (.getfield 2354, 69) := by decide +kernel
theorem c_156_69 : aCod 156 69 = some (.sipush 0, 70) := by decide +kernel
theorem c_156_70 : aCod 156 70 = some (.sipush 0, 71) := by decide +kernel
theorem c_156_71 : aCod 156 71 = some (.iastore, 72) := by decide +kernel
theorem c_156_72 : aCod 156 72 = some (.aload 0, 73) := by decide +kernel
theorem c_156_73 : aCod 156 73 = some (.getfield 2354, 76) := by decide +kernel
theorem c_156_76 : aCod 156 76 = some (.sipush 1, 77) := by decide +kernel
theorem c_156_77 : aCod 156 77 = some (.sipush 1, 78) := by decide +kernel
theorem c_156_78 : aCod 156 78 = some (.iastore, 79) := by decide +kernel
theorem c_156_79 : aCod 156 79 = some (.aload 0, 80) := by decide +kernel
theorem c_156_80 : aCod 156 80 = some (.getfield 2354, 83) := by decide +kernel
theorem c_156_83 : aCod 156 83 = some (.sipush 2, 84) := by decide +kernel
theorem c_156_84 : aCod 156 84 = some (.sipush 0, 85) := by decide +kernel
theorem c_156_85 : aCod 156 85 = some (.iastore, 86) := by decide +kernel
theorem c_156_86 : aCod 156 86 = some (.aload 0, 87) := by decide +kernel
theorem c_156_87 : aCod 156 87 = some (.invokevirtual 150, 90) := by decide +kernel
theorem c_156_90 : aCod 156 90 = some (.aload 0, 91) := by decide +kernel
theorem c_156_91 : aCod 156 91 = some (.sipush 1, 92) := by decide +kernel
theorem c_156_92 : aCod 156 92 = some (.putfield 2359, 95) := by decide +kernel
theorem c_156_95 : aCod 156 95 = some (.aload 0, 96) := by decide +kernel
theorem c_156_96 : aCod 156 96 = some (.getfield 2309, 99) := by decide +kernel
theorem c_156_99 : aCod 156 99 = some (.ifCond .ne 117, 102) := by decide +kernel
theorem c_156_102 : aCod 156 102 = some (.aload 0, 103) := by decide +kernel
theorem c_156_103 : aCod 156 103 = some (.invokevirtual 136, 106) := by decide +kernel
theorem c_156_106 : aCod 156 106 = some (.sipush (-1), 107) := by decide +kernel
theorem c_156_107 : aCod 156 107 = some (.if_icmp .eq 117, 110) := by decide +kernel
theorem c_156_110 : aCod 156 110 = some (.aload 0, 111) := by decide +kernel
theorem c_156_111 : aCod 156 111 = some (.invokevirtual 155, 114) := by decide +kernel
theorem c_156_114 : aCod 156 114 = some (.goto 95, 117) := by decide +kernel
theorem c_156_117 : aCod 156 117 = some (.aload 0, 118) := by decide +kernel
theorem c_156_118 : aCod 156 118 = some (.aload 0, 119) := by decide +kernel
theorem c_156_119 : aCod 156 119 = some (.getfield 2309, 122) := by decide +kernel
theorem c_156_122 : aCod 156 122 = some (.putfield 2311, 125) := by decide +kernel
theorem c_156_125 : aCod 156 125 = some (.aload 0, 126) := by decide +kernel
theorem c_156_126 : aCod 156 126 = some (.aload 0, 127) := by decide +kernel
theorem c_156_127 : aCod 156 127 = some (.getfield 2310, 130) := by decide +kernel
theorem c_156_130 : aCod 156 130 = some (.putfield 2312, 133) := by decide +kernel
theorem c_156_133 : aCod 156 133 = some (.aload 0, 134) := by decide +kernel
theorem c_156_134 : aCod 156 134 = some (.getfield 2309, 137) := by decide +kernel
theorem c_156_137 : aCod 156 137 = some (.ifCond .eq 152, 140) := by decide +kernel
theorem c_156_140 : aCod 156 140 = some (.aload 0, 141) := by decide +kernel
theorem c_156_141 : aCod 156 141 = some (.getfield 2313, 144) := by decide +kernel
theorem c_156_144 : aCod 156 144 = some (.sipush 1, 145) := by decide +kernel
theorem c_156_145 : aCod 156 145 = some (.dup2, 146) := by decide +kernel
theorem c_156_146 : aCod 156 146 = some (.iaload, 147) := by decide +kernel
theorem c_156_147 : aCod 156 147 = some (.sipush 1, 148) := by decide +kernel
theorem c_156_148 : aCod 156 148 = some (.iadd, 149) := by decide +kernel
theorem c_156_149 : aCod 156 149 = some (.iastore, 150) := by decide +kernel
theorem c_156_150 : aCod 156 150 = some (.sipush (-1), 151) := by decide +kernel
theorem c_156_151 : aCod 156 151 = some (.ireturn, 152) := by decide +kernel
theorem c_156_152 : aCod 156 152 = some (.aload 0, 153) := by decide +kernel
theorem c_156_153 : aCod 156 153 = some (.invokevirtual 157, 156) := by decide +kernel
theorem c_156_156 : aCod 156 156 = some (.aload 0, 157) := by decide +kernel
theorem c_156_157 : aCod 156 157 = some (.getfield 2359, 160) := by decide +kernel
theorem c_156_160 : aCod 156 160 = some (.ireturn, 161) := by decide +kernel
theorem c_157_0 : aCod 157 0 = some (.aload 0, 1) := by decide +kernel
theorem c_157_1 : aCod 157 1 = some (.sipush 1, 2) := by decide +kernel
theorem c_157_2 : aCod 157 2 = some (.putfield 2360, 5) := by decide +kernel
theorem c_157_5 : aCod 157 5 = some (.sipush 0, 6) := by decide +kernel
theorem c_157_6 : aCod 157 6 = some (.istore 1, 7) := by decide +kernel
theorem c_157_7 : aCod 157 7 = some (.iload 1, 8) := by decide +kernel
theorem c_157_8 : aCod 157 8 = some (.sipush 3, 9) := by decide +kernel
theorem c_157_9 : aCod 157 9 = some (.if_icmp .ge 88, 12) := by decide +kernel
theorem c_157_12 : aCod 157 12 = some (.aload 0, 13) := by decide +kernel
theorem c_157_13 : aCod 157 13 = some (.getfield 2348, 16) := by decide +kernel
theorem c_157_16 : aCod 157 16 = some (.sipush 3, 17) := by decide +kernel
theorem c_157_17 : aCod 157 17 = some (.iload 1, 18) := by decide +kernel
theorem c_157_18 : aCod 157 18 = some (.iadd, 19) := by decide +kernel
theorem c_157_19 : aCod 157 19 = some (.aload 0, 20) := by decide +kernel
theorem c_157_20 : aCod 157 20 = some (.getfield 2348, 23) := by decide +kernel
theorem c_157_23 : aCod 157 23 = some (.iload 1, 24) := by decide +kernel
theorem c_157_24 : aCod 157 24 = some (.iaload, 25) := by decide +kernel
theorem c_157_25 : aCod 157 25 = some (.iastore, 26) := by decide +kernel
theorem c_157_26 : aCod 157 26 = some (.aload 0, 27) := by decide +kernel
theorem c_157_27 : aCod 157 27 = some (.getfield 2350, 30) := by decide +kernel
theorem c_157_30 : aCod 157 30 = some (.sipush 3, 31) := by decide +kernel
theorem c_157_31 : aCod 157 31 = some (.iload 1, 32) := by decide +kernel
theorem c_157_32 : aCod 157 32 = some (.iadd, 33) := by decide +kernel
theorem c_157_33 : aCod 157 33 = some (.aload 0, 34) := by decide +kernel
theorem c_157_34 : aCod 157 34 = some (.getfield 2350, 37) := by decide +kernel
theorem c_157_37 : aCod 157 37 = some (.iload 1, 38) := by decide +kernel
theorem c_157_38 : aCod 157 38 = some (.iaload, 39) := by decide +kernel
theorem c_157_39 : aCod 157 39 = some (.iastore, 40) := by decide +kernel
theorem c_157_40 : aCod 157 40 = some (.aload 0, 41) := by decide +kernel
theorem c_157_41 : aCod 157 41 = some (.getfield 2354, 44) := by decide +kernel
theorem c_157_44 : aCod 157 44 = some (.sipush 3, 45) := by decide +kernel
theorem c_157_45 : aCod 157 45 = some (.iload 1, 46) := by decide +kernel
theorem c_157_46 : aCod 157 46 = some (.iadd, 47) := by decide +kernel
theorem c_157_47 : aCod 157 47 = some (.aload 0, 48) := by decide +kernel
theorem c_157_48 : aCod 157 48 = some (.getfield 2354, 51) := by decide +kernel
theorem c_157_51 : aCod 157 51 = some (.iload 1, 52) := by decide +kernel
theorem c_157_52 : aCod 157 52 = some (.iaload, 53) := by decide +kernel
theorem c_157_53 : aCod 157 53 = some (.iastore, 54) := by decide +kernel
theorem c_157_54 : aCod 157 54 = some (.aload 0, 55) := by decide +kernel
theorem c_157_55 : aCod 157 55 = some (.getfield 2355, 58) := by decide +kernel
theorem c_157_58 : aCod 157 58 = some (.sipush 3, 59) := by decide +kernel
theorem c_157_59 : aCod 157 59 = some (.iload 1, 60) := by decide +kernel
theorem c_157_60 : aCod 157 60 = some (.iadd, 61) := by decide +kernel
theorem c_157_61 : aCod 157 61 = some (.aload 0, 62) := by decide +kernel
theorem c_157_62 : aCod 157 62 = some (.getfield 2355, 65) := by decide +kernel
theorem c_157_65 : aCod 157 65 = some (.iload 1, 66) := by decide +kernel
theorem c_157_66 : aCod 157 66 = some (.iaload, 67) := by decide +kernel
theorem c_157_67 : aCod 157 67 = some (.iastore, 68) := by decide +kernel
theorem c_157_68 : aCod 157 68 = some (.aload 0, 69) := by decide +kernel
theorem c_157_69 : aCod 157 69 = some (.getfield 2356, 72) := by decide +kernel
theorem c_157_72 : aCod 157 72 = some (.sipush 3, 73) := by decide +kernel
theorem c_157_73 : aCod 157 73 = some (.iload 1, 74) := by decide +kernel
theorem c_157_74 : aCod 157 74 = some (.iadd, 75) := by decide +kernel
theorem c_157_75 : aCod 157 75 = some (.aload 0, 76) := by decide +kernel
theorem c_157_76 : aCod 157 76 = some (.getfield 2356, 79) := by decide +kernel
theorem c_157_79 : aCod 157 79 = some (.iload 1, 80) := by decide +kernel
theorem c_157_80 : aCod 157 80 = some (.iaload, 81) := by decide +kernel
theorem c_157_81 : aCod 157 81 = some (.iastore, 82) := by decide +kernel
theorem c_157_82 : aCod 157 82 = some (.iinc 1 1, 85) := by decide +kernel
theorem c_157_85 : aCod 157 85 = some (.goto 7, 88) := by decide +kernel
theorem c_157_88 : aCod 157 88 = some (.sipush 0, 89) := by decide +kernel
theorem c_157_89 : aCod 157 89 = some (.istore 1, 90) := by decide +kernel
theorem c_157_90 : aCod 157 90 = some (.iload 1, 91) := by decide +kernel
theorem c_157_91 : aCod 157 91 = some (.sipush 24, 93) := by decide +kernel
theorem c_157_93 : aCod 157 93 = some (.if_icmp .ge 117, 96) := by decide +kernel
theorem c_157_96 : aCod 157 96 = some (.aload 0, 97) := by decide +kernel
theorem c_157_97 : aCod 157 97 = some (.getfield 2349, 100) := by decide +kernel
theorem c_157_100 : aCod 157 100 = some (.sipush 24, 102) := by decide +kernel
theorem c_157_102 : aCod 157 102 = some (.iload 1, 103) := by decide +kernel
theorem c_157_103 : aCod 157 103 = some (.iadd, 104) := by decide +kernel
theorem c_157_104 : aCod 157 104 = some (.aload 0, 105) := by decide +kernel
theorem c_157_105 : aCod 157 105 = some (.getfield 2349, 108) := by decide +kernel
theorem c_157_108 : aCod 157 108 = some (.iload 1, 109) := by decide +kernel
theorem c_157_109 : aCod 157 109 = some (.laload, 110) := by decide +kernel
theorem c_157_110 : aCod 157 110 = some (.lastore, 111) := by decide +kernel
theorem c_157_111 : aCod 157 111 = some (.iinc 1 1, 114) := by decide +kernel
theorem c_157_114 : aCod 157 114 = some (.goto 90, 117) := by decide +kernel
theorem c_157_117 : aCod 157 117 = some (.sipush 0, 118) := by decide +kernel
theorem c_157_118 : aCod 157 118 = some (.istore 1, 119) := by decide +kernel
theorem c_157_119 : aCod 157 119 = some (.iload 1, 120) := by decide +kernel
theorem c_157_120 : aCod 157 120 = some (.sipush 12, 122) := by decide +kernel
theorem c_157_122 : aCod 157 122 = some (.if_icmp .ge 146, 125) := by decide +kernel
theorem c_157_125 : aCod 157 125 = some (.aload 0, 126) := by decide +kernel
theorem c_157_126 : aCod 157 126 = some (.getfield 2351, 129) := by decide +kernel
theorem c_157_129 : aCod 157 129 = some (.sipush 12, 131) := by decide +kernel
theorem c_157_131 : aCod 157 131 = some (.iload 1, 132) := by decide +kernel
theorem c_157_132 : aCod 157 132 = some (.iadd, 133) := by decide +kernel
theorem c_157_133 : aCod 157 133 = some (.aload 0, 134) := by decide +kernel
theorem c_157_134 : aCod 157 134 = some (.getfield 2351, 137) := by decide +kernel
theorem c_157_137 : aCod 157 137 = some (.iload 1, 138) := by decide +kernel
theorem c_157_138 : aCod 157 138 = some (.iaload, 139) := by decide +kernel
theorem c_157_139 : aCod 157 139 = some (.iastore, 140) := by decide +kernel
theorem c_157_140 : aCod 157 140 = some (.iinc 1 1, 143) := by decide +kernel
theorem c_157_143 : aCod 157 143 = some (.goto 119, 146) := by decide +kernel
theorem c_157_146 : aCod 157 146 = some (.sipush 0, 147) := by decide +kernel
theorem c_157_147 : aCod 157 147 = some (.istore 1, 148) := by decide +kernel
theorem c_157_148 : aCod 157 148 = some (.iload 1, 149) := by decide +kernel
theorem c_157_149 : aCod 157 149 = some (.sipush 6, 151) := by decide +kernel
theorem c_157_151 : aCod 157 151 = some (.if_icmp .ge 175, 154) := by decide +kernel
theorem c_157_154 : aCod 157 154 = some (.aload 0, 155) := by decide +kernel
theorem c_157_155 : aCod 157 155 = some (.getfield 2352, 158) := by decide +kernel
theorem c_157_158 : aCod 157 158 = some (.sipush 6, 160) := by decide +kernel
theorem c_157_160 : aCod 157 160 = some (.iload 1, 161) := by decide +kernel
theorem c_157_161 : aCod 157 161 = some (.iadd, 162) := by decide +kernel
theorem c_157_162 : aCod 157 162 = some (.aload 0, 163) := by decide +kernel
theorem c_157_163 : aCod 157 163 = some (.getfield 2352, 166) := by decide +kernel
theorem c_157_166 : aCod 157 166 = some (.iload 1, 167) := by decide +kernel
theorem c_157_167 : aCod 157 167 = some (.iaload, 168) := by decide +kernel
theorem c_157_168 : aCod 157 168 = some (.iastore, 169) := by decide +kernel
theorem c_157_169 : aCod 157 169 = some (.iinc 1 1, 172) := by decide +kernel
theorem c_157_172 : aCod 157 172 = some (.goto 148, 175) := by decide +kernel
theorem c_157_175 : aCod 157 175 = some (.sipush 0, 176) := by decide +kernel
theorem c_157_176 : aCod 157 176 = some (.istore 1, 177) := by decide +kernel
theorem c_157_177 : aCod 157 177 = some (.iload 1, 178) := by decide +kernel
theorem c_157_178 : aCod 157 178 = some (.sipush 32, 180) := by decide +kernel
theorem c_157_180 : aCod 157 180 = some (.if_icmp .ge 204, 183) := by decide +kernel
theorem c_157_183 : aCod 157 183 = some (.aload 0, 184) := by decide +kernel
theorem c_157_184 : aCod 157 184 = some (.getfield 2353, 187) := by decide +kernel
theorem c_157_187 : aCod 157 187 = some (.sipush 32, 189) := by decide +kernel
theorem c_157_189 : aCod 157 189 = some (.iload 1, 190) := by decide +kernel
theorem c_157_190 : aCod 157 190 = some (.iadd, 191) := by decide +kernel
theorem c_157_191 : aCod 157 191 = some (.aload 0, 192) := by decide +kernel
theorem c_157_192 : aCod 157 192 = some (.getfield 2353, 195) := by decide +kernel
theorem c_157_195 : aCod 157 195 = some (.iload 1, 196) := by decide +kernel
theorem c_157_196 : aCod 157 196 = some (.iaload, 197) := by decide +kernel
theorem c_157_197 : aCod 157 197 = some (.iastore, 198) := by decide +kernel
theorem c_157_198 : aCod 157 198 = some (.iinc 1 1, 201) := by decide +kernel
theorem c_157_201 : aCod 157 201 = some (.goto 177, 204) := by decide +kernel
theorem c_157_204 : aCod 157 204 = some (.sipush 0, 205) := by decide +kernel
theorem c_157_205 : aCod 157 205 = some (.istore 1, 206) := by decide +kernel
theorem c_157_206 : aCod 157 206 = some (.iload 1, 207) := by decide +kernel
theorem c_157_207 : aCod 157 207 = some (.aload 0, 208) := by decide +kernel
theorem c_157_208 : aCod 157 208 = some (.getfield 2358, 211) := by decide +kernel
theorem c_157_211 : aCod 157 211 = some (.if_icmp .ge 236, 214) := by decide +kernel
theorem c_157_214 : aCod 157 214 = some (.aload 0, 215) := by decide +kernel
theorem c_157_215 : aCod 157 215 = some (.getfield 2357, 218) := by decide +kernel
theorem c_157_218 : aCod 157 218 = some (.sipush 1600, 221) := by decide +kernel
theorem c_157_221 : aCod 157 221 = some (.iload 1, 222) := by decide +kernel
theorem c_157_222 : aCod 157 222 = some (.iadd, 223) := by decide +kernel
theorem c_157_223 : aCod 157 223 = some (.aload 0, 224) := by decide +kernel
theorem c_157_224 : aCod 157 224 = some (.getfield 2357, 227) := by decide +kernel
theorem c_157_227 : aCod 157 227 = some (.iload 1, 228) := by decide +kernel
theorem c_157_228 : aCod 157 228 = some (.iaload, 229) := by decide +kernel
theorem c_157_229 : aCod 157 229 = some (.iastore, 230) := by decide +kernel
theorem c_157_230 : aCod 157 230 = some (.iinc 1 1, 233) := by decide +kernel
theorem c_157_233 : aCod 157 233 = some (.goto 206, 236) := by decide +kernel
theorem c_157_236 : aCod 157 236 = some (.sipush 0, 237) := by decide +kernel
theorem c_157_237 : aCod 157 237 = some (.istore 1, 238) := by decide +kernel
theorem c_157_238 : aCod 157 238 = some (.iload 1, 239) := by decide +kernel
theorem c_157_239 : aCod 157 239 = some (.sipush 188, 242) := by decide +kernel
theorem c_157_242 : aCod 157 242 = some (.if_icmp .ge 258, 245) := by decide +kernel
theorem c_157_245 : aCod 157 245 = some (.aload 0, 246) := by decide +kernel
theorem c_157_246 : aCod 157 246 = some (.getfield 2362, 249) := by decide +kernel
theorem c_157_249 : aCod 157 249 = some (.iload 1, 250) := by decide +kernel
theorem c_157_250 : aCod 157 250 = some (.sipush 0, 251) := by decide +kernel
theorem c_157_251 : aCod 157 251 = some (.iastore, 252) := by decide +kernel
theorem c_157_252 : aCod 157 252 = some (.iinc 1 1, 255) := by decide +kernel
theorem c_157_255 : aCod 157 255 = some (.goto 238, 258) := by decide +kernel
theorem c_157_258 : aCod 157 258 = some (.aload 0, 259) := by decide +kernel
theorem c_157_259 : aCod 157 259 = some (.getfield 2362, 262) := by decide +kernel
theorem c_157_262 : aCod 157 262 = some (.sipush 1, 263) := by decide +kernel
theorem c_157_263 : aCod 157 263 = some (.aload 0, 264) := by decide +kernel
theorem c_157_264 : aCod 157 264 = some (.getfield 2350, 267) := by decide +kernel
theorem c_157_267 : aCod 157 267 = some (.sipush 0, 268) := by decide +kernel
theorem c_157_268 : aCod 157 268 = some (.iaload, 269) := by decide +kernel
theorem c_157_269 : aCod 157 269 = some (.iastore, 270) := by decide +kernel
theorem c_157_270 : aCod 157 270 = some (.aload 0, 271) := by decide +kernel
theorem c_157_271 : aCod 157 271 = some (.getfield 2362, 274) := by decide +kernel
theorem c_157_274 : aCod 157 274 = some (.sipush 2, 275) := by decide +kernel
theorem c_157_275 : aCod 157 275 = some (.aload 0, 276) := by decide +kernel
theorem c_157_276 : aCod 157 276 = some (.getfield 2350, 279) := by decide +kernel
theorem c_157_279 : aCod 157 279 = some (.sipush 1, 280) := by decide +kernel
theorem c_157_280 : aCod 157 280 = some (.iaload, 281) := by decide +kernel
theorem c_157_281 : aCod 157 281 = some (.iastore, 282) := by decide +kernel
theorem c_157_282 : aCod 157 282 = some (.sipush 0, 283) := by decide +kernel
theorem c_157_283 : aCod 157 283 = some (.istore 1, 284) := by decide +kernel
theorem c_157_284 : aCod 157 284 = some (.iload 1, 285) := by decide +kernel
theorem c_157_285 : aCod 157 285 = some (.sipush 8, 287) := by decide +kernel
theorem c_157_287 : aCod 157 287 = some (.if_icmp .ge 310, 290) := by decide +kernel
theorem c_157_290 : aCod 157 290 = some (.aload 0, 291) := by decide +kernel
theorem c_157_291 : aCod 157 291 = some (.getfield 2362, 294) := by decide +kernel
theorem c_157_294 : aCod 157 294 = some (.sipush 3, 295) := by decide +kernel
theorem c_157_295 : aCod 157 295 = some (.sipush 3, 296) := by decide +kernel
theorem c_157_296 : aCod 157 296 = some (.iload 1, 297) := by decide +kernel
theorem c_157_297 : aCod 157 297 = some (.imul, 298) := by decide +kernel
theorem c_157_298 : aCod 157 298 = some (.iadd, 299) := by decide +kernel
theorem c_157_299 : aCod 157 299 = some (.sipush 2, 300) := by decide +kernel
theorem c_157_300 : aCod 157 300 = some (.iadd, 301) := by decide +kernel
theorem c_157_301 : aCod 157 301 = some (.sipush 99, 303) := by decide +kernel
theorem c_157_303 : aCod 157 303 = some (.iastore, 304) := by decide +kernel
theorem c_157_304 : aCod 157 304 = some (.iinc 1 1, 307) := by decide +kernel
theorem c_157_307 : aCod 157 307 = some (.goto 284, 310) := by decide +kernel
theorem c_157_310 : aCod 157 310 = some (.aload 0, 311) := by decide +kernel
theorem c_157_311 : aCod 157 311 = some (.sipush 0, 312) := by decide +kernel
theorem c_157_312 : aCod 157 312 = some (.putfield 2374, 315) := by decide +kernel
theorem c_157_315 : aCod 157 315 = some (.aload 0, 316) := by decide +kernel
theorem c_157_316 : aCod 157 316 = some (.sipush (-1), 317) := by decide +kernel
theorem c_157_317 : aCod 157 317 = some (.putfield 2371, 320) := by decide +kernel
theorem c_157_320 : aCod 157 320 = some (.aload 0, 321) := by decide +kernel
theorem c_157_321 : aCod 157 321 = some (.sipush (-1), 322) := by decide +kernel
theorem c_157_322 : aCod 157 322 = some (.putfield 2372, 325) := by decide +kernel
theorem c_157_325 : aCod 157 325 = some (.return_, 326) := by decide +kernel
theorem c_158_0 : aCod 158 0 = some (.iload 1, 1) := by decide +kernel
theorem c_158_1 : aCod 158 1 = some (.ifCond .ne 11, 4) := by decide +kernel
theorem c_158_4 : aCod 158 4 = some (.aload 0, 5) := by decide +kernel
theorem c_158_5 : aCod 158 5 = some (.getfield 2311, 8) := by decide +kernel
theorem c_158_8 : aCod 158 8 = some (.goto 24, 11) := by decide +kernel
theorem c_158_11 : aCod 158 11 = some (.iload 1, 12) := by decide +kernel
theorem c_158_12 : aCod 158 12 = some (.sipush 1, 13) := by decide +kernel
theorem c_158_13 : aCod 158 13 = some (.if_icmp .ne 23, 16) := by decide +kernel
theorem c_158_16 : aCod 158 16 = some (.aload 0, 17) := by decide +kernel
theorem c_158_17 : aCod 158 17 = some (.getfield 2312, 20) := by decide +kernel
theorem c_158_20 : aCod 158 20 = some (.goto 24, 23) := by decide +kernel
theorem c_158_23 : aCod 158 23 = some (.sipush (-1), 24) := by decide +kernel
theorem c_158_24 : aCod 158 24 = some (.ireturn, 25) := by decide +kernel
theorem c_159_0 : aCod 159 0 = some (.aload 0, 1) := by decide +kernel
theorem c_159_1 : aCod 159 1 = some (.getfield 2348, 4) := by decide +kernel
theorem c_159_4 : aCod 159 4 = some (.sipush 3, 5) := by decide +kernel
theorem c_159_5 : aCod 159 5 = some (.iaload, 6) := by decide +kernel
theorem c_159_6 : aCod 159 6 = some (.ireturn, 7) := by decide +kernel
theorem c_160_0 : aCod 160 0 = some (.aload 0, 1) := by decide +kernel
theorem c_160_1 : aCod 160 1 = some (.getfield 2348, 4) := by decide +kernel
theorem c_160_4 : aCod 160 4 = some (.sipush 4, 5) := by decide +kernel
theorem c_160_5 : aCod 160 5 = some (.iaload, 6) := by decide +kernel
theorem c_160_6 : aCod 160 6 = some (.ireturn, 7) := by decide +kernel
theorem c_161_0 : aCod 161 0 = some (.aload 0, 1) := by decide +kernel
theorem c_161_1 : aCod 161 1 = some (.getfield 2348, 4) := by decide +kernel
theorem c_161_4 : aCod 161 4 = some (.sipush 5, 5) := by decide +kernel
theorem c_161_5 : aCod 161 5 = some (.iaload, 6) := by decide +kernel
theorem c_161_6 : aCod 161 6 = some (.ireturn, 7) := by decide +kernel
theorem c_162_0 : aCod 162 0 = some (.iload 1, 1) := by decide +kernel
theorem c_162_1 : aCod 162 1 = some (.i2l, 2) := by decide +kernel
theorem c_162_2 : aCod 162 2 = some (.goto_w 0, 3) := by decide +kernel
theorem c_162_3 : aCod 162 3 = some (.aload 0, 4) := by decide +kernel
theorem c_162_4 : aCod 162 4 = some (.invokevirtual 161, 7) := by decide +kernel
theorem c_162_7 : aCod 162 7 = some (.sipush 1, 8) := by decide +kernel
theorem c_162_8 : aCod 162 8 = some (.isub, 9) := by decide +kernel
theorem c_162_9 : aCod 162 9 = some (.i2l, 10) := by decide +kernel
theorem c_162_10 : aCod 162 10 = some (.invokestatic 130, 13) := by decide +kernel
theorem c_162_13 : aCod 162 13 = some (.ireturn, 14) := by decide +kernel
theorem c_163_0 : aCod 163 0 = some (.aload 0, 1) := by decide +kernel
theorem c_163_1 : aCod 163 1 = some (.getfield 2362, 4) := by decide +kernel
theorem c_163_4 : aCod 163 4 = some (.sipush 3, 5) := by decide +kernel
theorem c_163_5 : aCod 163 5 = some (.sipush 3, 6) := by decide +kernel
theorem c_163_6 : aCod 163 6 = some (.iload 1, 7) := by decide +kernel
theorem c_163_7 : aCod 163 7 = some (.imul, 8) := by decide +kernel
theorem c_163_8 : aCod 163 8 = some (.iadd, 9) := by decide +kernel
theorem c_163_9 : aCod 163 9 = some (.iaload, 10) := by decide +kernel
theorem c_163_10 : aCod 163 10 = some (.sipush 1, 11) := by decide +kernel
theorem c_163_11 : aCod 163 11 = some (.if_icmp .ne 18, 14) := by decide +kernel
theorem c_163_14 : aCod 163 14 = some (.sipush 1, 15) := by decide +kernel
theorem c_163_15 : aCod 163 15 = some (.goto 19, 18) := by decide +kernel
theorem c_163_18 : aCod 163 18 = some (.sipush 0, 19) := by decide +kernel
theorem c_163_19 : aCod 163 19 = some (.ireturn, 20) := by decide +kernel
theorem c_164_0 : aCod 164 0 = some (.aload 0, 1) := by decide +kernel
theorem c_164_1 : aCod 164 1 = some (.getfield 2362, 4) := by decide +kernel
theorem c_164_4 : aCod 164 4 = some (.sipush 3, 5) := by decide +kernel
theorem c_164_5 : aCod 164 5 = some (.sipush 3, 6) := by decide +kernel
theorem c_164_6 : aCod 164 6 = some (.iload 1, 7) := by decide +kernel
theorem c_164_7 : aCod 164 7 = some (.imul, 8) := by decide +kernel
theorem c_164_8 : aCod 164 8 = some (.iadd, 9) := by decide +kernel
theorem c_164_9 : aCod 164 9 = some (.sipush 1, 10) := by decide +kernel
theorem c_164_10 : aCod 164 10 = some (.iadd, 11) := by decide +kernel
theorem c_164_11 : aCod 164 11 = some (.iaload, 12) := by decide +kernel
theorem c_164_12 : aCod 164 12 = some (.ireturn, 13) := by decide +kernel
theorem c_165_0 : aCod 165 0 = some (.aload 0, 1) := by decide +kernel
theorem c_165_1 : aCod 165 1 = some (.getfield 2362, 4) := by decide +kernel
theorem c_165_4 : aCod 165 4 = some (.sipush 3, 5) := by decide +kernel
theorem c_165_5 : aCod 165 5 = some (.sipush 3, 6) := by decide +kernel
theorem c_165_6 : aCod 165 6 = some (.iload 1, 7) := by decide +kernel
theorem c_165_7 : aCod 165 7 = some (.imul, 8) := by decide +kernel
theorem c_165_8 : aCod 165 8 = some (.iadd, 9) := by decide +kernel
theorem c_165_9 : aCod 165 9 = some (.sipush 2, 10) := by decide +kernel
theorem c_165_10 : aCod 165 10 = some (.iadd, 11) := by decide +kernel
theorem c_165_11 : aCod 165 11 = some (.iaload, 12) := by decide +kernel
theorem c_165_12 : aCod 165 12 = some (.ireturn, 13) := by decide +kernel
theorem c_166_0 : aCod 166 0 = some (.aload 0, 1) := by decide +kernel
theorem c_166_1 : aCod 166 1 = some (.getfield 2353, 4) := by decide +kernel
theorem c_166_4 : aCod 166 4 = some (.sipush 35, 6) := by decide +kernel
theorem c_166_6 : aCod 166 6 = some (.sipush 4, 7) := by decide +kernel
theorem c_166_7 : aCod 166 7 = some (.iload 1, 8) := by decide +kernel
theorem c_166_8 : aCod 166 8 = some (.imul, 9) := by decide +kernel
theorem c_166_9 : aCod 166 9 = some (.iadd, 10) := by decide +kernel
theorem c_166_10 : aCod 166 10 = some (.iaload, 11) := by decide +kernel
theorem c_166_11 : aCod 166 11 = some (.ireturn, 12) := by decide +kernel
theorem c_167_0 : aCod 167 0 = some (.aload 0, 1) := by decide +kernel
theorem c_167_1 : aCod 167 1 = some (.getfield 2350, 4) := by decide +kernel
theorem c_167_4 : aCod 167 4 = some (.sipush 5, 5) := by decide +kernel
theorem c_167_5 : aCod 167 5 = some (.iaload, 6) := by decide +kernel
theorem c_167_6 : aCod 167 6 = some (.ireturn, 7) := by decide +kernel
theorem c_168_0 : aCod 168 0 = some (.lload 0, 1) := by decide +kernel
theorem c_168_1 : aCod 168 1 = some (.goto_w 0, 2) := by decide +kernel
theorem c_168_2 : aCod 168 2 = some (.lcmp, 3) := by decide +kernel
theorem c_168_3 : aCod 168 3 = some (.ifCond .ge 10, 6) := by decide +kernel
theorem c_168_6 : aCod 168 6 = some (.sipush 0, 7) := by decide +kernel
theorem c_168_7 : aCod 168 7 = some (.goto 23, 10) := by decide +kernel
theorem c_168_10 : aCod 168 10 = some (.lload 0, 11) := by decide +kernel
theorem c_168_11 : aCod 168 11 = some (.iload 2, 12) := by decide +kernel
theorem c_168_12 : aCod 168 12 = some (.i2l, 13) := by decide +kernel
theorem c_168_13 : aCod 168 13 = some (.lcmp, 14) := by decide +kernel
theorem c_168_14 : aCod 168 14 = some (.ifCond .le 21, 17) := by decide +kernel
theorem c_168_17 : aCod 168 17 = some (.iload 2, 18) := by decide +kernel
theorem c_168_18 : aCod 168 18 = some (.goto 23, 21) := by decide +kernel
theorem c_168_21 : aCod 168 21 = some (.lload 0, 22) := by decide +kernel
theorem c_168_22 : aCod 168 22 = some (.l2i, 23) := by decide +kernel
theorem c_168_23 : aCod 168 23 = some (.ireturn, 24) := by decide +kernel
theorem c_169_0 : aCod 169 0 = some (.aload 0, 1) := by decide +kernel
theorem c_169_1 : aCod 169 1 = some (.getfield 2362, 4) := by decide +kernel
theorem c_169_4 : aCod 169 4 = some (.sipush 1, 5) := by decide +kernel
theorem c_169_5 : aCod 169 5 = some (.iaload, 6) := by decide +kernel
theorem c_169_6 : aCod 169 6 = some (.ifCond .ne 13, 9) := by decide +kernel
theorem c_169_9 : aCod 169 9 = some (.sipush 0, 10) := by decide +kernel
theorem c_169_10 : aCod 169 10 = some (.goto 38, 13) := by decide +kernel
theorem c_169_13 : aCod 169 13 = some (.goto_w 100, 16) := by decide +kernel
theorem c_169_16 : aCod 169 16 = some (.aload 0, 17) := by decide +kernel
theorem c_169_17 : aCod 169 17 = some (.getfield 2362, 20) := by decide +kernel
theorem c_169_20 : aCod 169 20 = some (.sipush 2, 21) := by decide +kernel
theorem c_169_21 : aCod 169 21 = some (.iaload, 22) := by decide +kernel
theorem c_169_22 : aCod 169 22 = some (.i2l, 23) := by decide +kernel
theorem c_169_23 : aCod 169 23 = some (.lmul, 24) := by decide +kernel
theorem c_169_24 : aCod 169 24 = some (.aload 0, 25) := by decide +kernel
theorem c_169_25 : aCod 169 25 = some (.getfield 2362, 28) := by decide +kernel
theorem c_169_28 : aCod 169 28 = some (.sipush 1, 29) := by decide +kernel
theorem c_169_29 : aCod 169 29 = some (.iaload, 30) := by decide +kernel
theorem c_169_30 : aCod 169 30 = some (.i2l, 31) := by decide +kernel
theorem c_169_31 : aCod 169 31 = some (.ldiv, 32) := by decide +kernel
theorem c_169_32 : aCod 169 32 = some (.sipush 9999, 35) := by decide +kernel
theorem c_169_35 : aCod 169 35 = some (.invokestatic 168, 38) := by decide +kernel
theorem c_169_38 : aCod 169 38 = some (.ireturn, 39) := by decide +kernel
theorem c_170_0 : aCod 170 0 = some (.aload 0, 1) := by decide +kernel
theorem c_170_1 : aCod 170 1 = some (.sipush 0, 2) := by decide +kernel
theorem c_170_2 : aCod 170 2 = some (.putfield 2408, 5) := by decide +kernel
theorem c_170_5 : aCod 170 5 = some (.aload 0, 6) := by decide +kernel
theorem c_170_6 : aCod 170 6 = some (.getfield 2355, 9) := by decide +kernel
theorem c_170_9 : aCod 170 9 = some (.sipush 3, 10) := by decide +kernel
theorem c_170_10 : aCod 170 10 = some (.iload 1, 11) := by decide +kernel
theorem c_170_11 : aCod 170 11 = some (.iadd, 12) := by decide +kernel
theorem c_170_12 : aCod 170 12 = some (.iaload, 13) := by decide +kernel
theorem c_170_13 : aCod 170 13 = some (.istore 3, 14) := by decide +kernel
theorem c_170_14 : aCod 170 14 = some (.iload 3, 15) := by decide +kernel
theorem c_170_15 : aCod 170 15 = some (.aload 0, 16) := by decide +kernel
theorem c_170_16 : aCod 170 16 = some (.getfield 2356, 19) := by decide +kernel
theorem c_170_19 : aCod 170 19 = some (.sipush 3, 20) := by decide +kernel
theorem c_170_20 : aCod 170 20 = some (.iload 1, 21) := by decide +kernel
theorem c_170_21 : aCod 170 21 = some (.iadd, 22) := by decide +kernel
theorem c_170_22 : aCod 170 22 = some (.iaload, 23) := by decide +kernel
theorem c_170_23 : aCod 170 23 = some (.if_icmp .ge 145, 26) := by decide +kernel
theorem c_170_26 : aCod 170 26 = some (.aload 0, 27) := by decide +kernel
theorem c_170_27 : aCod 170 27 = some (.getfield 2357, 30) := by decide +kernel
theorem c_170_30 : aCod 170 30 = some (.sipush 1600, 33) := by decide +kernel
theorem c_170_33 : aCod 170 33 = some (.iload 3, 34) := by decide +kernel
theorem c_170_34 : aCod 170 34 = some (.iadd, 35) := by decide +kernel
theorem c_170_35 : aCod 170 35 = some (.iaload, 36) := by decide +kernel
theorem c_170_36 : aCod 170 36 = some (.istore 4, 38) := by decide +kernel
theorem c_170_38 : aCod 170 38 = some (.iload 4, 40) := by decide +kernel
theorem c_170_40 : aCod 170 40 = some (.sipush 1000, 43) := by decide +kernel
theorem c_170_43 : aCod 170 43 = some (.if_icmp .lt 60, 46) := by decide +kernel
theorem c_170_46 : aCod 170 46 = some (.aload 0, 47) := by decide +kernel
theorem c_170_47 : aCod 170 47 = some (.iload 4, 49) := by decide +kernel
theorem c_170_49 : aCod 170 49 = some (.sipush 1000, 52) := by decide +kernel
theorem c_170_52 : aCod 170 52 = some (.isub, 53) := by decide +kernel
theorem c_170_53 : aCod 170 53 = some (.i2l, 54) := by decide +kernel
theorem c_170_54 : aCod 170 54 = some (.invokevirtual 239, 57) := by decide +kernel
theorem c_170_57 : aCod 170 57 = some (.goto 139, 60) := by decide +kernel
theorem c_170_60 : aCod 170 60 = some (.iload 4, 62) := by decide +kernel
theorem c_170_62 : aCod 170 62 = some (.sipush 40, 64) := by decide +kernel
theorem c_170_64 : aCod 170 64 = some (.if_icmp .lt 84, 67) := by decide +kernel
theorem c_170_67 : aCod 170 67 = some (.aload 0, 68) := by decide +kernel
theorem c_170_68 : aCod 170 68 = some (.aload 0, 69) := by decide +kernel
theorem c_170_69 : aCod 170 69 = some (.iload 4, 71) := by decide +kernel
theorem c_170_71 : aCod 170 71 = some (.sipush 40, 73) := by decide +kernel
theorem c_170_73 : aCod 170 73 = some (.isub, 74) := by decide +kernel
theorem c_170_74 : aCod 170 74 = some (.iload 2, 75) := by decide +kernel
theorem c_170_75 : aCod 170 75 = some (.invokevirtual 241, 78) := by decide +kernel
theorem c_170_78 : aCod 170 78 = some (.invokevirtual 239, 81) := by decide +kernel
theorem c_170_81 : aCod 170 81 = some (.goto 139, 84) := by decide +kernel
theorem c_170_84 : aCod 170 84 = some (.iload 4, 86) := by decide +kernel
theorem c_170_86 : aCod 170 86 = some (.sipush 13, 88) := by decide +kernel
theorem c_170_88 : aCod 170 88 = some (.if_icmp .ne 99, 91) := by decide +kernel
theorem c_170_91 : aCod 170 91 = some (.aload 0, 92) := by decide +kernel
theorem c_170_92 : aCod 170 92 = some (.goto_w 1, 93) := by decide +kernel
theorem c_170_93 : aCod 170 93 = some (.invokevirtual 239, 96) := by decide +kernel
theorem c_170_96 : aCod 170 96 = some (.goto 139, 99) := by decide +kernel
theorem c_170_99 : aCod 170 99 = some (.iload 4, 101) := by decide +kernel
theorem c_170_101 : aCod 170 101 = some (.sipush 12, 103) := by decide +kernel
theorem c_170_103 : aCod 170 103 = some (.if_icmp .ne 133, 106) := by decide +kernel
theorem c_170_106 : aCod 170 106 = some (.aload 0, 107) := by decide +kernel
theorem c_170_107 : aCod 170 107 = some (.getfield 2407, 110) := by decide +kernel
theorem c_170_110 : aCod 170 110 = some (.aload 0, 111) := by decide +kernel
theorem c_170_111 : aCod 170 111 = some (.getfield 2408, 114) := by decide +kernel
theorem c_170_114 : aCod 170 114 = some (.sipush 1, 115) := by decide +kernel
theorem c_170_115 : aCod 170 115 = some (.isub, 116) := by decide +kernel
theorem c_170_116 : aCod 170 116 = some (.goto_w 1, 117) := by decide +kernel
theorem c_170_117 : aCod 170 117 = some (.aload 0, 118) := by decide +kernel
theorem c_170_118 : aCod 170 118 = some (.getfield 2407, 121) := by decide +kernel
theorem c_170_121 : aCod 170 121 = some (.aload 0, 122) := by decide +kernel
theorem c_170_122 : aCod 170 122 = some (.getfield 2408, 125) := by decide +kernel
theorem c_170_125 : aCod 170 125 = some (.sipush 1, 126) := by decide +kernel
theorem c_170_126 : aCod 170 126 = some (.isub, 127) := by decide +kernel
theorem c_170_127 : aCod 170 127 = some (.laload, 128) := by decide +kernel
theorem c_170_128 : aCod 170 128 = some (.lsub, 129) := by decide +kernel
theorem c_170_129 : aCod 170 129 = some (.lastore, 130) := by decide +kernel
theorem c_170_130 : aCod 170 130 = some (.goto 139, 133) := by decide +kernel
theorem c_170_133 : aCod 170 133 = some (.aload 0, 134) := by decide +kernel
theorem c_170_134 : aCod 170 134 = some (.iload 4, 136) := by decide +kernel
theorem c_170_136 : aCod 170 136 = some (.invokevirtual 240, 139) := by decide +kernel
theorem c_170_139 : aCod 170 139 = some (.iinc 3 1, 142) := by decide +kernel
theorem c_170_142 : aCod 170 142 = some (.goto 14, 145) := by decide +kernel
theorem c_170_145 : aCod 170 145 = some (.aload 0, 146) := by decide +kernel
theorem c_170_146 : aCod 170 146 = some (.getfield 2407, 149) := by decide +kernel
theorem c_170_149 : aCod 170 149 = some (.sipush 0, 150) := by decide +kernel
theorem c_170_150 : aCod 170 150 = some (.laload, 151) := by decide +kernel
theorem c_170_151 : aCod 170 151 = some (.lreturn, 152) := by decide +kernel
theorem c_171_0 : aCod 171 0 = some (.aload 0, 1) := by decide +kernel
theorem c_171_1 : aCod 171 1 = some (.getfield 2355, 4) := by decide +kernel
theorem c_171_4 : aCod 171 4 = some (.sipush 3, 5) := by decide +kernel
theorem c_171_5 : aCod 171 5 = some (.iaload, 6) := by decide +kernel
theorem c_171_6 : aCod 171 6 = some (.sipush (-1), 7) := by decide +kernel
theorem c_171_7 : aCod 171 7 = some (.if_icmp .ne 24, 10) := by decide +kernel
theorem c_171_10 : aCod 171 10 = some (.aload 0, 11) := by decide +kernel
theorem c_171_11 : aCod 171 11 = some (.getfield 2353, 14) := by decide +kernel
theorem c_171_14 : aCod 171 14 = some (.sipush 33, 16) := by decide +kernel
theorem c_171_16 : aCod 171 16 = some (.sipush 4, 17) := by decide +kernel
theorem c_171_17 : aCod 171 17 = some (.iload 1, 18) := by decide +kernel
theorem c_171_18 : aCod 171 18 = some (.imul, 19) := by decide +kernel
theorem c_171_19 : aCod 171 19 = some (.iadd, 20) := by decide +kernel
theorem c_171_20 : aCod 171 20 = some (.iaload, 21) := by decide +kernel
theorem c_171_21 : aCod 171 21 = some (.goto 36, 24) := by decide +kernel
theorem c_171_24 : aCod 171 24 = some (.aload 0, 25) := by decide +kernel
theorem c_171_25 : aCod 171 25 = some (.sipush 0, 26) := by decide +kernel
theorem c_171_26 : aCod 171 26 = some (.iload 1, 27) := by decide +kernel
theorem c_171_27 : aCod 171 27 = some (.invokevirtual 170, 30) := by decide +kernel
theorem c_171_30 : aCod 171 30 = some (.sipush 9999, 33) := by decide +kernel
theorem c_171_33 : aCod 171 33 = some (.invokestatic 168, 36) := by decide +kernel
theorem c_171_36 : aCod 171 36 = some (.ireturn, 37) := by decide +kernel
theorem c_172_0 : aCod 172 0 = some (.aload 0, 1) := by decide +kernel
theorem c_172_1 : aCod 172 1 = some (.iload 1, 2) := by decide +kernel
theorem c_172_2 : aCod 172 2 = some (.invokevirtual 163, 5) := by decide +kernel
theorem c_172_5 : aCod 172 5 = some (.ifCond .ne 36, 8) := by decide +kernel
theorem c_172_8 : aCod 172 8 = some (.aload 0, 9) := by decide +kernel
theorem c_172_9 : aCod 172 9 = some (.getfield 2362, 12) := by decide +kernel
theorem c_172_12 : aCod 172 12 = some (.sipush 0, 13) := by decide +kernel
theorem c_172_13 : aCod 172 13 = some (.iaload, 14) := by decide +kernel
theorem c_172_14 : aCod 172 14 = some (.aload 0, 15) := by decide +kernel
theorem c_172_15 : aCod 172 15 = some (.iload 1, 16) := by decide +kernel
theorem c_172_16 : aCod 172 16 = some (.invokevirtual 166, 19) := by decide +kernel
theorem c_172_19 : aCod 172 19 = some (.if_icmp .gt 36, 22) := by decide +kernel
theorem c_172_22 : aCod 172 22 = some (.aload 0, 23) := by decide +kernel
theorem c_172_23 : aCod 172 23 = some (.getfield 2362, 26) := by decide +kernel
theorem c_172_26 : aCod 172 26 = some (.sipush 1, 27) := by decide +kernel
theorem c_172_27 : aCod 172 27 = some (.iaload, 28) := by decide +kernel
theorem c_172_28 : aCod 172 28 = some (.aload 0, 29) := by decide +kernel
theorem c_172_29 : aCod 172 29 = some (.iload 1, 30) := by decide +kernel
theorem c_172_30 : aCod 172 30 = some (.invokevirtual 171, 33) := by decide +kernel
theorem c_172_33 : aCod 172 33 = some (.if_icmp .ge 38, 36) := by decide +kernel
theorem c_172_36 : aCod 172 36 = some (.sipush 0, 37) := by decide +kernel
theorem c_172_37 : aCod 172 37 = some (.ireturn, 38) := by decide +kernel
theorem c_172_38 : aCod 172 38 = some (.aload 0, 39) := by decide +kernel
theorem c_172_39 : aCod 172 39 = some (.getfield 2355, 42) := by decide +kernel
theorem c_172_42 : aCod 172 42 = some (.sipush 5, 43) := by decide +kernel
theorem c_172_43 : aCod 172 43 = some (.iaload, 44) := by decide +kernel
theorem c_172_44 : aCod 172 44 = some (.sipush (-1), 45) := by decide +kernel
theorem c_172_45 : aCod 172 45 = some (.if_icmp .eq 59, 48) := by decide +kernel
theorem c_172_48 : aCod 172 48 = some (.aload 0, 49) := by decide +kernel
theorem c_172_49 : aCod 172 49 = some (.sipush 2, 50) := by decide +kernel
theorem c_172_50 : aCod 172 50 = some (.iload 1, 51) := by decide +kernel
theorem c_172_51 : aCod 172 51 = some (.invokevirtual 170, 54) := by decide +kernel
theorem c_172_54 : aCod 172 54 = some (.goto_w 1, 55) := by decide +kernel
theorem c_172_55 : aCod 172 55 = some (.lcmp, 56) := by decide +kernel
theorem c_172_56 : aCod 172 56 = some (.ifCond .ne 63, 59) := by decide +kernel
theorem c_172_59 : aCod 172 59 = some (.sipush 1, 60) := by decide +kernel
theorem c_172_60 : aCod 172 60 = some (.goto 64, 63) := by decide +kernel
theorem c_172_63 : aCod 172 63 = some (.sipush 0, 64) := by decide +kernel
theorem c_172_64 : aCod 172 64 = some (.ireturn, 65) := by decide +kernel
theorem c_173_0 : aCod 173 0 = some (.aload 0, 1) := by decide +kernel
theorem c_173_1 : aCod 173 1 = some (.iload 1, 2) := by decide +kernel
theorem c_173_2 : aCod 173 2 = some (.invokevirtual 171, 5) := by decide +kernel
theorem c_173_5 : aCod 173 5 = some (.istore 2, 6) := by decide +kernel
theorem c_173_6 : aCod 173 6 = some (.aload 0, 7) := by decide +kernel
theorem c_173_7 : aCod 173 7 = some (.invokevirtual 169, 10) := by decide +kernel
theorem c_173_10 : aCod 173 10 = some (.istore 3, 11) := by decide +kernel
theorem c_173_11 : aCod 173 11 = some (.iload 2, 12) := by decide +kernel
theorem c_173_12 : aCod 173 12 = some (.ifCond .le 53, 15) := by decide +kernel
theorem c_173_15 : aCod 173 15 = some (.aload 0, 16) := by decide +kernel
theorem c_173_16 : aCod 173 16 = some (.getfield 2362, 19) := by decide +kernel
theorem c_173_19 : aCod 173 19 = some (.sipush 2, 20) := by decide +kernel
theorem c_173_20 : aCod 173 20 = some (.dup2, 21) := by decide +kernel
theorem c_173_21 : aCod 173 21 = some (.iaload, 22) := by decide +kernel
theorem c_173_22 : aCod 173 22 = some (.aload 0, 23) := by decide +kernel
theorem c_173_23 : aCod 173 23 = some (.getfield 2362, 26) := by decide +kernel
theorem c_173_26 : aCod 173 26 = some (.sipush 2, 27) := by decide +kernel
theorem c_173_27 : aCod 173 27 = some (.iaload, 28) := by decide +kernel
theorem c_173_28 : aCod 173 28 = some (.i2l, 29) := by decide +kernel
theorem c_173_29 : aCod 173 29 = some (.iload 2, 30) := by decide +kernel
theorem c_173_30 : aCod 173 30 = some (.i2l, 31) := by decide +kernel
theorem c_173_31 : aCod 173 31 = some (.lmul, 32) := by decide +kernel
theorem c_173_32 : aCod 173 32 = some (.aload 0, 33) := by decide +kernel
theorem c_173_33 : aCod 173 33 = some (.getfield 2362, 36) := by decide +kernel
theorem c_173_36 : aCod 173 36 = some (.sipush 1, 37) := by decide +kernel
theorem c_173_37 : aCod 173 37 = some (.iaload, 38) := by decide +kernel
theorem c_173_38 : aCod 173 38 = some (.i2l, 39) := by decide +kernel
theorem c_173_39 : aCod 173 39 = some (.ldiv, 40) := by decide +kernel
theorem c_173_40 : aCod 173 40 = some (.l2i, 41) := by decide +kernel
theorem c_173_41 : aCod 173 41 = some (.isub, 42) := by decide +kernel
theorem c_173_42 : aCod 173 42 = some (.iastore, 43) := by decide +kernel
theorem c_173_43 : aCod 173 43 = some (.aload 0, 44) := by decide +kernel
theorem c_173_44 : aCod 173 44 = some (.getfield 2362, 47) := by decide +kernel
theorem c_173_47 : aCod 173 47 = some (.sipush 1, 48) := by decide +kernel
theorem c_173_48 : aCod 173 48 = some (.dup2, 49) := by decide +kernel
theorem c_173_49 : aCod 173 49 = some (.iaload, 50) := by decide +kernel
theorem c_173_50 : aCod 173 50 = some (.iload 2, 51) := by decide +kernel
theorem c_173_51 : aCod 173 51 = some (.isub, 52) := by decide +kernel
theorem c_173_52 : aCod 173 52 = some (.iastore, 53) := by decide +kernel
theorem c_173_53 : aCod 173 53 = some (.aload 0, 54) := by decide +kernel
theorem c_173_54 : aCod 173 54 = some (.getfield 2362, 57) := by decide +kernel
theorem c_173_57 : aCod 173 57 = some (.sipush 3, 58) := by decide +kernel
theorem c_173_58 : aCod 173 58 = some (.sipush 3, 59) := by decide +kernel
theorem c_173_59 : aCod 173 59 = some (.iload 1, 60) := by decide +kernel
theorem c_173_60 : aCod 173 60 = some (.imul, 61) := by decide +kernel
theorem c_173_61 : aCod 173 61 = some (.iadd, 62) := by decide +kernel
theorem c_173_62 : aCod 173 62 = some (.sipush 1, 63) := by decide +kernel
theorem c_173_63 : aCod 173 63 = some (.iastore, 64) := by decide +kernel
theorem c_173_64 : aCod 173 64 = some (.aload 0, 65) := by decide +kernel
theorem c_173_65 : aCod 173 65 = some (.getfield 2362, 68) := by decide +kernel
theorem c_173_68 : aCod 173 68 = some (.sipush 3, 69) := by decide +kernel
theorem c_173_69 : aCod 173 69 = some (.sipush 3, 70) := by decide +kernel
theorem c_173_70 : aCod 173 70 = some (.iload 1, 71) := by decide +kernel
theorem c_173_71 : aCod 173 71 = some (.imul, 72) := by decide +kernel
theorem c_173_72 : aCod 173 72 = some (.iadd, 73) := by decide +kernel
theorem c_173_73 : aCod 173 73 = some (.sipush 1, 74) := by decide +kernel
theorem c_173_74 : aCod 173 74 = some (.iadd, 75) := by decide +kernel
theorem c_173_75 : aCod 173 75 = some (.iload 3, 76) := by decide +kernel
theorem c_173_76 : aCod 173 76 = some (.iastore, 77) := by decide +kernel
theorem c_173_77 : aCod 173 77 = some (.aload 0, 78) := by decide +kernel
theorem c_173_78 : aCod 173 78 = some (.getfield 2362, 81) := by decide +kernel
theorem c_173_81 : aCod 173 81 = some (.sipush 3, 82) := by decide +kernel
theorem c_173_82 : aCod 173 82 = some (.sipush 3, 83) := by decide +kernel
theorem c_173_83 : aCod 173 83 = some (.iload 1, 84) := by decide +kernel
theorem c_173_84 : aCod 173 84 = some (.imul, 85) := by decide +kernel
theorem c_173_85 : aCod 173 85 = some (.iadd, 86) := by decide +kernel
theorem c_173_86 : aCod 173 86 = some (.sipush 2, 87) := by decide +kernel
theorem c_173_87 : aCod 173 87 = some (.iadd, 88) := by decide +kernel
theorem c_173_88 : aCod 173 88 = some (.sipush 0, 89) := by decide +kernel
theorem c_173_89 : aCod 173 89 = some (.iastore, 90) := by decide +kernel
theorem c_173_90 : aCod 173 90 = some (.aload 0, 91) := by decide +kernel
theorem c_173_91 : aCod 173 91 = some (.getfield 2365, 94) := by decide +kernel
theorem c_173_94 : aCod 173 94 = some (.ifCond .ne 104, 97) := by decide +kernel
theorem c_173_97 : aCod 173 97 = some (.aload 0, 98) := by decide +kernel
theorem c_173_98 : aCod 173 98 = some (.iload 1, 99) := by decide +kernel
theorem c_173_99 : aCod 173 99 = some (.iload 3, 100) := by decide +kernel
theorem c_173_100 : aCod 173 100 = some (.iload 2, 101) := by decide +kernel
theorem c_173_101 : aCod 173 101 = some (.invokevirtual 174, 104) := by decide +kernel
theorem c_173_104 : aCod 173 104 = some (.iload 2, 105) := by decide +kernel
theorem c_173_105 : aCod 173 105 = some (.ireturn, 106) := by decide +kernel
theorem c_174_0 : aCod 174 0 = some (.aload 0, 1) := by decide +kernel
theorem c_174_1 : aCod 174 1 = some (.getfield 2362, 4) := by decide +kernel
theorem c_174_4 : aCod 174 4 = some (.sipush 27, 6) := by decide +kernel
theorem c_174_6 : aCod 174 6 = some (.iaload, 7) := by decide +kernel
theorem c_174_7 : aCod 174 7 = some (.sipush 40, 9) := by decide +kernel
theorem c_174_9 : aCod 174 9 = some (.if_icmp .ne 49, 12) := by decide +kernel
theorem c_174_12 : aCod 174 12 = some (.sipush 28, 14) := by decide +kernel
theorem c_174_14 : aCod 174 14 = some (.istore 4, 16) := by decide +kernel
theorem c_174_16 : aCod 174 16 = some (.iload 4, 18) := by decide +kernel
theorem c_174_18 : aCod 174 18 = some (.sipush 184, 21) := by decide +kernel
theorem c_174_21 : aCod 174 21 = some (.if_icmp .ge 46, 24) := by decide +kernel
theorem c_174_24 : aCod 174 24 = some (.aload 0, 25) := by decide +kernel
theorem c_174_25 : aCod 174 25 = some (.getfield 2362, 28) := by decide +kernel
theorem c_174_28 : aCod 174 28 = some (.iload 4, 30) := by decide +kernel
theorem c_174_30 : aCod 174 30 = some (.aload 0, 31) := by decide +kernel
theorem c_174_31 : aCod 174 31 = some (.getfield 2362, 34) := by decide +kernel
theorem c_174_34 : aCod 174 34 = some (.iload 4, 36) := by decide +kernel
theorem c_174_36 : aCod 174 36 = some (.sipush 4, 37) := by decide +kernel
theorem c_174_37 : aCod 174 37 = some (.iadd, 38) := by decide +kernel
theorem c_174_38 : aCod 174 38 = some (.iaload, 39) := by decide +kernel
theorem c_174_39 : aCod 174 39 = some (.iastore, 40) := by decide +kernel
theorem c_174_40 : aCod 174 40 = some (.iinc 4 1, 43) := by decide +kernel
theorem c_174_43 : aCod 174 43 = some (.goto 16, 46) := by decide +kernel
theorem c_174_46 : aCod 174 46 = some (.goto 60, 49) := by decide +kernel
theorem c_174_49 : aCod 174 49 = some (.aload 0, 50) := by decide +kernel
theorem c_174_50 : aCod 174 50 = some (.getfield 2362, 53) := by decide +kernel
theorem c_174_53 : aCod 174 53 = some (.sipush 27, 55) := by decide +kernel
theorem c_174_55 : aCod 174 55 = some (.dup2, 56) := by decide +kernel
theorem c_174_56 : aCod 174 56 = some (.iaload, 57) := by decide +kernel
theorem c_174_57 : aCod 174 57 = some (.sipush 1, 58) := by decide +kernel
theorem c_174_58 : aCod 174 58 = some (.iadd, 59) := by decide +kernel
theorem c_174_59 : aCod 174 59 = some (.iastore, 60) := by decide +kernel
theorem c_174_60 : aCod 174 60 = some (.sipush 28, 62) := by decide +kernel
theorem c_174_62 : aCod 174 62 = some (.sipush 4, 63) := by decide +kernel
theorem c_174_63 : aCod 174 63 = some (.aload 0, 64) := by decide +kernel
theorem c_174_64 : aCod 174 64 = some (.getfield 2362, 67) := by decide +kernel
theorem c_174_67 : aCod 174 67 = some (.sipush 27, 69) := by decide +kernel
theorem c_174_69 : aCod 174 69 = some (.iaload, 70) := by decide +kernel
theorem c_174_70 : aCod 174 70 = some (.imul, 71) := by decide +kernel
theorem c_174_71 : aCod 174 71 = some (.iadd, 72) := by decide +kernel
theorem c_174_72 : aCod 174 72 = some (.sipush 4, 73) := by decide +kernel
theorem c_174_73 : aCod 174 73 = some (.isub, 74) := by decide +kernel
theorem c_174_74 : aCod 174 74 = some (.istore 4, 76) := by decide +kernel
theorem c_174_76 : aCod 174 76 = some (.aload 0, 77) := by decide +kernel
theorem c_174_77 : aCod 174 77 = some (.getfield 2362, 80) := by decide +kernel
theorem c_174_80 : aCod 174 80 = some (.iload 4, 82) := by decide +kernel
theorem c_174_82 : aCod 174 82 = some (.aload 0, 83) := by decide +kernel
theorem c_174_83 : aCod 174 83 = some (.getfield 2362, 86) := by decide +kernel
theorem c_174_86 : aCod 174 86 = some (.sipush 0, 87) := by decide +kernel
theorem c_174_87 : aCod 174 87 = some (.iaload, 88) := by decide +kernel
theorem c_174_88 : aCod 174 88 = some (.iastore, 89) := by decide +kernel
theorem c_174_89 : aCod 174 89 = some (.aload 0, 90) := by decide +kernel
theorem c_174_90 : aCod 174 90 = some (.getfield 2362, 93) := by decide +kernel
theorem c_174_93 : aCod 174 93 = some (.iload 4, 95) := by decide +kernel
theorem c_174_95 : aCod 174 95 = some (.sipush 1, 96) := by decide +kernel
theorem c_174_96 : aCod 174 96 = some (.iadd, 97) := by decide +kernel
theorem c_174_97 : aCod 174 97 = some (.iload 1, 98) := by decide +kernel
theorem c_174_98 : aCod 174 98 = some (.iastore, 99) := by decide +kernel
theorem c_174_99 : aCod 174 99 = some (.aload 0, 100) := by decide +kernel
theorem c_174_100 : aCod 174 100 = some (.getfield 2362, 103) := by decide +kernel
theorem c_174_103 : aCod 174 103 = some (.iload 4, 105) := by decide +kernel
theorem c_174_105 : aCod 174 105 = some (.sipush 2, 106) := by decide +kernel
theorem c_174_106 : aCod 174 106 = some (.iadd, 107) := by decide +kernel
theorem c_174_107 : aCod 174 107 = some (.iload 2, 108) := by decide +kernel
theorem c_174_108 : aCod 174 108 = some (.iastore, 109) := by decide +kernel
theorem c_174_109 : aCod 174 109 = some (.aload 0, 110) := by decide +kernel
theorem c_174_110 : aCod 174 110 = some (.getfield 2362, 113) := by decide +kernel
theorem c_174_113 : aCod 174 113 = some (.iload 4, 115) := by decide +kernel
theorem c_174_115 : aCod 174 115 = some (.sipush 3, 116) := by decide +kernel
theorem c_174_116 : aCod 174 116 = some (.iadd, 117) := by decide +kernel
theorem c_174_117 : aCod 174 117 = some (.iload 3, 118) := by decide +kernel
theorem c_174_118 : aCod 174 118 = some (.iastore, 119) := by decide +kernel
theorem c_174_119 : aCod 174 119 = some (.return_, 120) := by decide +kernel
theorem c_175_0 : aCod 175 0 = some (.sipush 0, 1) := by decide +kernel
theorem c_175_1 : aCod 175 1 = some (.istore 4, 3) := by decide +kernel
theorem c_175_3 : aCod 175 3 = some (.iload 4, 5) := by decide +kernel
theorem c_175_5 : aCod 175 5 = some (.aload 0, 6) := by decide +kernel
theorem c_175_6 : aCod 175 6 = some (.invokevirtual 161, 9) := by decide +kernel
theorem c_175_9 : aCod 175 9 = some (.if_icmp .ge 68, 12) := by decide +kernel
theorem c_175_12 : aCod 175 12 = some (.aload 0, 13) := by decide +kernel
theorem c_175_13 : aCod 175 13 = some (.getfield 2366, 16) := by decide +kernel
theorem c_175_16 : aCod 175 16 = some (.iload 4, 18) := by decide +kernel
theorem c_175_18 : aCod 175 18 = some (.sipush 0, 19) := by decide +kernel
theorem c_175_19 : aCod 175 19 = some (.iastore, 20) := by decide +kernel
theorem c_175_20 : aCod 175 20 = some (.aload 0, 21) := by decide +kernel
theorem c_175_21 : aCod 175 21 = some (.iload 4, 23) := by decide +kernel
theorem c_175_23 : aCod 175 23 = some (.invokevirtual 163, 26) := by decide +kernel
theorem c_175_26 : aCod 175 26 = some (.ifCond .eq 62, 29) := by decide +kernel
theorem c_175_29 : aCod 175 29 = some (.aload 0, 30) := by decide +kernel
theorem c_175_30 : aCod 175 30 = some (.getfield 2355, 33) := by decide +kernel
theorem c_175_33 : aCod 175 33 = some (.sipush 4, 34) := by decide +kernel
theorem c_175_34 : aCod 175 34 = some (.iaload, 35) := by decide +kernel
theorem c_175_35 : aCod 175 35 = some (.sipush (-1), 36) := by decide +kernel
theorem c_175_36 : aCod 175 36 = some (.if_icmp .eq 62, 39) := by decide +kernel
theorem c_175_39 : aCod 175 39 = some (.aload 0, 40) := by decide +kernel
theorem c_175_40 : aCod 175 40 = some (.getfield 2366, 43) := by decide +kernel
theorem c_175_43 : aCod 175 43 = some (.iload 4, 45) := by decide +kernel
theorem c_175_45 : aCod 175 45 = some (.aload 0, 46) := by decide +kernel
theorem c_175_46 : aCod 175 46 = some (.sipush 1, 47) := by decide +kernel
theorem c_175_47 : aCod 175 47 = some (.iload 4, 49) := by decide +kernel
theorem c_175_49 : aCod 175 49 = some (.invokevirtual 170, 52) := by decide +kernel
theorem c_175_52 : aCod 175 52 = some (.aload 0, 53) := by decide +kernel
theorem c_175_53 : aCod 175 53 = some (.iload 4, 55) := by decide +kernel
theorem c_175_55 : aCod 175 55 = some (.invokevirtual 164, 58) := by decide +kernel
theorem c_175_58 : aCod 175 58 = some (.invokestatic 168, 61) := by decide +kernel
theorem c_175_61 : aCod 175 61 = some (.iastore, 62) := by decide +kernel
theorem c_175_62 : aCod 175 62 = some (.iinc 4 1, 65) := by decide +kernel
theorem c_175_65 : aCod 175 65 = some (.goto 3, 68) := by decide +kernel
theorem c_175_68 : aCod 175 68 = some (.aload 0, 69) := by decide +kernel
theorem c_175_69 : aCod 175 69 = some (.getfield 2362, 72) := by decide +kernel
theorem c_175_72 : aCod 175 72 = some (.sipush 1, 73) := by decide +kernel
theorem c_175_73 : aCod 175 73 = some (.iaload, 74) := by decide +kernel
theorem c_175_74 : aCod 175 74 = some (.istore 4, 76) := by decide +kernel
theorem c_175_76 : aCod 175 76 = some (.aload 0, 77) := by decide +kernel
theorem c_175_77 : aCod 175 77 = some (.getfield 2362, 80) := by decide +kernel
theorem c_175_80 : aCod 175 80 = some (.sipush 2, 81) := by decide +kernel
theorem c_175_81 : aCod 175 81 = some (.iaload, 82) := by decide +kernel
theorem c_175_82 : aCod 175 82 = some (.i2l, 83) := by decide +kernel
theorem c_175_83 : aCod 175 83 = some (.lstore 5, 85) := by decide +kernel
theorem c_175_85 : aCod 175 85 = some (.sipush 0, 86) := by decide +kernel
theorem c_175_86 : aCod 175 86 = some (.istore 7, 88) := by decide +kernel
theorem c_175_88 : aCod 175 88 = some (.iload 7, 90) := by decide +kernel
theorem c_175_90 : aCod 175 90 = some (.aload 0, 91) := by decide +kernel
theorem c_175_91 : aCod 175 91 = some (.invokevirtual 159, 94) := by decide +kernel
theorem c_175_94 : aCod 175 94 = some (.if_icmp .ge 151, 97) := by decide +kernel
theorem c_175_97 : aCod 175 97 = some (.iload 1, 98) := by decide +kernel
theorem c_175_98 : aCod 175 98 = some (.iload 7, 100) := by decide +kernel
theorem c_175_100 : aCod 175 100 = some (.ishr, 101) := by decide +kernel
theorem c_175_101 : aCod 175 101 = some (.sipush 1, 102) := by decide +kernel
theorem c_175_102 : aCod 175 102 = some (.iand, 103) := by decide +kernel
theorem c_175_103 : aCod 175 103 = some (.sipush 1, 104) := by decide +kernel
theorem c_175_104 : aCod 175 104 = some (.if_icmp .ne 110, 107) := by decide +kernel
theorem c_175_107 : aCod 175 107 = some (.goto 145, 110) := by decide +kernel
theorem c_175_110 : aCod 175 110 = some (.iload 4, 112) := by decide +kernel
theorem c_175_112 : aCod 175 112 = some (.aload 0, 113) := by decide +kernel
theorem c_175_113 : aCod 175 113 = some (.getfield 2351, 116) := by decide +kernel
theorem c_175_116 : aCod 175 116 = some (.sipush 12, 118) := by decide +kernel
theorem c_175_118 : aCod 175 118 = some (.sipush 2, 119) := by decide +kernel
theorem c_175_119 : aCod 175 119 = some (.iload 7, 121) := by decide +kernel
theorem c_175_121 : aCod 175 121 = some (.imul, 122) := by decide +kernel
theorem c_175_122 : aCod 175 122 = some (.iadd, 123) := by decide +kernel
theorem c_175_123 : aCod 175 123 = some (.iaload, 124) := by decide +kernel
theorem c_175_124 : aCod 175 124 = some (.iadd, 125) := by decide +kernel
theorem c_175_125 : aCod 175 125 = some (.istore 4, 127) := by decide +kernel
theorem c_175_127 : aCod 175 127 = some (.lload 5, 129) := by decide +kernel
theorem c_175_129 : aCod 175 129 = some (.aload 0, 130) := by decide +kernel
theorem c_175_130 : aCod 175 130 = some (.getfield 2351, 133) := by decide +kernel
theorem c_175_133 : aCod 175 133 = some (.sipush 13, 135) := by decide +kernel
theorem c_175_135 : aCod 175 135 = some (.sipush 2, 136) := by decide +kernel
theorem c_175_136 : aCod 175 136 = some (.iload 7, 138) := by decide +kernel
theorem c_175_138 : aCod 175 138 = some (.imul, 139) := by decide +kernel
theorem c_175_139 : aCod 175 139 = some (.iadd, 140) := by decide +kernel
theorem c_175_140 : aCod 175 140 = some (.iaload, 141) := by decide +kernel
theorem c_175_141 : aCod 175 141 = some (.i2l, 142) := by decide +kernel
theorem c_175_142 : aCod 175 142 = some (.ladd, 143) := by decide +kernel
theorem c_175_143 : aCod 175 143 = some (.lstore 5, 145) := by decide +kernel
theorem c_175_145 : aCod 175 145 = some (.iinc 7 1, 148) := by decide +kernel
theorem c_175_148 : aCod 175 148 = some (.goto 88, 151) := by decide +kernel
theorem c_175_151 : aCod 175 151 = some (.sipush 0, 152) := by decide +kernel
theorem c_175_152 : aCod 175 152 = some (.istore 7, 154) := by decide +kernel
theorem c_175_154 : aCod 175 154 = some (.iload 7, 156) := by decide +kernel
theorem c_175_156 : aCod 175 156 = some (.aload 0, 157) := by decide +kernel
theorem c_175_157 : aCod 175 157 = some (.invokevirtual 159, 160) := by decide +kernel
theorem c_175_160 : aCod 175 160 = some (.if_icmp .ge 185, 163) := by decide +kernel
theorem c_175_163 : aCod 175 163 = some (.iload 2, 164) := by decide +kernel
theorem c_175_164 : aCod 175 164 = some (.iload 7, 166) := by decide +kernel
theorem c_175_166 : aCod 175 166 = some (.ishr, 167) := by decide +kernel
theorem c_175_167 : aCod 175 167 = some (.sipush 1, 168) := by decide +kernel
theorem c_175_168 : aCod 175 168 = some (.iand, 169) := by decide +kernel
theorem c_175_169 : aCod 175 169 = some (.sipush 1, 170) := by decide +kernel
theorem c_175_170 : aCod 175 170 = some (.if_icmp .ne 179, 173) := by decide +kernel
theorem c_175_173 : aCod 175 173 = some (.iload 4, 175) := by decide +kernel
theorem c_175_175 : aCod 175 175 = some (.iload 3, 176) := by decide +kernel
theorem c_175_176 : aCod 175 176 = some (.iadd, 177) := by decide +kernel
theorem c_175_177 : aCod 175 177 = some (.istore 4, 179) := by decide +kernel
theorem c_175_179 : aCod 175 179 = some (.iinc 7 1, 182) := by decide +kernel
theorem c_175_182 : aCod 175 182 = some (.goto 154, 185) := by decide +kernel
theorem c_175_185 : aCod 175 185 = some (.iload 4, 187) := by decide +kernel
theorem c_175_187 : aCod 175 187 = some (.aload 0, 188) := by decide +kernel
theorem c_175_188 : aCod 175 188 = some (.invokevirtual 167, 191) := by decide +kernel
theorem c_175_191 : aCod 175 191 = some (.if_icmp .le 230, 194) := by decide +kernel
theorem c_175_194 : aCod 175 194 = some (.lload 5, 196) := by decide +kernel
theorem c_175_196 : aCod 175 196 = some (.aload 0, 197) := by decide +kernel
theorem c_175_197 : aCod 175 197 = some (.invokevirtual 167, 200) := by decide +kernel
theorem c_175_200 : aCod 175 200 = some (.i2l, 201) := by decide +kernel
theorem c_175_201 : aCod 175 201 = some (.lmul, 202) := by decide +kernel
theorem c_175_202 : aCod 175 202 = some (.iload 4, 204) := by decide +kernel
theorem c_175_204 : aCod 175 204 = some (.i2l, 205) := by decide +kernel
theorem c_175_205 : aCod 175 205 = some (.ldiv, 206) := by decide +kernel
theorem c_175_206 : aCod 175 206 = some (.lstore 5, 208) := by decide +kernel
theorem c_175_208 : aCod 175 208 = some (.aload 0, 209) := by decide +kernel
theorem c_175_209 : aCod 175 209 = some (.dup, 210) := by decide +kernel
theorem c_175_210 : aCod 175 210 = some (.getfield 2367, 213) := by decide +kernel
theorem c_175_213 : aCod 175 213 = some (.iload 4, 215) := by decide +kernel
theorem c_175_215 : aCod 175 215 = some (.aload 0, 216) := by decide +kernel
theorem c_175_216 : aCod 175 216 = some (.invokevirtual 167, 219) := by decide +kernel
theorem c_175_219 : aCod 175 219 = some (.isub, 220) := by decide +kernel
theorem c_175_220 : aCod 175 220 = some (.iadd, 221) := by decide +kernel
theorem c_175_221 : aCod 175 221 = some (.putfield 2367, 224) := by decide +kernel
theorem c_175_224 : aCod 175 224 = some (.aload 0, 225) := by decide +kernel
theorem c_175_225 : aCod 175 225 = some (.invokevirtual 167, 228) := by decide +kernel
theorem c_175_228 : aCod 175 228 = some (.istore 4, 230) := by decide +kernel
theorem c_175_230 : aCod 175 230 = some (.aload 0, 231) := by decide +kernel
theorem c_175_231 : aCod 175 231 = some (.getfield 2362, 234) := by decide +kernel
theorem c_175_234 : aCod 175 234 = some (.sipush 1, 235) := by decide +kernel
theorem c_175_235 : aCod 175 235 = some (.iload 4, 237) := by decide +kernel
theorem c_175_237 : aCod 175 237 = some (.iload 4, 239) := by decide +kernel
theorem c_175_239 : aCod 175 239 = some (.aload 0, 240) := by decide +kernel
theorem c_175_240 : aCod 175 240 = some (.getfield 2354, 243) := by decide +kernel
theorem c_175_243 : aCod 175 243 = some (.sipush 3, 244) := by decide +kernel
theorem c_175_244 : aCod 175 244 = some (.iaload, 245) := by decide +kernel
theorem c_175_245 : aCod 175 245 = some (.imul, 246) := by decide +kernel
theorem c_175_246 : aCod 175 246 = some (.sipush 100, 248) := by decide +kernel
theorem c_175_248 : aCod 175 248 = some (.idiv, 249) := by decide +kernel
theorem c_175_249 : aCod 175 249 = some (.isub, 250) := by decide +kernel
theorem c_175_250 : aCod 175 250 = some (.iastore, 251) := by decide +kernel
theorem c_175_251 : aCod 175 251 = some (.aload 0, 252) := by decide +kernel
theorem c_175_252 : aCod 175 252 = some (.getfield 2362, 255) := by decide +kernel
theorem c_175_255 : aCod 175 255 = some (.sipush 2, 256) := by decide +kernel
theorem c_175_256 : aCod 175 256 = some (.lload 5, 258) := by decide +kernel
theorem c_175_258 : aCod 175 258 = some (.sipush 9999, 261) := by decide +kernel
theorem c_175_261 : aCod 175 261 = some (.invokestatic 168, 264) := by decide +kernel
theorem c_175_264 : aCod 175 264 = some (.iastore, 265) := by decide +kernel
theorem c_175_265 : aCod 175 265 = some (.sipush 0, 266) := by decide +kernel
theorem c_175_266 : aCod 175 266 = some (.istore 7, 268) := by decide +kernel
theorem c_175_268 : aCod 175 268 = some (.iload 7, 270) := by decide +kernel
theorem c_175_270 : aCod 175 270 = some (.aload 0, 271) := by decide +kernel
theorem c_175_271 : aCod 175 271 = some (.invokevirtual 161, 274) := by decide +kernel
theorem c_175_274 : aCod 175 274 = some (.if_icmp .ge 346, 277) := by decide +kernel
theorem c_175_277 : aCod 175 277 = some (.aload 0, 278) := by decide +kernel
theorem c_175_278 : aCod 175 278 = some (.iload 7, 280) := by decide +kernel
theorem c_175_280 : aCod 175 280 = some (.invokevirtual 163, 283) := by decide +kernel
theorem c_175_283 : aCod 175 283 = some (.ifCond .ne 289, 286) := by decide +kernel
theorem c_175_286 : aCod 175 286 = some (.goto 340, 289) := by decide +kernel
theorem c_175_289 : aCod 175 289 = some (.aload 0, 290) := by decide +kernel
theorem c_175_290 : aCod 175 290 = some (.getfield 2362, 293) := by decide +kernel
theorem c_175_293 : aCod 175 293 = some (.sipush 3, 294) := by decide +kernel
theorem c_175_294 : aCod 175 294 = some (.sipush 3, 295) := by decide +kernel
theorem c_175_295 : aCod 175 295 = some (.iload 7, 297) := by decide +kernel
theorem c_175_297 : aCod 175 297 = some (.imul, 298) := by decide +kernel
theorem c_175_298 : aCod 175 298 = some (.iadd, 299) := by decide +kernel
theorem c_175_299 : aCod 175 299 = some (.sipush 1, 300) := by decide +kernel
theorem c_175_300 : aCod 175 300 = some (.iadd, 301) := by decide +kernel
theorem c_175_301 : aCod 175 301 = some (.dup2, 302) := by decide +kernel
theorem c_175_302 : aCod 175 302 = some (.iaload, 303) := by decide +kernel
theorem c_175_303 : aCod 175 303 = some (.aload 0, 304) := by decide +kernel
theorem c_175_304 : aCod 175 304 = some (.getfield 2366, 307) := by decide +kernel
theorem c_175_307 : aCod 175 307 = some (.iload 7, 309) := by decide +kernel
theorem c_175_309 : aCod 175 309 = some (.iaload, 310) := by decide +kernel
theorem c_175_310 : aCod 175 310 = some (.isub, 311) := by decide +kernel
theorem c_175_311 : aCod 175 311 = some (.iastore, 312) := by decide +kernel
theorem c_175_312 : aCod 175 312 = some (.aload 0, 313) := by decide +kernel
theorem c_175_313 : aCod 175 313 = some (.iload 7, 315) := by decide +kernel
theorem c_175_315 : aCod 175 315 = some (.invokevirtual 165, 318) := by decide +kernel
theorem c_175_318 : aCod 175 318 = some (.sipush 99, 320) := by decide +kernel
theorem c_175_320 : aCod 175 320 = some (.if_icmp .ge 340, 323) := by decide +kernel
theorem c_175_323 : aCod 175 323 = some (.aload 0, 324) := by decide +kernel
theorem c_175_324 : aCod 175 324 = some (.getfield 2362, 327) := by decide +kernel
theorem c_175_327 : aCod 175 327 = some (.sipush 3, 328) := by decide +kernel
theorem c_175_328 : aCod 175 328 = some (.sipush 3, 329) := by decide +kernel
theorem c_175_329 : aCod 175 329 = some (.iload 7, 331) := by decide +kernel
theorem c_175_331 : aCod 175 331 = some (.imul, 332) := by decide +kernel
theorem c_175_332 : aCod 175 332 = some (.iadd, 333) := by decide +kernel
theorem c_175_333 : aCod 175 333 = some (.sipush 2, 334) := by decide +kernel
theorem c_175_334 : aCod 175 334 = some (.iadd, 335) := by decide +kernel
theorem c_175_335 : aCod 175 335 = some (.dup2, 336) := by decide +kernel
theorem c_175_336 : aCod 175 336 = some (.iaload, 337) := by decide +kernel
theorem c_175_337 : aCod 175 337 = some (.sipush 1, 338) := by decide +kernel
theorem c_175_338 : aCod 175 338 = some (.iadd, 339) := by decide +kernel
theorem c_175_339 : aCod 175 339 = some (.iastore, 340) := by decide +kernel
theorem c_175_340 : aCod 175 340 = some (.iinc 7 1, 343) := by decide +kernel
theorem c_175_343 : aCod 175 343 = some (.goto 268, 346) := by decide +kernel
theorem c_175_346 : aCod 175 346 = some (.aload 0, 347) := by decide +kernel
theorem c_175_347 : aCod 175 347 = some (.getfield 2362, 350) := by decide +kernel
theorem c_175_350 : aCod 175 350 = some (.sipush 0, 351) := by decide +kernel
theorem c_175_351 : aCod 175 351 = some (.dup2, 352) := by decide +kernel
theorem c_175_352 : aCod 175 352 = some (.iaload, 353) := by decide +kernel
theorem c_175_353 : aCod 175 353 = some (.sipush 1, 354) := by decide +kernel
theorem c_175_354 : aCod 175 354 = some (.iadd, 355) := by decide +kernel
theorem c_175_355 : aCod 175 355 = some (.iastore, 356) := by decide +kernel
theorem c_175_356 : aCod 175 356 = some (.return_, 357) := by decide +kernel
