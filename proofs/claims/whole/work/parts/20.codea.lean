/-! the code, row by row (gen19.py) -/
theorem c_0_0 : aCod 0 0 = some (.aload 0, 1) := by decide +kernel
theorem c_0_1 : aCod 0 1 = some (.invokeinterface 0 0, 4) := by decide +kernel
theorem c_0_4 : aCod 0 4 = some (.aload 0, 5) := by decide +kernel
theorem c_0_5 : aCod 0 5 = some (.sipush 20, 7) := by decide +kernel
theorem c_0_7 : aCod 0 7 = some (.anewarray 1, 10) := by decide +kernel
theorem c_0_10 : aCod 0 10 = some (.putfield 0, 13) := by decide +kernel
theorem c_0_13 : aCod 0 13 = some (.sipush 0, 14) := by decide +kernel
theorem c_0_14 : aCod 0 14 = some (.istore 1, 15) := by decide +kernel
theorem c_0_15 : aCod 0 15 = some (.iload 1, 16) := by decide +kernel
theorem c_0_16 : aCod 0 16 = some (.sipush 20, 18) := by decide +kernel
theorem c_0_18 : aCod 0 18 = some (.if_icmp .ge 40, 21) := by decide +kernel
theorem c_0_21 : aCod 0 21 = some (.aload 0, 22) := by decide +kernel
theorem c_0_22 : aCod 0 22 = some (.getfield 0, 25) := by decide +kernel
theorem c_0_25 : aCod 0 25 = some (.iload 1, 26) := by decide +kernel
theorem c_0_26 : aCod 0 26 = some (.new 1, 29) := by decide +kernel
theorem c_0_29 : aCod 0 29 = some (.dup, 30) := by decide +kernel
theorem c_0_30 : aCod 0 30 = some (.invokespecial 4, 33) := by decide +kernel
theorem c_0_33 : aCod 0 33 = some (.aastore, 34) := by decide +kernel
theorem c_0_34 : aCod 0 34 = some (.iinc 1 1, 37) := by decide +kernel
theorem c_0_37 : aCod 0 37 = some (.goto 15, 40) := by decide +kernel
theorem c_0_40 : aCod 0 40 = some (.return_, 41) := by decide +kernel
theorem c_1_0 : aCod 1 0 = some (.aload 0, 1) := by decide +kernel
theorem c_1_1 : aCod 1 1 = some (.sipush 0, 2) := by decide +kernel
theorem c_1_2 : aCod 1 2 = some (.putfield 1, 5) := by decide +kernel
theorem c_1_5 : aCod 1 5 = some (.aload 0, 6) := by decide +kernel
theorem c_1_6 : aCod 1 6 = some (.sipush 0, 7) := by decide +kernel
theorem c_1_7 : aCod 1 7 = some (.putfield 2, 10) := by decide +kernel
theorem c_1_10 : aCod 1 10 = some (.return_, 11) := by decide +kernel
theorem c_2_0 : aCod 2 0 = some (.aload 0, 1) := by decide +kernel
theorem c_2_1 : aCod 2 1 = some (.getfield 0, 4) := by decide +kernel
theorem c_2_4 : aCod 2 4 = some (.aload 0, 5) := by decide +kernel
theorem c_2_5 : aCod 2 5 = some (.getfield 1, 8) := by decide +kernel
theorem c_2_8 : aCod 2 8 = some (.aaload, 9) := by decide +kernel
theorem c_2_9 : aCod 2 9 = some (.aload 1, 10) := by decide +kernel
theorem c_2_10 : aCod 2 10 = some (.invokevirtual 6, 13) := by decide +kernel
theorem c_2_13 : aCod 2 13 = some (.aload 0, 14) := by decide +kernel
theorem c_2_14 : aCod 2 14 = some (.aload 0, 15) := by decide +kernel
theorem c_2_15 : aCod 2 15 = some (.getfield 1, 18) := by decide +kernel
theorem c_2_18 : aCod 2 18 = some (.sipush 1, 19) := by decide +kernel
theorem c_2_19 : aCod 2 19 = some (.iadd, 20) := by decide +kernel
theorem c_2_20 : aCod 2 20 = some (.sipush 20, 22) := by decide +kernel
theorem c_2_22 : aCod 2 22 = some (.irem, 23) := by decide +kernel
theorem c_2_23 : aCod 2 23 = some (.putfield 1, 26) := by decide +kernel
theorem c_2_26 : aCod 2 26 = some (.aload 0, 27) := by decide +kernel
theorem c_2_27 : aCod 2 27 = some (.sipush 20, 29) := by decide +kernel
theorem c_2_29 : aCod 2 29 = some (.aload 0, 30) := by decide +kernel
theorem c_2_30 : aCod 2 30 = some (.getfield 2, 33) := by decide +kernel
theorem c_2_33 : aCod 2 33 = some (.sipush 1, 34) := by decide +kernel
theorem c_2_34 : aCod 2 34 = some (.iadd, 35) := by decide +kernel
theorem c_2_35 : aCod 2 35 = some (.invokeinterface 2 0, 38) := by decide +kernel
theorem c_2_38 : aCod 2 38 = some (.putfield 2, 41) := by decide +kernel
theorem c_2_41 : aCod 2 41 = some (.return_, 42) := by decide +kernel
theorem c_3_0 : aCod 3 0 = some (.aload 0, 1) := by decide +kernel
theorem c_3_1 : aCod 3 1 = some (.aload 0, 2) := by decide +kernel
theorem c_3_2 : aCod 3 2 = some (.getfield 1, 5) := by decide +kernel
theorem c_3_5 : aCod 3 5 = some (.sipush 20, 7) := by decide +kernel
theorem c_3_7 : aCod 3 7 = some (.iadd, 8) := by decide +kernel
theorem c_3_8 : aCod 3 8 = some (.sipush 1, 9) := by decide +kernel
theorem c_3_9 : aCod 3 9 = some (.isub, 10) := by decide +kernel
theorem c_3_10 : aCod 3 10 = some (.sipush 20, 12) := by decide +kernel
theorem c_3_12 : aCod 3 12 = some (.irem, 13) := by decide +kernel
theorem c_3_13 : aCod 3 13 = some (.putfield 1, 16) := by decide +kernel
theorem c_3_16 : aCod 3 16 = some (.aload 0, 17) := by decide +kernel
theorem c_3_17 : aCod 3 17 = some (.dup, 18) := by decide +kernel
theorem c_3_18 : aCod 3 18 = some (.getfield 2, 21) := by decide +kernel
theorem c_3_21 : aCod 3 21 = some (.sipush 1, 22) := by decide +kernel
theorem c_3_22 : aCod 3 22 = some (.isub, 23) := by decide +kernel
theorem c_3_23 : aCod 3 23 = some (.putfield 2, 26) := by decide +kernel
theorem c_3_26 : aCod 3 26 = some (.aload 1, 27) := by decide +kernel
theorem c_3_27 : aCod 3 27 = some (.aload 0, 28) := by decide +kernel
theorem c_3_28 : aCod 3 28 = some (.getfield 0, 31) := by decide +kernel
theorem c_3_31 : aCod 3 31 = some (.aload 0, 32) := by decide +kernel
theorem c_3_32 : aCod 3 32 = some (.getfield 1, 35) := by decide +kernel
theorem c_3_35 : aCod 3 35 = some (.aaload, 36) := by decide +kernel
theorem c_3_36 : aCod 3 36 = some (.invokevirtual 6, 39) := by decide +kernel
theorem c_3_39 : aCod 3 39 = some (.return_, 40) := by decide +kernel
theorem c_4_0 : aCod 4 0 = some (.aload 0, 1) := by decide +kernel
theorem c_4_1 : aCod 4 1 = some (.invokeinterface 0 0, 4) := by decide +kernel
theorem c_4_4 : aCod 4 4 = some (.aload 0, 5) := by decide +kernel
theorem c_4_5 : aCod 4 5 = some (.sipush 8, 7) := by decide +kernel
theorem c_4_7 : aCod 4 7 = some (.newarray .int, 9) := by decide +kernel
theorem c_4_9 : aCod 4 9 = some (.putfield 261, 12) := by decide +kernel
theorem c_4_12 : aCod 4 12 = some (.aload 0, 13) := by decide +kernel
theorem c_4_13 : aCod 4 13 = some (.sipush 8, 15) := by decide +kernel
theorem c_4_15 : aCod 4 15 = some (.newarray .int, 17) := by decide +kernel
theorem c_4_17 : aCod 4 17 = some (.putfield 262, 20) := by decide +kernel
theorem c_4_20 : aCod 4 20 = some (.return_, 21) := by decide +kernel
theorem c_5_0 : aCod 5 0 = some (.aload 0, 1) := by decide +kernel
theorem c_5_1 : aCod 5 1 = some (.sipush 0, 2) := by decide +kernel
theorem c_5_2 : aCod 5 2 = some (.putfield 256, 5) := by decide +kernel
theorem c_5_5 : aCod 5 5 = some (.aload 0, 6) := by decide +kernel
theorem c_5_6 : aCod 5 6 = some (.iload 1, 7) := by decide +kernel
theorem c_5_7 : aCod 5 7 = some (.putfield 257, 10) := by decide +kernel
theorem c_5_10 : aCod 5 10 = some (.aload 0, 11) := by decide +kernel
theorem c_5_11 : aCod 5 11 = some (.iload 2, 12) := by decide +kernel
theorem c_5_12 : aCod 5 12 = some (.putfield 258, 15) := by decide +kernel
theorem c_5_15 : aCod 5 15 = some (.aload 0, 16) := by decide +kernel
theorem c_5_16 : aCod 5 16 = some (.sipush 0, 17) := by decide +kernel
theorem c_5_17 : aCod 5 17 = some (.putfield 259, 20) := by decide +kernel
theorem c_5_20 : aCod 5 20 = some (.aload 0, 21) := by decide +kernel
theorem c_5_21 : aCod 5 21 = some (.sipush 0, 22) := by decide +kernel
theorem c_5_22 : aCod 5 22 = some (.putfield 260, 25) := by decide +kernel
theorem c_5_25 : aCod 5 25 = some (.sipush 0, 26) := by decide +kernel
theorem c_5_26 : aCod 5 26 = some (.istore 3, 27) := by decide +kernel
theorem c_5_27 : aCod 5 27 = some (.iload 3, 28) := by decide +kernel
theorem c_5_28 : aCod 5 28 = some (.sipush 8, 30) := by decide +kernel
theorem c_5_30 : aCod 5 30 = some (.if_icmp .ge 54, 33) := by decide +kernel
theorem c_5_33 : aCod 5 33 = some (.aload 0, 34) := by decide +kernel
theorem c_5_34 : aCod 5 34 = some (.getfield 261, 37) := by decide +kernel
theorem c_5_37 : aCod 5 37 = some (.iload 3, 38) := by decide +kernel
theorem c_5_38 : aCod 5 38 = some (.sipush 0, 39) := by decide +kernel
theorem c_5_39 : aCod 5 39 = some (.iastore, 40) := by decide +kernel
theorem c_5_40 : aCod 5 40 = some (.aload 0, 41) := by decide +kernel
theorem c_5_41 : aCod 5 41 = some (.getfield 262, 44) := by decide +kernel
theorem c_5_44 : aCod 5 44 = some (.iload 3, 45) := by decide +kernel
theorem c_5_45 : aCod 5 45 = some (.sipush 99, 47) := by decide +kernel
theorem c_5_47 : aCod 5 47 = some (.iastore, 48) := by decide +kernel
theorem c_5_48 : aCod 5 48 = some (.iinc 3 1, 51) := by decide +kernel
theorem c_5_51 : aCod 5 51 = some (.goto 27, 54) := by decide +kernel
theorem c_5_54 : aCod 5 54 = some (.return_, 55) := by decide +kernel
theorem c_6_0 : aCod 6 0 = some (.aload 0, 1) := by decide +kernel
theorem c_6_1 : aCod 6 1 = some (.aload 1, 2) := by decide +kernel
theorem c_6_2 : aCod 6 2 = some (.getfield 256, 5) := by decide +kernel
theorem c_6_5 : aCod 6 5 = some (.putfield 256, 8) := by decide +kernel
theorem c_6_8 : aCod 6 8 = some (.aload 0, 9) := by decide +kernel
theorem c_6_9 : aCod 6 9 = some (.aload 1, 10) := by decide +kernel
theorem c_6_10 : aCod 6 10 = some (.getfield 257, 13) := by decide +kernel
theorem c_6_13 : aCod 6 13 = some (.putfield 257, 16) := by decide +kernel
theorem c_6_16 : aCod 6 16 = some (.aload 0, 17) := by decide +kernel
theorem c_6_17 : aCod 6 17 = some (.aload 1, 18) := by decide +kernel
theorem c_6_18 : aCod 6 18 = some (.getfield 258, 21) := by decide +kernel
theorem c_6_21 : aCod 6 21 = some (.putfield 258, 24) := by decide +kernel
theorem c_6_24 : aCod 6 24 = some (.aload 0, 25) := by decide +kernel
theorem c_6_25 : aCod 6 25 = some (.aload 1, 26) := by decide +kernel
theorem c_6_26 : aCod 6 26 = some (.getfield 259, 29) := by decide +kernel
theorem c_6_29 : aCod 6 29 = some (.putfield 259, 32) := by decide +kernel
theorem c_6_32 : aCod 6 32 = some (.aload 0, 33) := by decide +kernel
theorem c_6_33 : aCod 6 33 = some (.aload 1, 34) := by decide +kernel
theorem c_6_34 : aCod 6 34 = some (.getfield 260, 37) := by decide +kernel
theorem c_6_37 : aCod 6 37 = some (.putfield 260, 40) := by decide +kernel
theorem c_6_40 : aCod 6 40 = some (.aload 1, 41) := by decide +kernel
theorem c_6_41 : aCod 6 41 = some (.getfield 261, 44) := by decide +kernel
theorem c_6_44 : aCod 6 44 = some (.sipush 0, 45) := by decide +kernel
theorem c_6_45 : aCod 6 45 = some (.aload 0, 46) := by decide +kernel
theorem c_6_46 : aCod 6 46 = some (.getfield 261, 49) := by decide +kernel
theorem c_6_49 : aCod 6 49 = some (.sipush 0, 50) := by decide +kernel
theorem c_6_50 : aCod 6 50 = some (.sipush 8, 52) := by decide +kernel
theorem c_6_52 : aCod 6 52 = some (.invokeinterface 3 0, 55) := by decide +kernel
theorem c_6_55 : aCod 6 55 = some (.aload 1, 56) := by decide +kernel
theorem c_6_56 : aCod 6 56 = some (.getfield 262, 59) := by decide +kernel
theorem c_6_59 : aCod 6 59 = some (.sipush 0, 60) := by decide +kernel
theorem c_6_60 : aCod 6 60 = some (.aload 0, 61) := by decide +kernel
theorem c_6_61 : aCod 6 61 = some (.getfield 262, 64) := by decide +kernel
theorem c_6_64 : aCod 6 64 = some (.sipush 0, 65) := by decide +kernel
theorem c_6_65 : aCod 6 65 = some (.sipush 8, 67) := by decide +kernel
theorem c_6_67 : aCod 6 67 = some (.invokeinterface 3 0, 70) := by decide +kernel
theorem c_6_70 : aCod 6 70 = some (.return_, 71) := by decide +kernel
theorem c_7_0 : aCod 7 0 = some (.aload 0, 1) := by decide +kernel
theorem c_7_1 : aCod 7 1 = some (.getfield 257, 4) := by decide +kernel
theorem c_7_4 : aCod 7 4 = some (.ifCond .gt 9, 7) := by decide +kernel
theorem c_7_7 : aCod 7 7 = some (.sipush 0, 8) := by decide +kernel
theorem c_7_8 : aCod 7 8 = some (.ireturn, 9) := by decide +kernel
theorem c_7_9 : aCod 7 9 = some (.sipush 100, 11) := by decide +kernel
theorem c_7_11 : aCod 7 11 = some (.aload 0, 12) := by decide +kernel
theorem c_7_12 : aCod 7 12 = some (.getfield 258, 15) := by decide +kernel
theorem c_7_15 : aCod 7 15 = some (.imul, 16) := by decide +kernel
theorem c_7_16 : aCod 7 16 = some (.aload 0, 17) := by decide +kernel
theorem c_7_17 : aCod 7 17 = some (.getfield 257, 20) := by decide +kernel
theorem c_7_20 : aCod 7 20 = some (.idiv, 21) := by decide +kernel
theorem c_7_21 : aCod 7 21 = some (.istore 1, 22) := by decide +kernel
theorem c_7_22 : aCod 7 22 = some (.iload 1, 23) := by decide +kernel
theorem c_7_23 : aCod 7 23 = some (.sipush 9999, 26) := by decide +kernel
theorem c_7_26 : aCod 7 26 = some (.if_icmp .le 35, 29) := by decide +kernel
theorem c_7_29 : aCod 7 29 = some (.sipush 9999, 32) := by decide +kernel
theorem c_7_32 : aCod 7 32 = some (.goto 36, 35) := by decide +kernel
theorem c_7_35 : aCod 7 35 = some (.iload 1, 36) := by decide +kernel
theorem c_7_36 : aCod 7 36 = some (.ireturn, 37) := by decide +kernel
theorem c_8_0 : aCod 8 0 = some (.aload 0, 1) := by decide +kernel
theorem c_8_1 : aCod 8 1 = some (.getfield 259, 4) := by decide +kernel
theorem c_8_4 : aCod 8 4 = some (.iload 1, 5) := by decide +kernel
theorem c_8_5 : aCod 8 5 = some (.ishr, 6) := by decide +kernel
theorem c_8_6 : aCod 8 6 = some (.sipush 1, 7) := by decide +kernel
theorem c_8_7 : aCod 8 7 = some (.iand, 8) := by decide +kernel
theorem c_8_8 : aCod 8 8 = some (.ifCond .eq 15, 11) := by decide +kernel
theorem c_8_11 : aCod 8 11 = some (.sipush 1, 12) := by decide +kernel
theorem c_8_12 : aCod 8 12 = some (.goto 16, 15) := by decide +kernel
theorem c_8_15 : aCod 8 15 = some (.sipush 0, 16) := by decide +kernel
theorem c_8_16 : aCod 8 16 = some (.ireturn, 17) := by decide +kernel
theorem c_9_0 : aCod 9 0 = some (.aload 0, 1) := by decide +kernel
theorem c_9_1 : aCod 9 1 = some (.getfield 261, 4) := by decide +kernel
theorem c_9_4 : aCod 9 4 = some (.iload 1, 5) := by decide +kernel
theorem c_9_5 : aCod 9 5 = some (.aload 0, 6) := by decide +kernel
theorem c_9_6 : aCod 9 6 = some (.invokevirtual 7, 9) := by decide +kernel
theorem c_9_9 : aCod 9 9 = some (.iastore, 10) := by decide +kernel
theorem c_9_10 : aCod 9 10 = some (.aload 0, 11) := by decide +kernel
theorem c_9_11 : aCod 9 11 = some (.getfield 262, 14) := by decide +kernel
theorem c_9_14 : aCod 9 14 = some (.iload 1, 15) := by decide +kernel
theorem c_9_15 : aCod 9 15 = some (.sipush 0, 16) := by decide +kernel
theorem c_9_16 : aCod 9 16 = some (.iastore, 17) := by decide +kernel
theorem c_9_17 : aCod 9 17 = some (.aload 0, 18) := by decide +kernel
theorem c_9_18 : aCod 9 18 = some (.dup, 19) := by decide +kernel
theorem c_9_19 : aCod 9 19 = some (.getfield 259, 22) := by decide +kernel
theorem c_9_22 : aCod 9 22 = some (.sipush 1, 23) := by decide +kernel
theorem c_9_23 : aCod 9 23 = some (.iload 1, 24) := by decide +kernel
theorem c_9_24 : aCod 9 24 = some (.ishl, 25) := by decide +kernel
theorem c_9_25 : aCod 9 25 = some (.ior, 26) := by decide +kernel
theorem c_9_26 : aCod 9 26 = some (.putfield 259, 29) := by decide +kernel
theorem c_9_29 : aCod 9 29 = some (.aload 0, 30) := by decide +kernel
theorem c_9_30 : aCod 9 30 = some (.getfield 257, 33) := by decide +kernel
theorem c_9_33 : aCod 9 33 = some (.ifCond .le 56, 36) := by decide +kernel
theorem c_9_36 : aCod 9 36 = some (.aload 0, 37) := by decide +kernel
theorem c_9_37 : aCod 9 37 = some (.dup, 38) := by decide +kernel
theorem c_9_38 : aCod 9 38 = some (.getfield 258, 41) := by decide +kernel
theorem c_9_41 : aCod 9 41 = some (.aload 0, 42) := by decide +kernel
theorem c_9_42 : aCod 9 42 = some (.getfield 258, 45) := by decide +kernel
theorem c_9_45 : aCod 9 45 = some (.iload 2, 46) := by decide +kernel
theorem c_9_46 : aCod 9 46 = some (.imul, 47) := by decide +kernel
theorem c_9_47 : aCod 9 47 = some (.aload 0, 48) := by decide +kernel
theorem c_9_48 : aCod 9 48 = some (.getfield 257, 51) := by decide +kernel
theorem c_9_51 : aCod 9 51 = some (.idiv, 52) := by decide +kernel
theorem c_9_52 : aCod 9 52 = some (.isub, 53) := by decide +kernel
theorem c_9_53 : aCod 9 53 = some (.putfield 258, 56) := by decide +kernel
theorem c_9_56 : aCod 9 56 = some (.aload 0, 57) := by decide +kernel
theorem c_9_57 : aCod 9 57 = some (.dup, 58) := by decide +kernel
theorem c_9_58 : aCod 9 58 = some (.getfield 257, 61) := by decide +kernel
theorem c_9_61 : aCod 9 61 = some (.iload 2, 62) := by decide +kernel
theorem c_9_62 : aCod 9 62 = some (.isub, 63) := by decide +kernel
theorem c_9_63 : aCod 9 63 = some (.putfield 257, 66) := by decide +kernel
theorem c_9_66 : aCod 9 66 = some (.return_, 67) := by decide +kernel
theorem c_10_0 : aCod 10 0 = some (.aload 0, 1) := by decide +kernel
theorem c_10_1 : aCod 10 1 = some (.invokeinterface 0 0, 4) := by decide +kernel
theorem c_10_4 : aCod 10 4 = some (.aload 0, 5) := by decide +kernel
theorem c_10_5 : aCod 10 5 = some (.sipush 1601, 8) := by decide +kernel
theorem c_10_8 : aCod 10 8 = some (.newarray .int, 10) := by decide +kernel
theorem c_10_10 : aCod 10 10 = some (.putfield 512, 13) := by decide +kernel
theorem c_10_13 : aCod 10 13 = some (.aload 0, 14) := by decide +kernel
theorem c_10_14 : aCod 10 14 = some (.sipush 1601, 17) := by decide +kernel
theorem c_10_17 : aCod 10 17 = some (.newarray .int, 19) := by decide +kernel
theorem c_10_19 : aCod 10 19 = some (.putfield 513, 22) := by decide +kernel
theorem c_10_22 : aCod 10 22 = some (.aload 0, 23) := by decide +kernel
theorem c_10_23 : aCod 10 23 = some (.sipush 1601, 26) := by decide +kernel
theorem c_10_26 : aCod 10 26 = some (.newarray .int, 28) := by decide +kernel
theorem c_10_28 : aCod 10 28 = some (.putfield 514, 31) := by decide +kernel
theorem c_10_31 : aCod 10 31 = some (.return_, 32) := by decide +kernel
theorem c_11_0 : aCod 11 0 = some (.sipush 0, 1) := by decide +kernel
theorem c_11_1 : aCod 11 1 = some (.istore 3, 2) := by decide +kernel
theorem c_11_2 : aCod 11 2 = some (.sipush (-1), 3) := by decide +kernel
theorem c_11_3 : aCod 11 3 = some (.istore 4, 5) := by decide +kernel
theorem c_11_5 : aCod 11 5 = some (.aload 0, 6) := by decide +kernel
theorem c_11_6 : aCod 11 6 = some (.sipush 0, 7) := by decide +kernel
theorem c_11_7 : aCod 11 7 = some (.putfield 515, 10) := by decide +kernel
theorem c_11_10 : aCod 11 10 = some (.iload 3, 11) := by decide +kernel
theorem c_11_11 : aCod 11 11 = some (.iload 2, 12) := by decide +kernel
theorem c_11_12 : aCod 11 12 = some (.if_icmp .ge 154, 15) := by decide +kernel
theorem c_11_15 : aCod 11 15 = some (.iload 3, 16) := by decide +kernel
theorem c_11_16 : aCod 11 16 = some (.sipush 1, 17) := by decide +kernel
theorem c_11_17 : aCod 11 17 = some (.iadd, 18) := by decide +kernel
theorem c_11_18 : aCod 11 18 = some (.istore 5, 20) := by decide +kernel
theorem c_11_20 : aCod 11 20 = some (.aload 1, 21) := by decide +kernel
theorem c_11_21 : aCod 11 21 = some (.iload 3, 22) := by decide +kernel
theorem c_11_22 : aCod 11 22 = some (.iaload, 23) := by decide +kernel
theorem c_11_23 : aCod 11 23 = some (.invokestatic 13, 26) := by decide +kernel
theorem c_11_26 : aCod 11 26 = some (.ifCond .eq 72, 29) := by decide +kernel
theorem c_11_29 : aCod 11 29 = some (.aload 1, 30) := by decide +kernel
theorem c_11_30 : aCod 11 30 = some (.iload 3, 31) := by decide +kernel
theorem c_11_31 : aCod 11 31 = some (.iload 2, 32) := by decide +kernel
theorem c_11_32 : aCod 11 32 = some (.invokestatic 15, 35) := by decide +kernel
theorem c_11_35 : aCod 11 35 = some (.istore 5, 37) := by decide +kernel
theorem c_11_37 : aCod 11 37 = some (.aload 0, 38) := by decide +kernel
theorem c_11_38 : aCod 11 38 = some (.iload 3, 39) := by decide +kernel
theorem c_11_39 : aCod 11 39 = some (.iload 4, 41) := by decide +kernel
theorem c_11_41 : aCod 11 41 = some (.if_icmp .ne 50, 44) := by decide +kernel
theorem c_11_44 : aCod 11 44 = some (.sipush 340, 47) := by decide +kernel
theorem c_11_47 : aCod 11 47 = some (.goto 57, 50) := by decide +kernel
theorem c_11_50 : aCod 11 50 = some (.aload 1, 51) := by decide +kernel
theorem c_11_51 : aCod 11 51 = some (.iload 3, 52) := by decide +kernel
theorem c_11_52 : aCod 11 52 = some (.iload 5, 54) := by decide +kernel
theorem c_11_54 : aCod 11 54 = some (.invokestatic 18, 57) := by decide +kernel
theorem c_11_57 : aCod 11 57 = some (.iload 3, 58) := by decide +kernel
theorem c_11_58 : aCod 11 58 = some (.iload 5, 60) := by decide +kernel
theorem c_11_60 : aCod 11 60 = some (.iload 3, 61) := by decide +kernel
theorem c_11_61 : aCod 11 61 = some (.isub, 62) := by decide +kernel
theorem c_11_62 : aCod 11 62 = some (.invokevirtual 12, 65) := by decide +kernel
theorem c_11_65 : aCod 11 65 = some (.iload 5, 67) := by decide +kernel
theorem c_11_67 : aCod 11 67 = some (.istore 4, 69) := by decide +kernel
theorem c_11_69 : aCod 11 69 = some (.goto 148, 72) := by decide +kernel
theorem c_11_72 : aCod 11 72 = some (.aload 1, 73) := by decide +kernel
theorem c_11_73 : aCod 11 73 = some (.iload 3, 74) := by decide +kernel
theorem c_11_74 : aCod 11 74 = some (.iaload, 75) := by decide +kernel
theorem c_11_75 : aCod 11 75 = some (.invokestatic 14, 78) := by decide +kernel
theorem c_11_78 : aCod 11 78 = some (.ifCond .eq 123, 81) := by decide +kernel
theorem c_11_81 : aCod 11 81 = some (.aload 1, 82) := by decide +kernel
theorem c_11_82 : aCod 11 82 = some (.iload 3, 83) := by decide +kernel
theorem c_11_83 : aCod 11 83 = some (.iload 2, 84) := by decide +kernel
theorem c_11_84 : aCod 11 84 = some (.invokestatic 16, 87) := by decide +kernel
theorem c_11_87 : aCod 11 87 = some (.istore 5, 89) := by decide +kernel
theorem c_11_89 : aCod 11 89 = some (.aload 0, 90) := by decide +kernel
theorem c_11_90 : aCod 11 90 = some (.iload 3, 91) := by decide +kernel
theorem c_11_91 : aCod 11 91 = some (.iload 4, 93) := by decide +kernel
theorem c_11_93 : aCod 11 93 = some (.if_icmp .ne 102, 96) := by decide +kernel
theorem c_11_96 : aCod 11 96 = some (.sipush 340, 99) := by decide +kernel
theorem c_11_99 : aCod 11 99 = some (.goto 105, 102) := by decide +kernel
theorem c_11_102 : aCod 11 102 = some (.sipush 339, 105) := by decide +kernel
theorem c_11_105 : aCod 11 105 = some (.iload 3, 106) := by decide +kernel
theorem c_11_106 : aCod 11 106 = some (.aload 1, 107) := by decide +kernel
theorem c_11_107 : aCod 11 107 = some (.iload 3, 108) := by decide +kernel
theorem c_11_108 : aCod 11 108 = some (.iload 5, 110) := by decide +kernel
theorem c_11_110 : aCod 11 110 = some (.invokestatic 17, 113) := by decide +kernel
theorem c_11_113 : aCod 11 113 = some (.invokevirtual 12, 116) := by decide +kernel
theorem c_11_116 : aCod 11 116 = some (.iload 5, 118) := by decide +kernel
theorem c_11_118 : aCod 11 118 = some (.istore 4, 120) := by decide +kernel
theorem c_11_120 : aCod 11 120 = some (.goto 148, 123) := by decide +kernel
theorem c_11_123 : aCod 11 123 = some (.aload 1, 124) := by decide +kernel
theorem c_11_124 : aCod 11 124 = some (.iload 3, 125) := by decide +kernel
theorem c_11_125 : aCod 11 125 = some (.iaload, 126) := by decide +kernel
theorem c_11_126 : aCod 11 126 = some (.sipush 32, 128) := by decide +kernel
theorem c_11_128 : aCod 11 128 = some (.if_icmp .eq 148, 131) := by decide +kernel
theorem c_11_131 : aCod 11 131 = some (.aload 1, 132) := by decide +kernel
theorem c_11_132 : aCod 11 132 = some (.iload 3, 133) := by decide +kernel
theorem c_11_133 : aCod 11 133 = some (.iaload, 134) := by decide +kernel
theorem c_11_134 : aCod 11 134 = some (.sipush 10, 136) := by decide +kernel
theorem c_11_136 : aCod 11 136 = some (.if_icmp .eq 148, 139) := by decide +kernel
theorem c_11_139 : aCod 11 139 = some (.aload 0, 140) := by decide +kernel
theorem c_11_140 : aCod 11 140 = some (.aload 1, 141) := by decide +kernel
theorem c_11_141 : aCod 11 141 = some (.iload 3, 142) := by decide +kernel
theorem c_11_142 : aCod 11 142 = some (.iaload, 143) := by decide +kernel
theorem c_11_143 : aCod 11 143 = some (.iload 3, 144) := by decide +kernel
theorem c_11_144 : aCod 11 144 = some (.sipush 1, 145) := by decide +kernel
theorem c_11_145 : aCod 11 145 = some (.invokevirtual 12, 148) := by decide +kernel
theorem c_11_148 : aCod 11 148 = some (.iload 5, 150) := by decide +kernel
theorem c_11_150 : aCod 11 150 = some (.istore 3, 151) := by decide +kernel
theorem c_11_151 : aCod 11 151 = some (.goto 10, 154) := by decide +kernel
theorem c_11_154 : aCod 11 154 = some (.aload 0, 155) := by decide +kernel
theorem c_11_155 : aCod 11 155 = some (.sipush 341, 158) := by decide +kernel
theorem c_11_158 : aCod 11 158 = some (.iload 2, 159) := by decide +kernel
theorem c_11_159 : aCod 11 159 = some (.sipush 0, 160) := by decide +kernel
theorem c_11_160 : aCod 11 160 = some (.invokevirtual 12, 163) := by decide +kernel
theorem c_11_163 : aCod 11 163 = some (.return_, 164) := by decide +kernel
theorem c_12_0 : aCod 12 0 = some (.aload 0, 1) := by decide +kernel
theorem c_12_1 : aCod 12 1 = some (.getfield 515, 4) := by decide +kernel
theorem c_12_4 : aCod 12 4 = some (.aload 0, 5) := by decide +kernel
theorem c_12_5 : aCod 12 5 = some (.getfield 512, 8) := by decide +kernel
theorem c_12_8 : aCod 12 8 = some (.arraylength, 9) := by decide +kernel
theorem c_12_9 : aCod 12 9 = some (.if_icmp .ge 52, 12) := by decide +kernel
theorem c_12_12 : aCod 12 12 = some (.aload 0, 13) := by decide +kernel
theorem c_12_13 : aCod 12 13 = some (.getfield 512, 16) := by decide +kernel
theorem c_12_16 : aCod 12 16 = some (.aload 0, 17) := by decide +kernel
theorem c_12_17 : aCod 12 17 = some (.getfield 515, 20) := by decide +kernel
theorem c_12_20 : aCod 12 20 = some (.iload 1, 21) := by decide +kernel
theorem c_12_21 : aCod 12 21 = some (.iastore, 22) := by decide +kernel
theorem c_12_22 : aCod 12 22 = some (.aload 0, 23) := by decide +kernel
theorem c_12_23 : aCod 12 23 = some (.getfield 513, 26) := by decide +kernel
theorem c_12_26 : aCod 12 26 = some (.aload 0, 27) := by decide +kernel
theorem c_12_27 : aCod 12 27 = some (.getfield 515, 30) := by decide +kernel
theorem c_12_30 : aCod 12 30 = some (.iload 2, 31) := by decide +kernel
theorem c_12_31 : aCod 12 31 = some (.iastore, 32) := by decide +kernel
theorem c_12_32 : aCod 12 32 = some (.aload 0, 33) := by decide +kernel
theorem c_12_33 : aCod 12 33 = some (.getfield 514, 36) := by decide +kernel
theorem c_12_36 : aCod 12 36 = some (.aload 0, 37) := by decide +kernel
theorem c_12_37 : aCod 12 37 = some (.getfield 515, 40) := by decide +kernel
theorem c_12_40 : aCod 12 40 = some (.iload 3, 41) := by decide +kernel
theorem c_12_41 : aCod 12 41 = some (.iastore, 42) := by decide +kernel
theorem c_12_42 : aCod 12 42 = some (.aload 0, 43) := by decide +kernel
theorem c_12_43 : aCod 12 43 = some (.dup, 44) := by decide +kernel
theorem c_12_44 : aCod 12 44 = some (.getfield 515, 47) := by decide +kernel
theorem c_12_47 : aCod 12 47 = some (.sipush 1, 48) := by decide +kernel
theorem c_12_48 : aCod 12 48 = some (.iadd, 49) := by decide +kernel
theorem c_12_49 : aCod 12 49 = some (.putfield 515, 52) := by decide +kernel
theorem c_12_52 : aCod 12 52 = some (.return_, 53) := by decide +kernel
theorem c_13_0 : aCod 13 0 = some (.iload 0, 1) := by decide +kernel
theorem c_13_1 : aCod 13 1 = some (.sipush 97, 3) := by decide +kernel
theorem c_13_3 : aCod 13 3 = some (.if_icmp .lt 16, 6) := by decide +kernel
theorem c_13_6 : aCod 13 6 = some (.iload 0, 7) := by decide +kernel
theorem c_13_7 : aCod 13 7 = some (.sipush 122, 9) := by decide +kernel
theorem c_13_9 : aCod 13 9 = some (.if_icmp .gt 16, 12) := by decide +kernel
theorem c_13_12 : aCod 13 12 = some (.sipush 1, 13) := by decide +kernel
theorem c_13_13 : aCod 13 13 = some (.goto 17, 16) := by decide +kernel
theorem c_13_16 : aCod 13 16 = some (.sipush 0, 17) := by decide +kernel
theorem c_13_17 : aCod 13 17 = some (.ireturn, 18) := by decide +kernel
theorem c_14_0 : aCod 14 0 = some (.iload 0, 1) := by decide +kernel
theorem c_14_1 : aCod 14 1 = some (.sipush 48, 3) := by decide +kernel
theorem c_14_3 : aCod 14 3 = some (.if_icmp .lt 16, 6) := by decide +kernel
theorem c_14_6 : aCod 14 6 = some (.iload 0, 7) := by decide +kernel
theorem c_14_7 : aCod 14 7 = some (.sipush 57, 9) := by decide +kernel
theorem c_14_9 : aCod 14 9 = some (.if_icmp .gt 16, 12) := by decide +kernel
theorem c_14_12 : aCod 14 12 = some (.sipush 1, 13) := by decide +kernel
theorem c_14_13 : aCod 14 13 = some (.goto 17, 16) := by decide +kernel
theorem c_14_16 : aCod 14 16 = some (.sipush 0, 17) := by decide +kernel
theorem c_14_17 : aCod 14 17 = some (.ireturn, 18) := by decide +kernel
theorem c_15_0 : aCod 15 0 = some (.iload 1, 1) := by decide +kernel
theorem c_15_1 : aCod 15 1 = some (.istore 3, 2) := by decide +kernel
theorem c_15_2 : aCod 15 2 = some (.iload 3, 3) := by decide +kernel
theorem c_15_3 : aCod 15 3 = some (.iload 2, 4) := by decide +kernel
theorem c_15_4 : aCod 15 4 = some (.if_icmp .ge 22, 7) := by decide +kernel
theorem c_15_7 : aCod 15 7 = some (.aload 0, 8) := by decide +kernel
theorem c_15_8 : aCod 15 8 = some (.iload 3, 9) := by decide +kernel
theorem c_15_9 : aCod 15 9 = some (.iaload, 10) := by decide +kernel
theorem c_15_10 : aCod 15 10 = some (.invokestatic 13, 13) := by decide +kernel
theorem c_15_13 : aCod 15 13 = some (.ifCond .eq 22, 16) := by decide +kernel
theorem c_15_16 : aCod 15 16 = some (.iinc 3 1, 19) := by decide +kernel
theorem c_15_19 : aCod 15 19 = some (.goto 2, 22) := by decide +kernel
theorem c_15_22 : aCod 15 22 = some (.iload 3, 23) := by decide +kernel
theorem c_15_23 : aCod 15 23 = some (.ireturn, 24) := by decide +kernel
theorem c_16_0 : aCod 16 0 = some (.iload 1, 1) := by decide +kernel
theorem c_16_1 : aCod 16 1 = some (.istore 3, 2) := by decide +kernel
theorem c_16_2 : aCod 16 2 = some (.iload 3, 3) := by decide +kernel
theorem c_16_3 : aCod 16 3 = some (.iload 2, 4) := by decide +kernel
theorem c_16_4 : aCod 16 4 = some (.if_icmp .ge 22, 7) := by decide +kernel
theorem c_16_7 : aCod 16 7 = some (.aload 0, 8) := by decide +kernel
theorem c_16_8 : aCod 16 8 = some (.iload 3, 9) := by decide +kernel
theorem c_16_9 : aCod 16 9 = some (.iaload, 10) := by decide +kernel
theorem c_16_10 : aCod 16 10 = some (.invokestatic 14, 13) := by decide +kernel
theorem c_16_13 : aCod 16 13 = some (.ifCond .eq 22, 16) := by decide +kernel
theorem c_16_16 : aCod 16 16 = some (.iinc 3 1, 19) := by decide +kernel
theorem c_16_19 : aCod 16 19 = some (.goto 2, 22) := by decide +kernel
theorem c_16_22 : aCod 16 22 = some (.iload 3, 23) := by decide +kernel
theorem c_16_23 : aCod 16 23 = some (.ireturn, 24) := by decide +kernel
theorem c_17_0 : aCod 17 0 = some (.sipush 0, 1) := by decide +kernel
theorem c_17_1 : aCod 17 1 = some (.istore 3, 2) := by decide +kernel
theorem c_17_2 : aCod 17 2 = some (.iload 2, 3) := by decide +kernel
theorem c_17_3 : aCod 17 3 = some (.iload 1, 4) := by decide +kernel
theorem c_17_4 : aCod 17 4 = some (.isub, 5) := by decide +kernel
theorem c_17_5 : aCod 17 5 = some (.sipush 4, 6) := by decide +kernel
theorem c_17_6 : aCod 17 6 = some (.if_icmp .le 11, 9) := by decide +kernel
theorem c_17_9 : aCod 17 9 = some (.sipush (-1), 10) := by decide +kernel
theorem c_17_10 : aCod 17 10 = some (.ireturn, 11) := by decide +kernel
theorem c_17_11 : aCod 17 11 = some (.iload 1, 12) := by decide +kernel
theorem c_17_12 : aCod 17 12 = some (.istore 4, 14) := by decide +kernel
theorem c_17_14 : aCod 17 14 = some (.iload 4, 16) := by decide +kernel
theorem c_17_16 : aCod 17 16 = some (.iload 2, 17) := by decide +kernel
theorem c_17_17 : aCod 17 17 = some (.if_icmp .ge 39, 20) := by decide +kernel
theorem c_17_20 : aCod 17 20 = some (.sipush 10, 22) := by decide +kernel
theorem c_17_22 : aCod 17 22 = some (.iload 3, 23) := by decide +kernel
theorem c_17_23 : aCod 17 23 = some (.imul, 24) := by decide +kernel
theorem c_17_24 : aCod 17 24 = some (.aload 0, 25) := by decide +kernel
theorem c_17_25 : aCod 17 25 = some (.iload 4, 27) := by decide +kernel
theorem c_17_27 : aCod 17 27 = some (.iaload, 28) := by decide +kernel
theorem c_17_28 : aCod 17 28 = some (.iadd, 29) := by decide +kernel
theorem c_17_29 : aCod 17 29 = some (.sipush 48, 31) := by decide +kernel
theorem c_17_31 : aCod 17 31 = some (.isub, 32) := by decide +kernel
theorem c_17_32 : aCod 17 32 = some (.istore 3, 33) := by decide +kernel
theorem c_17_33 : aCod 17 33 = some (.iinc 4 1, 36) := by decide +kernel
theorem c_17_36 : aCod 17 36 = some (.goto 14, 39) := by decide +kernel
theorem c_17_39 : aCod 17 39 = some (.iload 3, 40) := by decide +kernel
theorem c_17_40 : aCod 17 40 = some (.ireturn, 41) := by decide +kernel
theorem c_18_0 : aCod 18 0 = some (.sipush 300, 3) := by decide +kernel
theorem c_18_3 : aCod 18 3 = some (.istore 3, 4) := by decide +kernel
theorem c_18_4 : aCod 18 4 = some (.sipush 0, 5) := by decide +kernel
theorem c_18_5 : aCod 18 5 = some (.istore 4, 7) := by decide +kernel
theorem c_18_7 : aCod 18 7 = some (.iload 4, 9) := by decide +kernel
theorem c_18_9 : aCod 18 9 = some (.ldc 0, 11) := by decide +kernel
theorem c_18_11 : aCod 18 11 = some (.invokeinterface 4 0, 14) := by decide +kernel
theorem c_18_14 : aCod 18 14 = some (.if_icmp .ge 141, 17) := by decide +kernel
theorem c_18_17 : aCod 18 17 = some (.sipush 0, 18) := by decide +kernel
theorem c_18_18 : aCod 18 18 = some (.istore 5, 20) := by decide +kernel
theorem c_18_20 : aCod 18 20 = some (.iload 4, 22) := by decide +kernel
theorem c_18_22 : aCod 18 22 = some (.iload 5, 24) := by decide +kernel
theorem c_18_24 : aCod 18 24 = some (.iadd, 25) := by decide +kernel
theorem c_18_25 : aCod 18 25 = some (.ldc 0, 27) := by decide +kernel
theorem c_18_27 : aCod 18 27 = some (.invokeinterface 4 0, 30) := by decide +kernel
theorem c_18_30 : aCod 18 30 = some (.if_icmp .ge 66, 33) := by decide +kernel
theorem c_18_33 : aCod 18 33 = some (.iload 1, 34) := by decide +kernel
theorem c_18_34 : aCod 18 34 = some (.iload 5, 36) := by decide +kernel
theorem c_18_36 : aCod 18 36 = some (.iadd, 37) := by decide +kernel
theorem c_18_37 : aCod 18 37 = some (.iload 2, 38) := by decide +kernel
theorem c_18_38 : aCod 18 38 = some (.if_icmp .ge 66, 41) := by decide +kernel
theorem c_18_41 : aCod 18 41 = some (.ldc 0, 43) := by decide +kernel
theorem c_18_43 : aCod 18 43 = some (.iload 4, 45) := by decide +kernel
theorem c_18_45 : aCod 18 45 = some (.iload 5, 47) := by decide +kernel
theorem c_18_47 : aCod 18 47 = some (.iadd, 48) := by decide +kernel
theorem c_18_48 : aCod 18 48 = some (.invokeinterface 5 0, 51) := by decide +kernel
theorem c_18_51 : aCod 18 51 = some (.aload 0, 52) := by decide +kernel
theorem c_18_52 : aCod 18 52 = some (.iload 1, 53) := by decide +kernel
theorem c_18_53 : aCod 18 53 = some (.iload 5, 55) := by decide +kernel
theorem c_18_55 : aCod 18 55 = some (.iadd, 56) := by decide +kernel
theorem c_18_56 : aCod 18 56 = some (.iaload, 57) := by decide +kernel
theorem c_18_57 : aCod 18 57 = some (.if_icmp .ne 66, 60) := by decide +kernel
theorem c_18_60 : aCod 18 60 = some (.iinc 5 1, 63) := by decide +kernel
theorem c_18_63 : aCod 18 63 = some (.goto 20, 66) := by decide +kernel
theorem c_18_66 : aCod 18 66 = some (.iload 1, 67) := by decide +kernel
theorem c_18_67 : aCod 18 67 = some (.iload 5, 69) := by decide +kernel
theorem c_18_69 : aCod 18 69 = some (.iadd, 70) := by decide +kernel
theorem c_18_70 : aCod 18 70 = some (.iload 2, 71) := by decide +kernel
theorem c_18_71 : aCod 18 71 = some (.if_icmp .ne 104, 74) := by decide +kernel
theorem c_18_74 : aCod 18 74 = some (.iload 4, 76) := by decide +kernel
theorem c_18_76 : aCod 18 76 = some (.iload 5, 78) := by decide +kernel
theorem c_18_78 : aCod 18 78 = some (.iadd, 79) := by decide +kernel
theorem c_18_79 : aCod 18 79 = some (.ldc 0, 81) := by decide +kernel
theorem c_18_81 : aCod 18 81 = some (.invokeinterface 4 0, 84) := by decide +kernel
theorem c_18_84 : aCod 18 84 = some (.if_icmp .ge 104, 87) := by decide +kernel
theorem c_18_87 : aCod 18 87 = some (.ldc 0, 89) := by decide +kernel
theorem c_18_89 : aCod 18 89 = some (.iload 4, 91) := by decide +kernel
theorem c_18_91 : aCod 18 91 = some (.iload 5, 93) := by decide +kernel
theorem c_18_93 : aCod 18 93 = some (.iadd, 94) := by decide +kernel
theorem c_18_94 : aCod 18 94 = some (.invokeinterface 5 0, 97) := by decide +kernel
theorem c_18_97 : aCod 18 97 = some (.sipush 32, 99) := by decide +kernel
theorem c_18_99 : aCod 18 99 = some (.if_icmp .ne 104, 102) := by decide +kernel
theorem c_18_102 : aCod 18 102 = some (.iload 3, 103) := by decide +kernel
theorem c_18_103 : aCod 18 103 = some (.ireturn, 104) := by decide +kernel
theorem c_18_104 : aCod 18 104 = some (.iload 4, 106) := by decide +kernel
theorem c_18_106 : aCod 18 106 = some (.ldc 0, 108) := by decide +kernel
theorem c_18_108 : aCod 18 108 = some (.invokeinterface 4 0, 111) := by decide +kernel
theorem c_18_111 : aCod 18 111 = some (.if_icmp .ge 132, 114) := by decide +kernel
theorem c_18_114 : aCod 18 114 = some (.ldc 0, 116) := by decide +kernel
theorem c_18_116 : aCod 18 116 = some (.iload 4, 118) := by decide +kernel
theorem c_18_118 : aCod 18 118 = some (.invokeinterface 5 0, 121) := by decide +kernel
theorem c_18_121 : aCod 18 121 = some (.sipush 32, 123) := by decide +kernel
theorem c_18_123 : aCod 18 123 = some (.if_icmp .eq 132, 126) := by decide +kernel
theorem c_18_126 : aCod 18 126 = some (.iinc 4 1, 129) := by decide +kernel
theorem c_18_129 : aCod 18 129 = some (.goto 104, 132) := by decide +kernel
theorem c_18_132 : aCod 18 132 = some (.iinc 4 1, 135) := by decide +kernel
theorem c_18_135 : aCod 18 135 = some (.iinc 3 1, 138) := by decide +kernel
theorem c_18_138 : aCod 18 138 = some (.goto 7, 141) := by decide +kernel
theorem c_18_141 : aCod 18 141 = some (.sipush 338, 144) := by decide +kernel
theorem c_18_144 : aCod 18 144 = some (.ireturn, 145) := by decide +kernel
theorem c_19_0 : aCod 19 0 = some (.aload 0, 1) := by decide +kernel
theorem c_19_1 : aCod 19 1 = some (.invokeinterface 0 0, 4) := by decide +kernel
theorem c_19_4 : aCod 19 4 = some (.aload 0, 5) := by decide +kernel
theorem c_19_5 : aCod 19 5 = some (.new 2, 8) := by decide +kernel
theorem c_19_8 : aCod 19 8 = some (.dup, 9) := by decide +kernel
theorem c_19_9 : aCod 19 9 = some (.invokespecial 10, 12) := by decide +kernel
theorem c_19_12 : aCod 19 12 = some (.putfield 769, 15) := by decide +kernel
theorem c_19_15 : aCod 19 15 = some (.aload 0, 16) := by decide +kernel
theorem c_19_16 : aCod 19 16 = some (.sipush 6, 18) := by decide +kernel
theorem c_19_18 : aCod 19 18 = some (.newarray .int, 20) := by decide +kernel
theorem c_19_20 : aCod 19 20 = some (.putfield 770, 23) := by decide +kernel
theorem c_19_23 : aCod 19 23 = some (.aload 0, 24) := by decide +kernel
theorem c_19_24 : aCod 19 24 = some (.sipush (-1), 25) := by decide +kernel
theorem c_19_25 : aCod 19 25 = some (.putfield 776, 28) := by decide +kernel
theorem c_19_28 : aCod 19 28 = some (.aload 0, 29) := by decide +kernel
theorem c_19_29 : aCod 19 29 = some (.aload 1, 30) := by decide +kernel
theorem c_19_30 : aCod 19 30 = some (.putfield 768, 33) := by decide +kernel
theorem c_19_33 : aCod 19 33 = some (.return_, 34) := by decide +kernel
theorem c_20_0 : aCod 20 0 = some (.aload 0, 1) := by decide +kernel
theorem c_20_1 : aCod 20 1 = some (.getfield 769, 4) := by decide +kernel
theorem c_20_4 : aCod 20 4 = some (.aload 0, 5) := by decide +kernel
theorem c_20_5 : aCod 20 5 = some (.getfield 768, 8) := by decide +kernel
theorem c_20_8 : aCod 20 8 = some (.iload 1, 9) := by decide +kernel
theorem c_20_9 : aCod 20 9 = some (.invokevirtual 11, 12) := by decide +kernel
theorem c_20_12 : aCod 20 12 = some (.aload 0, 13) := by decide +kernel
theorem c_20_13 : aCod 20 13 = some (.sipush 0, 14) := by decide +kernel
theorem c_20_14 : aCod 20 14 = some (.putfield 773, 17) := by decide +kernel
theorem c_20_17 : aCod 20 17 = some (.aload 0, 18) := by decide +kernel
theorem c_20_18 : aCod 20 18 = some (.sipush 0, 19) := by decide +kernel
theorem c_20_19 : aCod 20 19 = some (.putfield 774, 22) := by decide +kernel
theorem c_20_22 : aCod 20 22 = some (.aload 0, 23) := by decide +kernel
theorem c_20_23 : aCod 20 23 = some (.sipush 0, 24) := by decide +kernel
theorem c_20_24 : aCod 20 24 = some (.putfield 775, 27) := by decide +kernel
theorem c_20_27 : aCod 20 27 = some (.aload 0, 28) := by decide +kernel
theorem c_20_28 : aCod 20 28 = some (.sipush (-1), 29) := by decide +kernel
theorem c_20_29 : aCod 20 29 = some (.putfield 776, 32) := by decide +kernel
theorem c_20_32 : aCod 20 32 = some (.return_, 33) := by decide +kernel
theorem c_21_0 : aCod 21 0 = some (.aload 0, 1) := by decide +kernel
theorem c_21_1 : aCod 21 1 = some (.getfield 775, 4) := by decide +kernel
theorem c_21_4 : aCod 21 4 = some (.ifCond .ne 21, 7) := by decide +kernel
theorem c_21_7 : aCod 21 7 = some (.aload 0, 8) := by decide +kernel
theorem c_21_8 : aCod 21 8 = some (.invokevirtual 42, 11) := by decide +kernel
theorem c_21_11 : aCod 21 11 = some (.sipush 341, 14) := by decide +kernel
theorem c_21_14 : aCod 21 14 = some (.if_icmp .eq 21, 17) := by decide +kernel
theorem c_21_17 : aCod 21 17 = some (.sipush 1, 18) := by decide +kernel
theorem c_21_18 : aCod 21 18 = some (.goto 22, 21) := by decide +kernel
theorem c_21_21 : aCod 21 21 = some (.sipush 0, 22) := by decide +kernel
theorem c_21_22 : aCod 21 22 = some (.ireturn, 23) := by decide +kernel
theorem c_22_0 : aCod 22 0 = some (.aload 1, 1) := by decide +kernel
theorem c_22_1 : aCod 22 1 = some (.invokevirtual 64, 4) := by decide +kernel
theorem c_22_4 : aCod 22 4 = some (.aload 0, 5) := by decide +kernel
theorem c_22_5 : aCod 22 5 = some (.sipush 300, 8) := by decide +kernel
theorem c_22_8 : aCod 22 8 = some (.invokevirtual 45, 11) := by decide +kernel
theorem c_22_11 : aCod 22 11 = some (.aload 0, 12) := by decide +kernel
theorem c_22_12 : aCod 22 12 = some (.sipush 301, 15) := by decide +kernel
theorem c_22_15 : aCod 22 15 = some (.invokevirtual 45, 18) := by decide +kernel
theorem c_22_18 : aCod 22 18 = some (.aload 1, 19) := by decide +kernel
theorem c_22_19 : aCod 22 19 = some (.aload 0, 20) := by decide +kernel
theorem c_22_20 : aCod 22 20 = some (.sipush 0, 21) := by decide +kernel
theorem c_22_21 : aCod 22 21 = some (.sipush 9999, 24) := by decide +kernel
theorem c_22_24 : aCod 22 24 = some (.invokevirtual 32, 27) := by decide +kernel
theorem c_22_27 : aCod 22 27 = some (.putfield 1538, 30) := by decide +kernel
theorem c_22_30 : aCod 22 30 = some (.aload 0, 31) := by decide +kernel
theorem c_22_31 : aCod 22 31 = some (.sipush 302, 34) := by decide +kernel
theorem c_22_34 : aCod 22 34 = some (.invokevirtual 45, 37) := by decide +kernel
theorem c_22_37 : aCod 22 37 = some (.aload 1, 38) := by decide +kernel
theorem c_22_38 : aCod 22 38 = some (.aload 0, 39) := by decide +kernel
theorem c_22_39 : aCod 22 39 = some (.sipush 0, 40) := by decide +kernel
theorem c_22_40 : aCod 22 40 = some (.sipush 9999, 43) := by decide +kernel
theorem c_22_43 : aCod 22 43 = some (.invokevirtual 32, 46) := by decide +kernel
theorem c_22_46 : aCod 22 46 = some (.putfield 1539, 49) := by decide +kernel
theorem c_22_49 : aCod 22 49 = some (.aload 0, 50) := by decide +kernel
theorem c_22_50 : aCod 22 50 = some (.sipush 303, 53) := by decide +kernel
theorem c_22_53 : aCod 22 53 = some (.invokevirtual 45, 56) := by decide +kernel
theorem c_22_56 : aCod 22 56 = some (.aload 1, 57) := by decide +kernel
theorem c_22_57 : aCod 22 57 = some (.aload 0, 58) := by decide +kernel
theorem c_22_58 : aCod 22 58 = some (.sipush 1, 59) := by decide +kernel
theorem c_22_59 : aCod 22 59 = some (.aload 1, 60) := by decide +kernel
theorem c_22_60 : aCod 22 60 = some (.getfield 1538, 63) := by decide +kernel
theorem c_22_63 : aCod 22 63 = some (.invokeinterface 1 0, 66) := by decide +kernel
theorem c_22_66 : aCod 22 66 = some (.sipush 9999, 69) := by decide +kernel
theorem c_22_69 : aCod 22 69 = some (.invokevirtual 32, 72) := by decide +kernel
theorem c_22_72 : aCod 22 72 = some (.putfield 1537, 75) := by decide +kernel
theorem c_22_75 : aCod 22 75 = some (.aload 0, 76) := by decide +kernel
theorem c_22_76 : aCod 22 76 = some (.sipush 59, 78) := by decide +kernel
theorem c_22_78 : aCod 22 78 = some (.invokevirtual 45, 81) := by decide +kernel
theorem c_22_81 : aCod 22 81 = some (.aload 1, 82) := by decide +kernel
theorem c_22_82 : aCod 22 82 = some (.sipush 1, 83) := by decide +kernel
theorem c_22_83 : aCod 22 83 = some (.putfield 1536, 86) := by decide +kernel
theorem c_22_86 : aCod 22 86 = some (.return_, 87) := by decide +kernel
theorem c_23_0 : aCod 23 0 = some (.aload 0, 1) := by decide +kernel
theorem c_23_1 : aCod 23 1 = some (.invokevirtual 42, 4) := by decide +kernel
theorem c_23_4 : aCod 23 4 = some (.istore 3, 5) := by decide +kernel
theorem c_23_5 : aCod 23 5 = some (.iload 2, 6) := by decide +kernel
theorem c_23_6 : aCod 23 6 = some (.sipush 70, 8) := by decide +kernel
theorem c_23_8 : aCod 23 8 = some (.if_icmp .lt 21, 11) := by decide +kernel
theorem c_23_11 : aCod 23 11 = some (.aload 0, 12) := by decide +kernel
theorem c_23_12 : aCod 23 12 = some (.sipush 5, 13) := by decide +kernel
theorem c_23_13 : aCod 23 13 = some (.aload 0, 14) := by decide +kernel
theorem c_23_14 : aCod 23 14 = some (.invokevirtual 43, 17) := by decide +kernel
theorem c_23_17 : aCod 23 17 = some (.invokevirtual 46, 20) := by decide +kernel
theorem c_23_20 : aCod 23 20 = some (.return_, 21) := by decide +kernel
theorem c_23_21 : aCod 23 21 = some (.iload 3, 22) := by decide +kernel
theorem c_23_22 : aCod 23 22 = some (.tableswitch 229 304 318 #[96, 229, 104, 229, 112, 229, 229, 229, 229, 120, 132, 144, 156, 180, 205], 96) := by decide +kernel
theorem c_23_96 : aCod 23 96 = some (.aload 0, 97) := by decide +kernel
theorem c_23_97 : aCod 23 97 = some (.aload 1, 98) := by decide +kernel
theorem c_23_98 : aCod 23 98 = some (.invokevirtual 25, 101) := by decide +kernel
theorem c_23_101 : aCod 23 101 = some (.goto 238, 104) := by decide +kernel
theorem c_23_104 : aCod 23 104 = some (.aload 0, 105) := by decide +kernel
theorem c_23_105 : aCod 23 105 = some (.aload 1, 106) := by decide +kernel
theorem c_23_106 : aCod 23 106 = some (.invokevirtual 26, 109) := by decide +kernel
theorem c_23_109 : aCod 23 109 = some (.goto 238, 112) := by decide +kernel
theorem c_23_112 : aCod 23 112 = some (.aload 0, 113) := by decide +kernel
theorem c_23_113 : aCod 23 113 = some (.aload 1, 114) := by decide +kernel
theorem c_23_114 : aCod 23 114 = some (.invokevirtual 27, 117) := by decide +kernel
theorem c_23_117 : aCod 23 117 = some (.goto 238, 120) := by decide +kernel
theorem c_23_120 : aCod 23 120 = some (.aload 0, 121) := by decide +kernel
theorem c_23_121 : aCod 23 121 = some (.aload 1, 122) := by decide +kernel
theorem c_23_122 : aCod 23 122 = some (.getfield 1549, 125) := by decide +kernel
theorem c_23_125 : aCod 23 125 = some (.sipush 0, 126) := by decide +kernel
theorem c_23_126 : aCod 23 126 = some (.invokevirtual 28, 129) := by decide +kernel
theorem c_23_129 : aCod 23 129 = some (.goto 238, 132) := by decide +kernel
theorem c_23_132 : aCod 23 132 = some (.aload 0, 133) := by decide +kernel
theorem c_23_133 : aCod 23 133 = some (.aload 1, 134) := by decide +kernel
theorem c_23_134 : aCod 23 134 = some (.getfield 1549, 137) := by decide +kernel
theorem c_23_137 : aCod 23 137 = some (.sipush 1, 138) := by decide +kernel
theorem c_23_138 : aCod 23 138 = some (.invokevirtual 28, 141) := by decide +kernel
theorem c_23_141 : aCod 23 141 = some (.goto 238, 144) := by decide +kernel
theorem c_23_144 : aCod 23 144 = some (.aload 0, 145) := by decide +kernel
theorem c_23_145 : aCod 23 145 = some (.aload 1, 146) := by decide +kernel
theorem c_23_146 : aCod 23 146 = some (.getfield 1549, 149) := by decide +kernel
theorem c_23_149 : aCod 23 149 = some (.sipush 2, 150) := by decide +kernel
theorem c_23_150 : aCod 23 150 = some (.invokevirtual 28, 153) := by decide +kernel
theorem c_23_153 : aCod 23 153 = some (.goto 238, 156) := by decide +kernel
theorem c_23_156 : aCod 23 156 = some (.aload 0, 157) := by decide +kernel
theorem c_23_157 : aCod 23 157 = some (.dup, 158) := by decide +kernel
theorem c_23_158 : aCod 23 158 = some (.getfield 773, 161) := by decide +kernel
theorem c_23_161 : aCod 23 161 = some (.sipush 1, 162) := by decide +kernel
theorem c_23_162 : aCod 23 162 = some (.iadd, 163) := by decide +kernel
theorem c_23_163 : aCod 23 163 = some (.putfield 773, 166) := by decide +kernel
theorem c_23_166 : aCod 23 166 = some (.aload 1, 167) := by decide +kernel
theorem c_23_167 : aCod 23 167 = some (.aload 0, 168) := by decide +kernel
theorem c_23_168 : aCod 23 168 = some (.sipush 0, 169) := by decide +kernel
theorem c_23_169 : aCod 23 169 = some (.sipush 100, 171) := by decide +kernel
theorem c_23_171 : aCod 23 171 = some (.invokevirtual 32, 174) := by decide +kernel
theorem c_23_174 : aCod 23 174 = some (.putfield 1550, 177) := by decide +kernel
theorem c_23_177 : aCod 23 177 = some (.goto 238, 180) := by decide +kernel
theorem c_23_180 : aCod 23 180 = some (.aload 0, 181) := by decide +kernel
theorem c_23_181 : aCod 23 181 = some (.dup, 182) := by decide +kernel
theorem c_23_182 : aCod 23 182 = some (.getfield 773, 185) := by decide +kernel
theorem c_23_185 : aCod 23 185 = some (.sipush 1, 186) := by decide +kernel
theorem c_23_186 : aCod 23 186 = some (.iadd, 187) := by decide +kernel
theorem c_23_187 : aCod 23 187 = some (.putfield 773, 190) := by decide +kernel
theorem c_23_190 : aCod 23 190 = some (.aload 1, 191) := by decide +kernel
theorem c_23_191 : aCod 23 191 = some (.aload 0, 192) := by decide +kernel
theorem c_23_192 : aCod 23 192 = some (.sipush 0, 193) := by decide +kernel
theorem c_23_193 : aCod 23 193 = some (.sipush 9999, 196) := by decide +kernel
theorem c_23_196 : aCod 23 196 = some (.invokevirtual 32, 199) := by decide +kernel
theorem c_23_199 : aCod 23 199 = some (.putfield 1551, 202) := by decide +kernel
theorem c_23_202 : aCod 23 202 = some (.goto 238, 205) := by decide +kernel
theorem c_23_205 : aCod 23 205 = some (.aload 0, 206) := by decide +kernel
theorem c_23_206 : aCod 23 206 = some (.dup, 207) := by decide +kernel
theorem c_23_207 : aCod 23 207 = some (.getfield 773, 210) := by decide +kernel
theorem c_23_210 : aCod 23 210 = some (.sipush 1, 211) := by decide +kernel
theorem c_23_211 : aCod 23 211 = some (.iadd, 212) := by decide +kernel
theorem c_23_212 : aCod 23 212 = some (.putfield 773, 215) := by decide +kernel
theorem c_23_215 : aCod 23 215 = some (.aload 1, 216) := by decide +kernel
theorem c_23_216 : aCod 23 216 = some (.aload 0, 217) := by decide +kernel
theorem c_23_217 : aCod 23 217 = some (.sipush 0, 218) := by decide +kernel
theorem c_23_218 : aCod 23 218 = some (.sipush 100, 220) := by decide +kernel
theorem c_23_220 : aCod 23 220 = some (.invokevirtual 32, 223) := by decide +kernel
theorem c_23_223 : aCod 23 223 = some (.putfield 1552, 226) := by decide +kernel
theorem c_23_226 : aCod 23 226 = some (.goto 238, 229) := by decide +kernel
theorem c_23_229 : aCod 23 229 = some (.aload 0, 230) := by decide +kernel
theorem c_23_230 : aCod 23 230 = some (.sipush 1, 231) := by decide +kernel
theorem c_23_231 : aCod 23 231 = some (.aload 0, 232) := by decide +kernel
theorem c_23_232 : aCod 23 232 = some (.invokevirtual 43, 235) := by decide +kernel
theorem c_23_235 : aCod 23 235 = some (.invokevirtual 46, 238) := by decide +kernel
theorem c_23_238 : aCod 23 238 = some (.aload 0, 239) := by decide +kernel
theorem c_23_239 : aCod 23 239 = some (.sipush 59, 241) := by decide +kernel
theorem c_23_241 : aCod 23 241 = some (.invokevirtual 45, 244) := by decide +kernel
theorem c_23_244 : aCod 23 244 = some (.return_, 245) := by decide +kernel
theorem c_24_0 : aCod 24 0 = some (.aload 0, 1) := by decide +kernel
theorem c_24_1 : aCod 24 1 = some (.invokevirtual 42, 4) := by decide +kernel
theorem c_24_4 : aCod 24 4 = some (.istore 2, 5) := by decide +kernel
theorem c_24_5 : aCod 24 5 = some (.aload 1, 6) := by decide +kernel
theorem c_24_6 : aCod 24 6 = some (.invokevirtual 72, 9) := by decide +kernel
theorem c_24_9 : aCod 24 9 = some (.aload 0, 10) := by decide +kernel
theorem c_24_10 : aCod 24 10 = some (.aload 1, 11) := by decide +kernel
theorem c_24_11 : aCod 24 11 = some (.putfield 771, 14) := by decide +kernel
theorem c_24_14 : aCod 24 14 = some (.aload 0, 15) := by decide +kernel
theorem c_24_15 : aCod 24 15 = some (.sipush 3, 16) := by decide +kernel
theorem c_24_16 : aCod 24 16 = some (.putfield 772, 19) := by decide +kernel
theorem c_24_19 : aCod 24 19 = some (.aload 0, 20) := by decide +kernel
theorem c_24_20 : aCod 24 20 = some (.getfield 771, 23) := by decide +kernel
theorem c_24_23 : aCod 24 23 = some (.getfield 1793, 26) := by decide +kernel
theorem c_24_26 : aCod 24 26 = some (.aload 0, 27) := by decide +kernel
theorem c_24_27 : aCod 24 27 = some (.getfield 772, 30) := by decide +kernel
theorem c_24_30 : aCod 24 30 = some (.sipush 0, 31) := by decide +kernel
theorem c_24_31 : aCod 24 31 = some (.iastore, 32) := by decide +kernel
theorem c_24_32 : aCod 24 32 = some (.iload 2, 33) := by decide +kernel
theorem c_24_33 : aCod 24 33 = some (.tableswitch 106 332 337 #[72, 72, 72, 89, 89, 89], 72) := by decide +kernel
theorem c_24_72 : aCod 24 72 = some (.aload 0, 73) := by decide +kernel
theorem c_24_73 : aCod 24 73 = some (.dup, 74) := by decide +kernel
theorem c_24_74 : aCod 24 74 = some (.getfield 773, 77) := by decide +kernel
theorem c_24_77 : aCod 24 77 = some (.sipush 1, 78) := by decide +kernel
theorem c_24_78 : aCod 24 78 = some (.iadd, 79) := by decide +kernel
theorem c_24_79 : aCod 24 79 = some (.putfield 773, 82) := by decide +kernel
theorem c_24_82 : aCod 24 82 = some (.aload 0, 83) := by decide +kernel
theorem c_24_83 : aCod 24 83 = some (.invokevirtual 33, 86) := by decide +kernel
theorem c_24_86 : aCod 24 86 = some (.goto 115, 89) := by decide +kernel
theorem c_24_89 : aCod 24 89 = some (.aload 0, 90) := by decide +kernel
theorem c_24_90 : aCod 24 90 = some (.dup, 91) := by decide +kernel
theorem c_24_91 : aCod 24 91 = some (.getfield 773, 94) := by decide +kernel
theorem c_24_94 : aCod 24 94 = some (.sipush 1, 95) := by decide +kernel
theorem c_24_95 : aCod 24 95 = some (.iadd, 96) := by decide +kernel
theorem c_24_96 : aCod 24 96 = some (.putfield 773, 99) := by decide +kernel
theorem c_24_99 : aCod 24 99 = some (.aload 0, 100) := by decide +kernel
theorem c_24_100 : aCod 24 100 = some (.invokevirtual 36, 103) := by decide +kernel
theorem c_24_103 : aCod 24 103 = some (.goto 115, 106) := by decide +kernel
theorem c_24_106 : aCod 24 106 = some (.aload 0, 107) := by decide +kernel
theorem c_24_107 : aCod 24 107 = some (.sipush 1, 108) := by decide +kernel
theorem c_24_108 : aCod 24 108 = some (.aload 0, 109) := by decide +kernel
theorem c_24_109 : aCod 24 109 = some (.invokevirtual 43, 112) := by decide +kernel
theorem c_24_112 : aCod 24 112 = some (.invokevirtual 46, 115) := by decide +kernel
theorem c_24_115 : aCod 24 115 = some (.aload 0, 116) := by decide +kernel
theorem c_24_116 : aCod 24 116 = some (.getfield 771, 119) := by decide +kernel
theorem c_24_119 : aCod 24 119 = some (.getfield 1794, 122) := by decide +kernel
theorem c_24_122 : aCod 24 122 = some (.aload 0, 123) := by decide +kernel
theorem c_24_123 : aCod 24 123 = some (.getfield 772, 126) := by decide +kernel
theorem c_24_126 : aCod 24 126 = some (.aload 0, 127) := by decide +kernel
theorem c_24_127 : aCod 24 127 = some (.getfield 771, 130) := by decide +kernel
theorem c_24_130 : aCod 24 130 = some (.getfield 1795, 133) := by decide +kernel
theorem c_24_133 : aCod 24 133 = some (.iastore, 134) := by decide +kernel
theorem c_24_134 : aCod 24 134 = some (.aload 0, 135) := by decide +kernel
theorem c_24_135 : aCod 24 135 = some (.sipush 341, 138) := by decide +kernel
theorem c_24_138 : aCod 24 138 = some (.invokevirtual 45, 141) := by decide +kernel
theorem c_24_141 : aCod 24 141 = some (.iload 2, 142) := by decide +kernel
theorem c_24_142 : aCod 24 142 = some (.ireturn, 143) := by decide +kernel
theorem c_25_0 : aCod 25 0 = some (.aload 0, 1) := by decide +kernel
theorem c_25_1 : aCod 25 1 = some (.aload 1, 2) := by decide +kernel
theorem c_25_2 : aCod 25 2 = some (.sipush 0, 3) := by decide +kernel
theorem c_25_3 : aCod 25 3 = some (.invokevirtual 29, 6) := by decide +kernel
theorem c_25_6 : aCod 25 6 = some (.istore 2, 7) := by decide +kernel
theorem c_25_7 : aCod 25 7 = some (.aload 0, 8) := by decide +kernel
theorem c_25_8 : aCod 25 8 = some (.sipush 305, 11) := by decide +kernel
theorem c_25_11 : aCod 25 11 = some (.invokevirtual 45, 14) := by decide +kernel
theorem c_25_14 : aCod 25 14 = some (.aload 0, 15) := by decide +kernel
theorem c_25_15 : aCod 25 15 = some (.sipush 0, 16) := by decide +kernel
theorem c_25_16 : aCod 25 16 = some (.sipush 999, 19) := by decide +kernel
theorem c_25_19 : aCod 25 19 = some (.invokevirtual 32, 22) := by decide +kernel
theorem c_25_22 : aCod 25 22 = some (.istore 3, 23) := by decide +kernel
theorem c_25_23 : aCod 25 23 = some (.aload 0, 24) := by decide +kernel
theorem c_25_24 : aCod 25 24 = some (.sipush 302, 27) := by decide +kernel
theorem c_25_27 : aCod 25 27 = some (.invokevirtual 45, 30) := by decide +kernel
theorem c_25_30 : aCod 25 30 = some (.aload 0, 31) := by decide +kernel
theorem c_25_31 : aCod 25 31 = some (.sipush 0, 32) := by decide +kernel
theorem c_25_32 : aCod 25 32 = some (.sipush 999, 35) := by decide +kernel
theorem c_25_35 : aCod 25 35 = some (.invokevirtual 32, 38) := by decide +kernel
theorem c_25_38 : aCod 25 38 = some (.istore 4, 40) := by decide +kernel
theorem c_25_40 : aCod 25 40 = some (.aload 0, 41) := by decide +kernel
theorem c_25_41 : aCod 25 41 = some (.getfield 775, 44) := by decide +kernel
theorem c_25_44 : aCod 25 44 = some (.ifCond .ne 72, 47) := by decide +kernel
theorem c_25_47 : aCod 25 47 = some (.aload 1, 48) := by decide +kernel
theorem c_25_48 : aCod 25 48 = some (.getfield 1542, 51) := by decide +kernel
theorem c_25_51 : aCod 25 51 = some (.iload 2, 52) := by decide +kernel
theorem c_25_52 : aCod 25 52 = some (.iload 3, 53) := by decide +kernel
theorem c_25_53 : aCod 25 53 = some (.iastore, 54) := by decide +kernel
theorem c_25_54 : aCod 25 54 = some (.aload 1, 55) := by decide +kernel
theorem c_25_55 : aCod 25 55 = some (.getfield 1543, 58) := by decide +kernel
theorem c_25_58 : aCod 25 58 = some (.iload 2, 59) := by decide +kernel
theorem c_25_59 : aCod 25 59 = some (.iload 4, 61) := by decide +kernel
theorem c_25_61 : aCod 25 61 = some (.iastore, 62) := by decide +kernel
theorem c_25_62 : aCod 25 62 = some (.aload 1, 63) := by decide +kernel
theorem c_25_63 : aCod 25 63 = some (.getfield 1540, 66) := by decide +kernel
theorem c_25_66 : aCod 25 66 = some (.sipush 0, 67) := by decide +kernel
theorem c_25_67 : aCod 25 67 = some (.dup2, 68) := by decide +kernel
theorem c_25_68 : aCod 25 68 = some (.iaload, 69) := by decide +kernel
theorem c_25_69 : aCod 25 69 = some (.sipush 1, 70) := by decide +kernel
theorem c_25_70 : aCod 25 70 = some (.iadd, 71) := by decide +kernel
theorem c_25_71 : aCod 25 71 = some (.iastore, 72) := by decide +kernel
theorem c_25_72 : aCod 25 72 = some (.return_, 73) := by decide +kernel
theorem c_26_0 : aCod 26 0 = some (.aload 0, 1) := by decide +kernel
theorem c_26_1 : aCod 26 1 = some (.aload 1, 2) := by decide +kernel
theorem c_26_2 : aCod 26 2 = some (.sipush 1, 3) := by decide +kernel
theorem c_26_3 : aCod 26 3 = some (.invokevirtual 29, 6) := by decide +kernel
theorem c_26_6 : aCod 26 6 = some (.istore 2, 7) := by decide +kernel
theorem c_26_7 : aCod 26 7 = some (.aload 0, 8) := by decide +kernel
theorem c_26_8 : aCod 26 8 = some (.sipush 307, 11) := by decide +kernel
theorem c_26_11 : aCod 26 11 = some (.invokevirtual 45, 14) := by decide +kernel
theorem c_26_14 : aCod 26 14 = some (.aload 0, 15) := by decide +kernel
theorem c_26_15 : aCod 26 15 = some (.sipush 0, 16) := by decide +kernel
theorem c_26_16 : aCod 26 16 = some (.sipush 99, 18) := by decide +kernel
theorem c_26_18 : aCod 26 18 = some (.invokevirtual 32, 21) := by decide +kernel
theorem c_26_21 : aCod 26 21 = some (.istore 3, 22) := by decide +kernel
theorem c_26_22 : aCod 26 22 = some (.aload 0, 23) := by decide +kernel
theorem c_26_23 : aCod 26 23 = some (.getfield 775, 26) := by decide +kernel
theorem c_26_26 : aCod 26 26 = some (.ifCond .ne 46, 29) := by decide +kernel
theorem c_26_29 : aCod 26 29 = some (.aload 1, 30) := by decide +kernel
theorem c_26_30 : aCod 26 30 = some (.getfield 1544, 33) := by decide +kernel
theorem c_26_33 : aCod 26 33 = some (.iload 2, 34) := by decide +kernel
theorem c_26_34 : aCod 26 34 = some (.iload 3, 35) := by decide +kernel
theorem c_26_35 : aCod 26 35 = some (.iastore, 36) := by decide +kernel
theorem c_26_36 : aCod 26 36 = some (.aload 1, 37) := by decide +kernel
theorem c_26_37 : aCod 26 37 = some (.getfield 1540, 40) := by decide +kernel
theorem c_26_40 : aCod 26 40 = some (.sipush 1, 41) := by decide +kernel
theorem c_26_41 : aCod 26 41 = some (.dup2, 42) := by decide +kernel
theorem c_26_42 : aCod 26 42 = some (.iaload, 43) := by decide +kernel
theorem c_26_43 : aCod 26 43 = some (.sipush 1, 44) := by decide +kernel
theorem c_26_44 : aCod 26 44 = some (.iadd, 45) := by decide +kernel
theorem c_26_45 : aCod 26 45 = some (.iastore, 46) := by decide +kernel
theorem c_26_46 : aCod 26 46 = some (.return_, 47) := by decide +kernel
theorem c_27_0 : aCod 27 0 = some (.aload 0, 1) := by decide +kernel
theorem c_27_1 : aCod 27 1 = some (.aload 1, 2) := by decide +kernel
theorem c_27_2 : aCod 27 2 = some (.sipush 2, 3) := by decide +kernel
theorem c_27_3 : aCod 27 3 = some (.invokevirtual 29, 6) := by decide +kernel
theorem c_27_6 : aCod 27 6 = some (.istore 2, 7) := by decide +kernel
theorem c_27_7 : aCod 27 7 = some (.aload 0, 8) := by decide +kernel
theorem c_27_8 : aCod 27 8 = some (.sipush 309, 11) := by decide +kernel
theorem c_27_11 : aCod 27 11 = some (.invokevirtual 45, 14) := by decide +kernel
theorem c_27_14 : aCod 27 14 = some (.aload 0, 15) := by decide +kernel
theorem c_27_15 : aCod 27 15 = some (.aload 1, 16) := by decide +kernel
theorem c_27_16 : aCod 27 16 = some (.invokevirtual 30, 19) := by decide +kernel
theorem c_27_19 : aCod 27 19 = some (.istore 3, 20) := by decide +kernel
theorem c_27_20 : aCod 27 20 = some (.aload 0, 21) := by decide +kernel
theorem c_27_21 : aCod 27 21 = some (.sipush 310, 24) := by decide +kernel
theorem c_27_24 : aCod 27 24 = some (.invokevirtual 45, 27) := by decide +kernel
theorem c_27_27 : aCod 27 27 = some (.aload 0, 28) := by decide +kernel
theorem c_27_28 : aCod 27 28 = some (.sipush 1, 29) := by decide +kernel
theorem c_27_29 : aCod 27 29 = some (.sipush 999, 32) := by decide +kernel
theorem c_27_32 : aCod 27 32 = some (.invokevirtual 32, 35) := by decide +kernel
theorem c_27_35 : aCod 27 35 = some (.istore 4, 37) := by decide +kernel
theorem c_27_37 : aCod 27 37 = some (.aload 0, 38) := by decide +kernel
theorem c_27_38 : aCod 27 38 = some (.sipush 311, 41) := by decide +kernel
theorem c_27_41 : aCod 27 41 = some (.invokevirtual 45, 44) := by decide +kernel
theorem c_27_44 : aCod 27 44 = some (.aload 0, 45) := by decide +kernel
theorem c_27_45 : aCod 27 45 = some (.sipush 0, 46) := by decide +kernel
theorem c_27_46 : aCod 27 46 = some (.sipush 99, 48) := by decide +kernel
theorem c_27_48 : aCod 27 48 = some (.invokevirtual 32, 51) := by decide +kernel
theorem c_27_51 : aCod 27 51 = some (.istore 5, 53) := by decide +kernel
theorem c_27_53 : aCod 27 53 = some (.aload 0, 54) := by decide +kernel
theorem c_27_54 : aCod 27 54 = some (.sipush 312, 57) := by decide +kernel
theorem c_27_57 : aCod 27 57 = some (.invokevirtual 45, 60) := by decide +kernel
theorem c_27_60 : aCod 27 60 = some (.aload 0, 61) := by decide +kernel
theorem c_27_61 : aCod 27 61 = some (.sipush 0, 62) := by decide +kernel
theorem c_27_62 : aCod 27 62 = some (.sipush 99, 64) := by decide +kernel
theorem c_27_64 : aCod 27 64 = some (.invokevirtual 32, 67) := by decide +kernel
theorem c_27_67 : aCod 27 67 = some (.istore 6, 69) := by decide +kernel
theorem c_27_69 : aCod 27 69 = some (.aload 0, 70) := by decide +kernel
theorem c_27_70 : aCod 27 70 = some (.getfield 775, 73) := by decide +kernel
theorem c_27_73 : aCod 27 73 = some (.ifCond .ne 117, 76) := by decide +kernel
theorem c_27_76 : aCod 27 76 = some (.aload 1, 77) := by decide +kernel
theorem c_27_77 : aCod 27 77 = some (.getfield 1545, 80) := by decide +kernel
theorem c_27_80 : aCod 27 80 = some (.iload 2, 81) := by decide +kernel
theorem c_27_81 : aCod 27 81 = some (.iload 3, 82) := by decide +kernel
theorem c_27_82 : aCod 27 82 = some (.iastore, 83) := by decide +kernel
theorem c_27_83 : aCod 27 83 = some (.aload 1, 84) := by decide +kernel
theorem c_27_84 : aCod 27 84 = some (.getfield 1546, 87) := by decide +kernel
theorem c_27_87 : aCod 27 87 = some (.iload 2, 88) := by decide +kernel
theorem c_27_88 : aCod 27 88 = some (.iload 4, 90) := by decide +kernel
theorem c_27_90 : aCod 27 90 = some (.iastore, 91) := by decide +kernel
theorem c_27_91 : aCod 27 91 = some (.aload 1, 92) := by decide +kernel
theorem c_27_92 : aCod 27 92 = some (.getfield 1547, 95) := by decide +kernel
theorem c_27_95 : aCod 27 95 = some (.iload 2, 96) := by decide +kernel
theorem c_27_96 : aCod 27 96 = some (.iload 5, 98) := by decide +kernel
theorem c_27_98 : aCod 27 98 = some (.iastore, 99) := by decide +kernel
theorem c_27_99 : aCod 27 99 = some (.aload 1, 100) := by decide +kernel
theorem c_27_100 : aCod 27 100 = some (.getfield 1548, 103) := by decide +kernel
theorem c_27_103 : aCod 27 103 = some (.iload 2, 104) := by decide +kernel
theorem c_27_104 : aCod 27 104 = some (.iload 6, 106) := by decide +kernel
theorem c_27_106 : aCod 27 106 = some (.iastore, 107) := by decide +kernel
theorem c_27_107 : aCod 27 107 = some (.aload 1, 108) := by decide +kernel
theorem c_27_108 : aCod 27 108 = some (.getfield 1540, 111) := by decide +kernel
theorem c_27_111 : aCod 27 111 = some (.sipush 2, 112) := by decide +kernel
theorem c_27_112 : aCod 27 112 = some (.dup2, 113) := by decide +kernel
theorem c_27_113 : aCod 27 113 = some (.iaload, 114) := by decide +kernel
theorem c_27_114 : aCod 27 114 = some (.sipush 1, 115) := by decide +kernel
theorem c_27_115 : aCod 27 115 = some (.iadd, 116) := by decide +kernel
theorem c_27_116 : aCod 27 116 = some (.iastore, 117) := by decide +kernel
theorem c_27_117 : aCod 27 117 = some (.return_, 118) := by decide +kernel
theorem c_28_0 : aCod 28 0 = some (.aload 1, 1) := by decide +kernel
theorem c_28_1 : aCod 28 1 = some (.iload 2, 2) := by decide +kernel
theorem c_28_2 : aCod 28 2 = some (.invokevirtual 73, 5) := by decide +kernel
theorem c_28_5 : aCod 28 5 = some (.ifCond .eq 18, 8) := by decide +kernel
theorem c_28_8 : aCod 28 8 = some (.aload 0, 9) := by decide +kernel
theorem c_28_9 : aCod 28 9 = some (.sipush 5, 10) := by decide +kernel
theorem c_28_10 : aCod 28 10 = some (.aload 0, 11) := by decide +kernel
theorem c_28_11 : aCod 28 11 = some (.invokevirtual 43, 14) := by decide +kernel
theorem c_28_14 : aCod 28 14 = some (.invokevirtual 46, 17) := by decide +kernel
theorem c_28_17 : aCod 28 17 = some (.return_, 18) := by decide +kernel
theorem c_28_18 : aCod 28 18 = some (.aload 0, 19) := by decide +kernel
theorem c_28_19 : aCod 28 19 = some (.dup, 20) := by decide +kernel
theorem c_28_20 : aCod 28 20 = some (.getfield 773, 23) := by decide +kernel
theorem c_28_23 : aCod 28 23 = some (.sipush 1, 24) := by decide +kernel
theorem c_28_24 : aCod 28 24 = some (.iadd, 25) := by decide +kernel
theorem c_28_25 : aCod 28 25 = some (.putfield 773, 28) := by decide +kernel
theorem c_28_28 : aCod 28 28 = some (.aload 0, 29) := by decide +kernel
theorem c_28_29 : aCod 28 29 = some (.aload 1, 30) := by decide +kernel
theorem c_28_30 : aCod 28 30 = some (.putfield 771, 33) := by decide +kernel
theorem c_28_33 : aCod 28 33 = some (.aload 0, 34) := by decide +kernel
theorem c_28_34 : aCod 28 34 = some (.iload 2, 35) := by decide +kernel
theorem c_28_35 : aCod 28 35 = some (.putfield 772, 38) := by decide +kernel
theorem c_28_38 : aCod 28 38 = some (.aload 0, 39) := by decide +kernel
theorem c_28_39 : aCod 28 39 = some (.getfield 771, 42) := by decide +kernel
theorem c_28_42 : aCod 28 42 = some (.getfield 1793, 45) := by decide +kernel
theorem c_28_45 : aCod 28 45 = some (.aload 0, 46) := by decide +kernel
theorem c_28_46 : aCod 28 46 = some (.getfield 772, 49) := by decide +kernel
theorem c_28_49 : aCod 28 49 = some (.aload 0, 50) := by decide +kernel
theorem c_28_50 : aCod 28 50 = some (.getfield 771, 53) := by decide +kernel
theorem c_28_53 : aCod 28 53 = some (.getfield 1795, 56) := by decide +kernel
theorem c_28_56 : aCod 28 56 = some (.iastore, 57) := by decide +kernel
theorem c_28_57 : aCod 28 57 = some (.iload 2, 58) := by decide +kernel
theorem c_28_58 : aCod 28 58 = some (.sipush 2, 59) := by decide +kernel
theorem c_28_59 : aCod 28 59 = some (.if_icmp .ne 69, 62) := by decide +kernel
theorem c_28_62 : aCod 28 62 = some (.aload 0, 63) := by decide +kernel
theorem c_28_63 : aCod 28 63 = some (.invokevirtual 33, 66) := by decide +kernel
theorem c_28_66 : aCod 28 66 = some (.goto 73, 69) := by decide +kernel
theorem c_28_69 : aCod 28 69 = some (.aload 0, 70) := by decide +kernel
theorem c_28_70 : aCod 28 70 = some (.invokevirtual 36, 73) := by decide +kernel
theorem c_28_73 : aCod 28 73 = some (.aload 0, 74) := by decide +kernel
theorem c_28_74 : aCod 28 74 = some (.getfield 771, 77) := by decide +kernel
theorem c_28_77 : aCod 28 77 = some (.getfield 1794, 80) := by decide +kernel
theorem c_28_80 : aCod 28 80 = some (.aload 0, 81) := by decide +kernel
theorem c_28_81 : aCod 28 81 = some (.getfield 772, 84) := by decide +kernel
theorem c_28_84 : aCod 28 84 = some (.aload 0, 85) := by decide +kernel
theorem c_28_85 : aCod 28 85 = some (.getfield 771, 88) := by decide +kernel
theorem c_28_88 : aCod 28 88 = some (.getfield 1795, 91) := by decide +kernel
theorem c_28_91 : aCod 28 91 = some (.iastore, 92) := by decide +kernel
theorem c_28_92 : aCod 28 92 = some (.return_, 93) := by decide +kernel
theorem c_29_0 : aCod 29 0 = some (.aload 1, 1) := by decide +kernel
theorem c_29_1 : aCod 29 1 = some (.getfield 1540, 4) := by decide +kernel
theorem c_29_4 : aCod 29 4 = some (.iload 2, 5) := by decide +kernel
theorem c_29_5 : aCod 29 5 = some (.iaload, 6) := by decide +kernel
theorem c_29_6 : aCod 29 6 = some (.istore 3, 7) := by decide +kernel
theorem c_29_7 : aCod 29 7 = some (.iload 3, 8) := by decide +kernel
theorem c_29_8 : aCod 29 8 = some (.iload 2, 9) := by decide +kernel
theorem c_29_9 : aCod 29 9 = some (.invokestatic 66, 12) := by decide +kernel
theorem c_29_12 : aCod 29 12 = some (.if_icmp .lt 26, 15) := by decide +kernel
theorem c_29_15 : aCod 29 15 = some (.aload 0, 16) := by decide +kernel
theorem c_29_16 : aCod 29 16 = some (.sipush 5, 17) := by decide +kernel
theorem c_29_17 : aCod 29 17 = some (.aload 0, 18) := by decide +kernel
theorem c_29_18 : aCod 29 18 = some (.invokevirtual 43, 21) := by decide +kernel
theorem c_29_21 : aCod 29 21 = some (.invokevirtual 46, 24) := by decide +kernel
theorem c_29_24 : aCod 29 24 = some (.sipush (-1), 25) := by decide +kernel
theorem c_29_25 : aCod 29 25 = some (.ireturn, 26) := by decide +kernel
theorem c_29_26 : aCod 29 26 = some (.aload 0, 27) := by decide +kernel
theorem c_29_27 : aCod 29 27 = some (.dup, 28) := by decide +kernel
theorem c_29_28 : aCod 29 28 = some (.getfield 773, 31) := by decide +kernel
theorem c_29_31 : aCod 29 31 = some (.sipush 1, 32) := by decide +kernel
theorem c_29_32 : aCod 29 32 = some (.iadd, 33) := by decide +kernel
theorem c_29_33 : aCod 29 33 = some (.putfield 773, 36) := by decide +kernel
theorem c_29_36 : aCod 29 36 = some (.aload 0, 37) := by decide +kernel
theorem c_29_37 : aCod 29 37 = some (.invokevirtual 43, 40) := by decide +kernel
theorem c_29_40 : aCod 29 40 = some (.istore 4, 42) := by decide +kernel
theorem c_29_42 : aCod 29 42 = some (.aload 0, 43) := by decide +kernel
theorem c_29_43 : aCod 29 43 = some (.invokevirtual 31, 46) := by decide +kernel
theorem c_29_46 : aCod 29 46 = some (.aload 0, 47) := by decide +kernel
theorem c_29_47 : aCod 29 47 = some (.getfield 775, 50) := by decide +kernel
theorem c_29_50 : aCod 29 50 = some (.ifCond .ne 71, 53) := by decide +kernel
theorem c_29_53 : aCod 29 53 = some (.aload 1, 54) := by decide +kernel
theorem c_29_54 : aCod 29 54 = some (.aload 0, 55) := by decide +kernel
theorem c_29_55 : aCod 29 55 = some (.getfield 770, 58) := by decide +kernel
theorem c_29_58 : aCod 29 58 = some (.invokevirtual 68, 61) := by decide +kernel
theorem c_29_61 : aCod 29 61 = some (.ifCond .eq 71, 64) := by decide +kernel
theorem c_29_64 : aCod 29 64 = some (.aload 0, 65) := by decide +kernel
theorem c_29_65 : aCod 29 65 = some (.sipush 3, 66) := by decide +kernel
theorem c_29_66 : aCod 29 66 = some (.iload 4, 68) := by decide +kernel
theorem c_29_68 : aCod 29 68 = some (.invokevirtual 46, 71) := by decide +kernel
theorem c_29_71 : aCod 29 71 = some (.sipush 0, 72) := by decide +kernel
theorem c_29_72 : aCod 29 72 = some (.istore 5, 74) := by decide +kernel
theorem c_29_74 : aCod 29 74 = some (.iload 5, 76) := by decide +kernel
theorem c_29_76 : aCod 29 76 = some (.sipush 6, 78) := by decide +kernel
theorem c_29_78 : aCod 29 78 = some (.if_icmp .ge 110, 81) := by decide +kernel
theorem c_29_81 : aCod 29 81 = some (.aload 1, 82) := by decide +kernel
theorem c_29_82 : aCod 29 82 = some (.getfield 1541, 85) := by decide +kernel
theorem c_29_85 : aCod 29 85 = some (.iload 2, 86) := by decide +kernel
theorem c_29_86 : aCod 29 86 = some (.iload 3, 87) := by decide +kernel
theorem c_29_87 : aCod 29 87 = some (.invokestatic 65, 90) := by decide +kernel
theorem c_29_90 : aCod 29 90 = some (.sipush 6, 92) := by decide +kernel
theorem c_29_92 : aCod 29 92 = some (.imul, 93) := by decide +kernel
theorem c_29_93 : aCod 29 93 = some (.iload 5, 95) := by decide +kernel
theorem c_29_95 : aCod 29 95 = some (.iadd, 96) := by decide +kernel
theorem c_29_96 : aCod 29 96 = some (.aload 0, 97) := by decide +kernel
theorem c_29_97 : aCod 29 97 = some (.getfield 770, 100) := by decide +kernel
theorem c_29_100 : aCod 29 100 = some (.iload 5, 102) := by decide +kernel
theorem c_29_102 : aCod 29 102 = some (.iaload, 103) := by decide +kernel
theorem c_29_103 : aCod 29 103 = some (.iastore, 104) := by decide +kernel
theorem c_29_104 : aCod 29 104 = some (.iinc 5 1, 107) := by decide +kernel
theorem c_29_107 : aCod 29 107 = some (.goto 74, 110) := by decide +kernel
theorem c_29_110 : aCod 29 110 = some (.iload 3, 111) := by decide +kernel
theorem c_29_111 : aCod 29 111 = some (.ireturn, 112) := by decide +kernel
theorem c_30_0 : aCod 30 0 = some (.aload 0, 1) := by decide +kernel
theorem c_30_1 : aCod 30 1 = some (.invokevirtual 43, 4) := by decide +kernel
theorem c_30_4 : aCod 30 4 = some (.istore 2, 5) := by decide +kernel
theorem c_30_5 : aCod 30 5 = some (.aload 0, 6) := by decide +kernel
theorem c_30_6 : aCod 30 6 = some (.invokevirtual 31, 9) := by decide +kernel
theorem c_30_9 : aCod 30 9 = some (.aload 1, 10) := by decide +kernel
theorem c_30_10 : aCod 30 10 = some (.sipush 1, 11) := by decide +kernel
theorem c_30_11 : aCod 30 11 = some (.aload 0, 12) := by decide +kernel
theorem c_30_12 : aCod 30 12 = some (.getfield 770, 15) := by decide +kernel
theorem c_30_15 : aCod 30 15 = some (.invokevirtual 67, 18) := by decide +kernel
theorem c_30_18 : aCod 30 18 = some (.istore 3, 19) := by decide +kernel
theorem c_30_19 : aCod 30 19 = some (.iload 3, 20) := by decide +kernel
theorem c_30_20 : aCod 30 20 = some (.sipush (-1), 21) := by decide +kernel
theorem c_30_21 : aCod 30 21 = some (.if_icmp .ne 30, 24) := by decide +kernel
theorem c_30_24 : aCod 30 24 = some (.aload 0, 25) := by decide +kernel
theorem c_30_25 : aCod 30 25 = some (.sipush 3, 26) := by decide +kernel
theorem c_30_26 : aCod 30 26 = some (.iload 2, 27) := by decide +kernel
theorem c_30_27 : aCod 30 27 = some (.invokevirtual 46, 30) := by decide +kernel
theorem c_30_30 : aCod 30 30 = some (.iload 3, 31) := by decide +kernel
theorem c_30_31 : aCod 30 31 = some (.ireturn, 32) := by decide +kernel
theorem c_31_0 : aCod 31 0 = some (.aload 0, 1) := by decide +kernel
theorem c_31_1 : aCod 31 1 = some (.invokevirtual 42, 4) := by decide +kernel
theorem c_31_4 : aCod 31 4 = some (.istore 1, 5) := by decide +kernel
theorem c_31_5 : aCod 31 5 = some (.aload 0, 6) := by decide +kernel
theorem c_31_6 : aCod 31 6 = some (.invokevirtual 43, 9) := by decide +kernel
theorem c_31_9 : aCod 31 9 = some (.istore 2, 10) := by decide +kernel
theorem c_31_10 : aCod 31 10 = some (.aload 0, 11) := by decide +kernel
theorem c_31_11 : aCod 31 11 = some (.invokevirtual 44, 14) := by decide +kernel
theorem c_31_14 : aCod 31 14 = some (.istore 3, 15) := by decide +kernel
theorem c_31_15 : aCod 31 15 = some (.iload 1, 16) := by decide +kernel
theorem c_31_16 : aCod 31 16 = some (.sipush 332, 19) := by decide +kernel
theorem c_31_19 : aCod 31 19 = some (.if_icmp .lt 29, 22) := by decide +kernel
theorem c_31_22 : aCod 31 22 = some (.iload 1, 23) := by decide +kernel
theorem c_31_23 : aCod 31 23 = some (.sipush 338, 26) := by decide +kernel
theorem c_31_26 : aCod 31 26 = some (.if_icmp .le 36, 29) := by decide +kernel
theorem c_31_29 : aCod 31 29 = some (.aload 0, 30) := by decide +kernel
theorem c_31_30 : aCod 31 30 = some (.sipush 1, 31) := by decide +kernel
theorem c_31_31 : aCod 31 31 = some (.iload 2, 32) := by decide +kernel
theorem c_31_32 : aCod 31 32 = some (.invokevirtual 46, 35) := by decide +kernel
theorem c_31_35 : aCod 31 35 = some (.return_, 36) := by decide +kernel
theorem c_31_36 : aCod 31 36 = some (.iload 3, 37) := by decide +kernel
theorem c_31_37 : aCod 31 37 = some (.sipush 6, 39) := by decide +kernel
theorem c_31_39 : aCod 31 39 = some (.if_icmp .le 52, 42) := by decide +kernel
theorem c_31_42 : aCod 31 42 = some (.aload 0, 43) := by decide +kernel
theorem c_31_43 : aCod 31 43 = some (.sipush 1, 44) := by decide +kernel
theorem c_31_44 : aCod 31 44 = some (.iload 2, 45) := by decide +kernel
theorem c_31_45 : aCod 31 45 = some (.sipush 6, 47) := by decide +kernel
theorem c_31_47 : aCod 31 47 = some (.iadd, 48) := by decide +kernel
theorem c_31_48 : aCod 31 48 = some (.invokevirtual 46, 51) := by decide +kernel
theorem c_31_51 : aCod 31 51 = some (.return_, 52) := by decide +kernel
theorem c_31_52 : aCod 31 52 = some (.sipush 0, 53) := by decide +kernel
theorem c_31_53 : aCod 31 53 = some (.istore 4, 55) := by decide +kernel
theorem c_31_55 : aCod 31 55 = some (.iload 4, 57) := by decide +kernel
theorem c_31_57 : aCod 31 57 = some (.sipush 6, 59) := by decide +kernel
theorem c_31_59 : aCod 31 59 = some (.if_icmp .ge 99, 62) := by decide +kernel
theorem c_31_62 : aCod 31 62 = some (.aload 0, 63) := by decide +kernel
theorem c_31_63 : aCod 31 63 = some (.getfield 770, 66) := by decide +kernel
theorem c_31_66 : aCod 31 66 = some (.iload 4, 68) := by decide +kernel
theorem c_31_68 : aCod 31 68 = some (.iload 4, 70) := by decide +kernel
theorem c_31_70 : aCod 31 70 = some (.iload 3, 71) := by decide +kernel
theorem c_31_71 : aCod 31 71 = some (.if_icmp .ge 91, 74) := by decide +kernel
theorem c_31_74 : aCod 31 74 = some (.aload 0, 75) := by decide +kernel
theorem c_31_75 : aCod 31 75 = some (.getfield 768, 78) := by decide +kernel
theorem c_31_78 : aCod 31 78 = some (.iload 2, 79) := by decide +kernel
theorem c_31_79 : aCod 31 79 = some (.iload 4, 81) := by decide +kernel
theorem c_31_81 : aCod 31 81 = some (.iadd, 82) := by decide +kernel
theorem c_31_82 : aCod 31 82 = some (.iaload, 83) := by decide +kernel
theorem c_31_83 : aCod 31 83 = some (.sipush 97, 85) := by decide +kernel
theorem c_31_85 : aCod 31 85 = some (.isub, 86) := by decide +kernel
theorem c_31_86 : aCod 31 86 = some (.sipush 1, 87) := by decide +kernel
theorem c_31_87 : aCod 31 87 = some (.iadd, 88) := by decide +kernel
theorem c_31_88 : aCod 31 88 = some (.goto 92, 91) := by decide +kernel
theorem c_31_91 : aCod 31 91 = some (.sipush 0, 92) := by decide +kernel
theorem c_31_92 : aCod 31 92 = some (.iastore, 93) := by decide +kernel
theorem c_31_93 : aCod 31 93 = some (.iinc 4 1, 96) := by decide +kernel
theorem c_31_96 : aCod 31 96 = some (.goto 55, 99) := by decide +kernel
theorem c_31_99 : aCod 31 99 = some (.aload 0, 100) := by decide +kernel
theorem c_31_100 : aCod 31 100 = some (.dup, 101) := by decide +kernel
theorem c_31_101 : aCod 31 101 = some (.getfield 773, 104) := by decide +kernel
theorem c_31_104 : aCod 31 104 = some (.sipush 1, 105) := by decide +kernel
theorem c_31_105 : aCod 31 105 = some (.iadd, 106) := by decide +kernel
theorem c_31_106 : aCod 31 106 = some (.putfield 773, 109) := by decide +kernel
theorem c_31_109 : aCod 31 109 = some (.return_, 110) := by decide +kernel
theorem c_32_0 : aCod 32 0 = some (.aload 0, 1) := by decide +kernel
theorem c_32_1 : aCod 32 1 = some (.invokevirtual 44, 4) := by decide +kernel
theorem c_32_4 : aCod 32 4 = some (.istore 3, 5) := by decide +kernel
theorem c_32_5 : aCod 32 5 = some (.aload 0, 6) := by decide +kernel
theorem c_32_6 : aCod 32 6 = some (.invokevirtual 42, 9) := by decide +kernel
theorem c_32_9 : aCod 32 9 = some (.sipush 339, 12) := by decide +kernel
theorem c_32_12 : aCod 32 12 = some (.if_icmp .eq 26, 15) := by decide +kernel
theorem c_32_15 : aCod 32 15 = some (.aload 0, 16) := by decide +kernel
theorem c_32_16 : aCod 32 16 = some (.sipush 1, 17) := by decide +kernel
theorem c_32_17 : aCod 32 17 = some (.aload 0, 18) := by decide +kernel
theorem c_32_18 : aCod 32 18 = some (.invokevirtual 43, 21) := by decide +kernel
theorem c_32_21 : aCod 32 21 = some (.invokevirtual 46, 24) := by decide +kernel
theorem c_32_24 : aCod 32 24 = some (.sipush (-1), 25) := by decide +kernel
theorem c_32_25 : aCod 32 25 = some (.ireturn, 26) := by decide +kernel
theorem c_32_26 : aCod 32 26 = some (.iload 3, 27) := by decide +kernel
theorem c_32_27 : aCod 32 27 = some (.sipush (-1), 28) := by decide +kernel
theorem c_32_28 : aCod 32 28 = some (.if_icmp .ne 45, 31) := by decide +kernel
theorem c_32_31 : aCod 32 31 = some (.aload 0, 32) := by decide +kernel
theorem c_32_32 : aCod 32 32 = some (.sipush 1, 33) := by decide +kernel
theorem c_32_33 : aCod 32 33 = some (.aload 0, 34) := by decide +kernel
theorem c_32_34 : aCod 32 34 = some (.invokevirtual 43, 37) := by decide +kernel
theorem c_32_37 : aCod 32 37 = some (.sipush 4, 38) := by decide +kernel
theorem c_32_38 : aCod 32 38 = some (.iadd, 39) := by decide +kernel
theorem c_32_39 : aCod 32 39 = some (.invokevirtual 46, 42) := by decide +kernel
theorem c_32_42 : aCod 32 42 = some (.goto 64, 45) := by decide +kernel
theorem c_32_45 : aCod 32 45 = some (.iload 3, 46) := by decide +kernel
theorem c_32_46 : aCod 32 46 = some (.iload 1, 47) := by decide +kernel
theorem c_32_47 : aCod 32 47 = some (.if_icmp .lt 55, 50) := by decide +kernel
theorem c_32_50 : aCod 32 50 = some (.iload 3, 51) := by decide +kernel
theorem c_32_51 : aCod 32 51 = some (.iload 2, 52) := by decide +kernel
theorem c_32_52 : aCod 32 52 = some (.if_icmp .le 64, 55) := by decide +kernel
theorem c_32_55 : aCod 32 55 = some (.aload 0, 56) := by decide +kernel
theorem c_32_56 : aCod 32 56 = some (.sipush 2, 57) := by decide +kernel
theorem c_32_57 : aCod 32 57 = some (.aload 0, 58) := by decide +kernel
theorem c_32_58 : aCod 32 58 = some (.invokevirtual 43, 61) := by decide +kernel
theorem c_32_61 : aCod 32 61 = some (.invokevirtual 46, 64) := by decide +kernel
theorem c_32_64 : aCod 32 64 = some (.aload 0, 65) := by decide +kernel
theorem c_32_65 : aCod 32 65 = some (.dup, 66) := by decide +kernel
theorem c_32_66 : aCod 32 66 = some (.getfield 773, 69) := by decide +kernel
theorem c_32_69 : aCod 32 69 = some (.sipush 1, 70) := by decide +kernel
theorem c_32_70 : aCod 32 70 = some (.iadd, 71) := by decide +kernel
theorem c_32_71 : aCod 32 71 = some (.putfield 773, 74) := by decide +kernel
theorem c_32_74 : aCod 32 74 = some (.iload 3, 75) := by decide +kernel
theorem c_32_75 : aCod 32 75 = some (.ireturn, 76) := by decide +kernel
theorem c_33_0 : aCod 33 0 = some (.aload 0, 1) := by decide +kernel
theorem c_33_1 : aCod 33 1 = some (.invokevirtual 34, 4) := by decide +kernel
theorem c_33_4 : aCod 33 4 = some (.aload 0, 5) := by decide +kernel
theorem c_33_5 : aCod 33 5 = some (.getfield 773, 8) := by decide +kernel
theorem c_33_8 : aCod 33 8 = some (.aload 0, 9) := by decide +kernel
theorem c_33_9 : aCod 33 9 = some (.getfield 769, 12) := by decide +kernel
theorem c_33_12 : aCod 33 12 = some (.getfield 515, 15) := by decide +kernel
theorem c_33_15 : aCod 33 15 = some (.if_icmp .ge 62, 18) := by decide +kernel
theorem c_33_18 : aCod 33 18 = some (.aload 0, 19) := by decide +kernel
theorem c_33_19 : aCod 33 19 = some (.getfield 775, 22) := by decide +kernel
theorem c_33_22 : aCod 33 22 = some (.ifCond .ne 62, 25) := by decide +kernel
theorem c_33_25 : aCod 33 25 = some (.aload 0, 26) := by decide +kernel
theorem c_33_26 : aCod 33 26 = some (.invokevirtual 42, 29) := by decide +kernel
theorem c_33_29 : aCod 33 29 = some (.sipush 326, 32) := by decide +kernel
theorem c_33_32 : aCod 33 32 = some (.if_icmp .ne 62, 35) := by decide +kernel
theorem c_33_35 : aCod 33 35 = some (.aload 0, 36) := by decide +kernel
theorem c_33_36 : aCod 33 36 = some (.dup, 37) := by decide +kernel
theorem c_33_37 : aCod 33 37 = some (.getfield 773, 40) := by decide +kernel
theorem c_33_40 : aCod 33 40 = some (.sipush 1, 41) := by decide +kernel
theorem c_33_41 : aCod 33 41 = some (.iadd, 42) := by decide +kernel
theorem c_33_42 : aCod 33 42 = some (.putfield 773, 45) := by decide +kernel
theorem c_33_45 : aCod 33 45 = some (.aload 0, 46) := by decide +kernel
theorem c_33_46 : aCod 33 46 = some (.invokevirtual 34, 49) := by decide +kernel
theorem c_33_49 : aCod 33 49 = some (.aload 0, 50) := by decide +kernel
theorem c_33_50 : aCod 33 50 = some (.getfield 771, 53) := by decide +kernel
theorem c_33_53 : aCod 33 53 = some (.sipush 326, 56) := by decide +kernel
theorem c_33_56 : aCod 33 56 = some (.invokevirtual 74, 59) := by decide +kernel
theorem c_33_59 : aCod 33 59 = some (.goto 4, 62) := by decide +kernel
theorem c_33_62 : aCod 33 62 = some (.return_, 63) := by decide +kernel
theorem c_34_0 : aCod 34 0 = some (.aload 0, 1) := by decide +kernel
theorem c_34_1 : aCod 34 1 = some (.invokevirtual 35, 4) := by decide +kernel
theorem c_34_4 : aCod 34 4 = some (.aload 0, 5) := by decide +kernel
theorem c_34_5 : aCod 34 5 = some (.getfield 773, 8) := by decide +kernel
theorem c_34_8 : aCod 34 8 = some (.aload 0, 9) := by decide +kernel
theorem c_34_9 : aCod 34 9 = some (.getfield 769, 12) := by decide +kernel
theorem c_34_12 : aCod 34 12 = some (.getfield 515, 15) := by decide +kernel
theorem c_34_15 : aCod 34 15 = some (.if_icmp .ge 62, 18) := by decide +kernel
theorem c_34_18 : aCod 34 18 = some (.aload 0, 19) := by decide +kernel
theorem c_34_19 : aCod 34 19 = some (.getfield 775, 22) := by decide +kernel
theorem c_34_22 : aCod 34 22 = some (.ifCond .ne 62, 25) := by decide +kernel
theorem c_34_25 : aCod 34 25 = some (.aload 0, 26) := by decide +kernel
theorem c_34_26 : aCod 34 26 = some (.invokevirtual 42, 29) := by decide +kernel
theorem c_34_29 : aCod 34 29 = some (.sipush 327, 32) := by decide +kernel
theorem c_34_32 : aCod 34 32 = some (.if_icmp .ne 62, 35) := by decide +kernel
theorem c_34_35 : aCod 34 35 = some (.aload 0, 36) := by decide +kernel
theorem c_34_36 : aCod 34 36 = some (.dup, 37) := by decide +kernel
theorem c_34_37 : aCod 34 37 = some (.getfield 773, 40) := by decide +kernel
theorem c_34_40 : aCod 34 40 = some (.sipush 1, 41) := by decide +kernel
theorem c_34_41 : aCod 34 41 = some (.iadd, 42) := by decide +kernel
theorem c_34_42 : aCod 34 42 = some (.putfield 773, 45) := by decide +kernel
theorem c_34_45 : aCod 34 45 = some (.aload 0, 46) := by decide +kernel
theorem c_34_46 : aCod 34 46 = some (.invokevirtual 35, 49) := by decide +kernel
theorem c_34_49 : aCod 34 49 = some (.aload 0, 50) := by decide +kernel
theorem c_34_50 : aCod 34 50 = some (.getfield 771, 53) := by decide +kernel
theorem c_34_53 : aCod 34 53 = some (.sipush 327, 56) := by decide +kernel
theorem c_34_56 : aCod 34 56 = some (.invokevirtual 74, 59) := by decide +kernel
theorem c_34_59 : aCod 34 59 = some (.goto 4, 62) := by decide +kernel
theorem c_34_62 : aCod 34 62 = some (.return_, 63) := by decide +kernel
theorem c_35_0 : aCod 35 0 = some (.aload 0, 1) := by decide +kernel
theorem c_35_1 : aCod 35 1 = some (.invokevirtual 42, 4) := by decide +kernel
theorem c_35_4 : aCod 35 4 = some (.istore 1, 5) := by decide +kernel
theorem c_35_5 : aCod 35 5 = some (.iload 1, 6) := by decide +kernel
theorem c_35_6 : aCod 35 6 = some (.sipush 328, 9) := by decide +kernel
theorem c_35_9 : aCod 35 9 = some (.if_icmp .ne 46, 12) := by decide +kernel
theorem c_35_12 : aCod 35 12 = some (.aload 0, 13) := by decide +kernel
theorem c_35_13 : aCod 35 13 = some (.invokevirtual 41, 16) := by decide +kernel
theorem c_35_16 : aCod 35 16 = some (.ifCond .eq 171, 19) := by decide +kernel
theorem c_35_19 : aCod 35 19 = some (.aload 0, 20) := by decide +kernel
theorem c_35_20 : aCod 35 20 = some (.invokevirtual 35, 23) := by decide +kernel
theorem c_35_23 : aCod 35 23 = some (.aload 0, 24) := by decide +kernel
theorem c_35_24 : aCod 35 24 = some (.getfield 771, 27) := by decide +kernel
theorem c_35_27 : aCod 35 27 = some (.sipush 328, 30) := by decide +kernel
theorem c_35_30 : aCod 35 30 = some (.invokevirtual 74, 33) := by decide +kernel
theorem c_35_33 : aCod 35 33 = some (.aload 0, 34) := by decide +kernel
theorem c_35_34 : aCod 35 34 = some (.dup, 35) := by decide +kernel
theorem c_35_35 : aCod 35 35 = some (.getfield 774, 38) := by decide +kernel
theorem c_35_38 : aCod 35 38 = some (.sipush 1, 39) := by decide +kernel
theorem c_35_39 : aCod 35 39 = some (.isub, 40) := by decide +kernel
theorem c_35_40 : aCod 35 40 = some (.putfield 774, 43) := by decide +kernel
theorem c_35_43 : aCod 35 43 = some (.goto 171, 46) := by decide +kernel
theorem c_35_46 : aCod 35 46 = some (.iload 1, 47) := by decide +kernel
theorem c_35_47 : aCod 35 47 = some (.sipush 91, 49) := by decide +kernel
theorem c_35_49 : aCod 35 49 = some (.if_icmp .ne 82, 52) := by decide +kernel
theorem c_35_52 : aCod 35 52 = some (.aload 0, 53) := by decide +kernel
theorem c_35_53 : aCod 35 53 = some (.invokevirtual 41, 56) := by decide +kernel
theorem c_35_56 : aCod 35 56 = some (.ifCond .eq 171, 59) := by decide +kernel
theorem c_35_59 : aCod 35 59 = some (.aload 0, 60) := by decide +kernel
theorem c_35_60 : aCod 35 60 = some (.invokevirtual 33, 63) := by decide +kernel
theorem c_35_63 : aCod 35 63 = some (.aload 0, 64) := by decide +kernel
theorem c_35_64 : aCod 35 64 = some (.sipush 93, 66) := by decide +kernel
theorem c_35_66 : aCod 35 66 = some (.invokevirtual 45, 69) := by decide +kernel
theorem c_35_69 : aCod 35 69 = some (.aload 0, 70) := by decide +kernel
theorem c_35_70 : aCod 35 70 = some (.dup, 71) := by decide +kernel
theorem c_35_71 : aCod 35 71 = some (.getfield 774, 74) := by decide +kernel
theorem c_35_74 : aCod 35 74 = some (.sipush 1, 75) := by decide +kernel
theorem c_35_75 : aCod 35 75 = some (.isub, 76) := by decide +kernel
theorem c_35_76 : aCod 35 76 = some (.putfield 774, 79) := by decide +kernel
theorem c_35_79 : aCod 35 79 = some (.goto 171, 82) := by decide +kernel
theorem c_35_82 : aCod 35 82 = some (.iload 1, 83) := by decide +kernel
theorem c_35_83 : aCod 35 83 = some (.sipush 329, 86) := by decide +kernel
theorem c_35_86 : aCod 35 86 = some (.if_icmp .ne 112, 89) := by decide +kernel
theorem c_35_89 : aCod 35 89 = some (.aload 0, 90) := by decide +kernel
theorem c_35_90 : aCod 35 90 = some (.dup, 91) := by decide +kernel
theorem c_35_91 : aCod 35 91 = some (.getfield 773, 94) := by decide +kernel
theorem c_35_94 : aCod 35 94 = some (.sipush 1, 95) := by decide +kernel
theorem c_35_95 : aCod 35 95 = some (.iadd, 96) := by decide +kernel
theorem c_35_96 : aCod 35 96 = some (.putfield 773, 99) := by decide +kernel
theorem c_35_99 : aCod 35 99 = some (.aload 0, 100) := by decide +kernel
theorem c_35_100 : aCod 35 100 = some (.getfield 771, 103) := by decide +kernel
theorem c_35_103 : aCod 35 103 = some (.sipush 329, 106) := by decide +kernel
theorem c_35_106 : aCod 35 106 = some (.invokevirtual 74, 109) := by decide +kernel
theorem c_35_109 : aCod 35 109 = some (.goto 171, 112) := by decide +kernel
theorem c_35_112 : aCod 35 112 = some (.aload 0, 113) := by decide +kernel
theorem c_35_113 : aCod 35 113 = some (.invokevirtual 36, 116) := by decide +kernel
theorem c_35_116 : aCod 35 116 = some (.aload 0, 117) := by decide +kernel
theorem c_35_117 : aCod 35 117 = some (.invokevirtual 42, 120) := by decide +kernel
theorem c_35_120 : aCod 35 120 = some (.istore 2, 121) := by decide +kernel
theorem c_35_121 : aCod 35 121 = some (.iload 2, 122) := by decide +kernel
theorem c_35_122 : aCod 35 122 = some (.sipush 60, 124) := by decide +kernel
theorem c_35_124 : aCod 35 124 = some (.if_icmp .eq 149, 127) := by decide +kernel
theorem c_35_127 : aCod 35 127 = some (.iload 2, 128) := by decide +kernel
theorem c_35_128 : aCod 35 128 = some (.sipush 62, 130) := by decide +kernel
theorem c_35_130 : aCod 35 130 = some (.if_icmp .eq 149, 133) := by decide +kernel
theorem c_35_133 : aCod 35 133 = some (.iload 2, 134) := by decide +kernel
theorem c_35_134 : aCod 35 134 = some (.sipush 61, 136) := by decide +kernel
theorem c_35_136 : aCod 35 136 = some (.if_icmp .eq 149, 139) := by decide +kernel
theorem c_35_139 : aCod 35 139 = some (.aload 0, 140) := by decide +kernel
theorem c_35_140 : aCod 35 140 = some (.sipush 1, 141) := by decide +kernel
theorem c_35_141 : aCod 35 141 = some (.aload 0, 142) := by decide +kernel
theorem c_35_142 : aCod 35 142 = some (.invokevirtual 43, 145) := by decide +kernel
theorem c_35_145 : aCod 35 145 = some (.invokevirtual 46, 148) := by decide +kernel
theorem c_35_148 : aCod 35 148 = some (.return_, 149) := by decide +kernel
theorem c_35_149 : aCod 35 149 = some (.aload 0, 150) := by decide +kernel
theorem c_35_150 : aCod 35 150 = some (.dup, 151) := by decide +kernel
theorem c_35_151 : aCod 35 151 = some (.getfield 773, 154) := by decide +kernel
theorem c_35_154 : aCod 35 154 = some (.sipush 1, 155) := by decide +kernel
theorem c_35_155 : aCod 35 155 = some (.iadd, 156) := by decide +kernel
theorem c_35_156 : aCod 35 156 = some (.putfield 773, 159) := by decide +kernel
theorem c_35_159 : aCod 35 159 = some (.aload 0, 160) := by decide +kernel
theorem c_35_160 : aCod 35 160 = some (.invokevirtual 36, 163) := by decide +kernel
theorem c_35_163 : aCod 35 163 = some (.aload 0, 164) := by decide +kernel
theorem c_35_164 : aCod 35 164 = some (.getfield 771, 167) := by decide +kernel
theorem c_35_167 : aCod 35 167 = some (.iload 2, 168) := by decide +kernel
theorem c_35_168 : aCod 35 168 = some (.invokevirtual 74, 171) := by decide +kernel
theorem c_35_171 : aCod 35 171 = some (.return_, 172) := by decide +kernel
theorem c_36_0 : aCod 36 0 = some (.aload 0, 1) := by decide +kernel
theorem c_36_1 : aCod 36 1 = some (.invokevirtual 37, 4) := by decide +kernel
theorem c_36_4 : aCod 36 4 = some (.aload 0, 5) := by decide +kernel
theorem c_36_5 : aCod 36 5 = some (.getfield 773, 8) := by decide +kernel
theorem c_36_8 : aCod 36 8 = some (.aload 0, 9) := by decide +kernel
theorem c_36_9 : aCod 36 9 = some (.getfield 769, 12) := by decide +kernel
theorem c_36_12 : aCod 36 12 = some (.getfield 515, 15) := by decide +kernel
theorem c_36_15 : aCod 36 15 = some (.if_icmp .ge 73, 18) := by decide +kernel
theorem c_36_18 : aCod 36 18 = some (.aload 0, 19) := by decide +kernel
theorem c_36_19 : aCod 36 19 = some (.getfield 775, 22) := by decide +kernel
theorem c_36_22 : aCod 36 22 = some (.ifCond .ne 73, 25) := by decide +kernel
theorem c_36_25 : aCod 36 25 = some (.aload 0, 26) := by decide +kernel
theorem c_36_26 : aCod 36 26 = some (.invokevirtual 42, 29) := by decide +kernel
theorem c_36_29 : aCod 36 29 = some (.sipush 43, 31) := by decide +kernel
theorem c_36_31 : aCod 36 31 = some (.if_icmp .eq 43, 34) := by decide +kernel
theorem c_36_34 : aCod 36 34 = some (.aload 0, 35) := by decide +kernel
theorem c_36_35 : aCod 36 35 = some (.invokevirtual 42, 38) := by decide +kernel
theorem c_36_38 : aCod 36 38 = some (.sipush 45, 40) := by decide +kernel
theorem c_36_40 : aCod 36 40 = some (.if_icmp .ne 73, 43) := by decide +kernel
theorem c_36_43 : aCod 36 43 = some (.aload 0, 44) := by decide +kernel
theorem c_36_44 : aCod 36 44 = some (.invokevirtual 42, 47) := by decide +kernel
theorem c_36_47 : aCod 36 47 = some (.istore 1, 48) := by decide +kernel
theorem c_36_48 : aCod 36 48 = some (.aload 0, 49) := by decide +kernel
theorem c_36_49 : aCod 36 49 = some (.dup, 50) := by decide +kernel
theorem c_36_50 : aCod 36 50 = some (.getfield 773, 53) := by decide +kernel
theorem c_36_53 : aCod 36 53 = some (.sipush 1, 54) := by decide +kernel
theorem c_36_54 : aCod 36 54 = some (.iadd, 55) := by decide +kernel
theorem c_36_55 : aCod 36 55 = some (.putfield 773, 58) := by decide +kernel
theorem c_36_58 : aCod 36 58 = some (.aload 0, 59) := by decide +kernel
theorem c_36_59 : aCod 36 59 = some (.invokevirtual 37, 62) := by decide +kernel
theorem c_36_62 : aCod 36 62 = some (.aload 0, 63) := by decide +kernel
theorem c_36_63 : aCod 36 63 = some (.getfield 771, 66) := by decide +kernel
theorem c_36_66 : aCod 36 66 = some (.iload 1, 67) := by decide +kernel
theorem c_36_67 : aCod 36 67 = some (.invokevirtual 74, 70) := by decide +kernel
theorem c_36_70 : aCod 36 70 = some (.goto 4, 73) := by decide +kernel
theorem c_36_73 : aCod 36 73 = some (.return_, 74) := by decide +kernel
theorem c_37_0 : aCod 37 0 = some (.aload 0, 1) := by decide +kernel
theorem c_37_1 : aCod 37 1 = some (.invokevirtual 38, 4) := by decide +kernel
theorem c_37_4 : aCod 37 4 = some (.aload 0, 5) := by decide +kernel
theorem c_37_5 : aCod 37 5 = some (.getfield 773, 8) := by decide +kernel
theorem c_37_8 : aCod 37 8 = some (.aload 0, 9) := by decide +kernel
theorem c_37_9 : aCod 37 9 = some (.getfield 769, 12) := by decide +kernel
theorem c_37_12 : aCod 37 12 = some (.getfield 515, 15) := by decide +kernel
theorem c_37_15 : aCod 37 15 = some (.if_icmp .ge 73, 18) := by decide +kernel
theorem c_37_18 : aCod 37 18 = some (.aload 0, 19) := by decide +kernel
theorem c_37_19 : aCod 37 19 = some (.getfield 775, 22) := by decide +kernel
theorem c_37_22 : aCod 37 22 = some (.ifCond .ne 73, 25) := by decide +kernel
theorem c_37_25 : aCod 37 25 = some (.aload 0, 26) := by decide +kernel
theorem c_37_26 : aCod 37 26 = some (.invokevirtual 42, 29) := by decide +kernel
theorem c_37_29 : aCod 37 29 = some (.sipush 42, 31) := by decide +kernel
theorem c_37_31 : aCod 37 31 = some (.if_icmp .eq 43, 34) := by decide +kernel
theorem c_37_34 : aCod 37 34 = some (.aload 0, 35) := by decide +kernel
theorem c_37_35 : aCod 37 35 = some (.invokevirtual 42, 38) := by decide +kernel
theorem c_37_38 : aCod 37 38 = some (.sipush 47, 40) := by decide +kernel
theorem c_37_40 : aCod 37 40 = some (.if_icmp .ne 73, 43) := by decide +kernel
theorem c_37_43 : aCod 37 43 = some (.aload 0, 44) := by decide +kernel
theorem c_37_44 : aCod 37 44 = some (.invokevirtual 42, 47) := by decide +kernel
theorem c_37_47 : aCod 37 47 = some (.istore 1, 48) := by decide +kernel
theorem c_37_48 : aCod 37 48 = some (.aload 0, 49) := by decide +kernel
theorem c_37_49 : aCod 37 49 = some (.dup, 50) := by decide +kernel
theorem c_37_50 : aCod 37 50 = some (.getfield 773, 53) := by decide +kernel
theorem c_37_53 : aCod 37 53 = some (.sipush 1, 54) := by decide +kernel
theorem c_37_54 : aCod 37 54 = some (.iadd, 55) := by decide +kernel
theorem c_37_55 : aCod 37 55 = some (.putfield 773, 58) := by decide +kernel
theorem c_37_58 : aCod 37 58 = some (.aload 0, 59) := by decide +kernel
theorem c_37_59 : aCod 37 59 = some (.invokevirtual 38, 62) := by decide +kernel
theorem c_37_62 : aCod 37 62 = some (.aload 0, 63) := by decide +kernel
theorem c_37_63 : aCod 37 63 = some (.getfield 771, 66) := by decide +kernel
theorem c_37_66 : aCod 37 66 = some (.iload 1, 67) := by decide +kernel
theorem c_37_67 : aCod 37 67 = some (.invokevirtual 74, 70) := by decide +kernel
theorem c_37_70 : aCod 37 70 = some (.goto 4, 73) := by decide +kernel
theorem c_37_73 : aCod 37 73 = some (.return_, 74) := by decide +kernel
theorem c_38_0 : aCod 38 0 = some (.aload 0, 1) := by decide +kernel
theorem c_38_1 : aCod 38 1 = some (.invokevirtual 42, 4) := by decide +kernel
theorem c_38_4 : aCod 38 4 = some (.istore 1, 5) := by decide +kernel
theorem c_38_5 : aCod 38 5 = some (.iload 1, 6) := by decide +kernel
theorem c_38_6 : aCod 38 6 = some (.sipush 339, 9) := by decide +kernel
theorem c_38_9 : aCod 38 9 = some (.if_icmp .ne 34, 12) := by decide +kernel
theorem c_38_12 : aCod 38 12 = some (.aload 0, 13) := by decide +kernel
theorem c_38_13 : aCod 38 13 = some (.getfield 771, 16) := by decide +kernel
theorem c_38_16 : aCod 38 16 = some (.sipush 1000, 19) := by decide +kernel
theorem c_38_19 : aCod 38 19 = some (.aload 0, 20) := by decide +kernel
theorem c_38_20 : aCod 38 20 = some (.sipush 0, 21) := by decide +kernel
theorem c_38_21 : aCod 38 21 = some (.sipush 9999, 24) := by decide +kernel
theorem c_38_24 : aCod 38 24 = some (.invokevirtual 32, 27) := by decide +kernel
theorem c_38_27 : aCod 38 27 = some (.iadd, 28) := by decide +kernel
theorem c_38_28 : aCod 38 28 = some (.invokevirtual 74, 31) := by decide +kernel
theorem c_38_31 : aCod 38 31 = some (.goto 175, 34) := by decide +kernel
theorem c_38_34 : aCod 38 34 = some (.iload 1, 35) := by decide +kernel
theorem c_38_35 : aCod 38 35 = some (.sipush 40, 37) := by decide +kernel
theorem c_38_37 : aCod 38 37 = some (.if_icmp .ne 48, 40) := by decide +kernel
theorem c_38_40 : aCod 38 40 = some (.aload 0, 41) := by decide +kernel
theorem c_38_41 : aCod 38 41 = some (.sipush 1, 42) := by decide +kernel
theorem c_38_42 : aCod 38 42 = some (.invokevirtual 39, 45) := by decide +kernel
theorem c_38_45 : aCod 38 45 = some (.goto 175, 48) := by decide +kernel
theorem c_38_48 : aCod 38 48 = some (.iload 1, 49) := by decide +kernel
theorem c_38_49 : aCod 38 49 = some (.sipush 330, 52) := by decide +kernel
theorem c_38_52 : aCod 38 52 = some (.if_icmp .eq 62, 55) := by decide +kernel
theorem c_38_55 : aCod 38 55 = some (.iload 1, 56) := by decide +kernel
theorem c_38_56 : aCod 38 56 = some (.sipush 331, 59) := by decide +kernel
theorem c_38_59 : aCod 38 59 = some (.if_icmp .ne 88, 62) := by decide +kernel
theorem c_38_62 : aCod 38 62 = some (.aload 0, 63) := by decide +kernel
theorem c_38_63 : aCod 38 63 = some (.dup, 64) := by decide +kernel
theorem c_38_64 : aCod 38 64 = some (.getfield 773, 67) := by decide +kernel
theorem c_38_67 : aCod 38 67 = some (.sipush 1, 68) := by decide +kernel
theorem c_38_68 : aCod 38 68 = some (.iadd, 69) := by decide +kernel
theorem c_38_69 : aCod 38 69 = some (.putfield 773, 72) := by decide +kernel
theorem c_38_72 : aCod 38 72 = some (.aload 0, 73) := by decide +kernel
theorem c_38_73 : aCod 38 73 = some (.sipush 2, 74) := by decide +kernel
theorem c_38_74 : aCod 38 74 = some (.invokevirtual 39, 77) := by decide +kernel
theorem c_38_77 : aCod 38 77 = some (.aload 0, 78) := by decide +kernel
theorem c_38_78 : aCod 38 78 = some (.getfield 771, 81) := by decide +kernel
theorem c_38_81 : aCod 38 81 = some (.iload 1, 82) := by decide +kernel
theorem c_38_82 : aCod 38 82 = some (.invokevirtual 74, 85) := by decide +kernel
theorem c_38_85 : aCod 38 85 = some (.goto 175, 88) := by decide +kernel
theorem c_38_88 : aCod 38 88 = some (.iload 1, 89) := by decide +kernel
theorem c_38_89 : aCod 38 89 = some (.sipush 312, 92) := by decide +kernel
theorem c_38_92 : aCod 38 92 = some (.if_icmp .ne 137, 95) := by decide +kernel
theorem c_38_95 : aCod 38 95 = some (.aload 0, 96) := by decide +kernel
theorem c_38_96 : aCod 38 96 = some (.getfield 772, 99) := by decide +kernel
theorem c_38_99 : aCod 38 99 = some (.sipush 3, 100) := by decide +kernel
theorem c_38_100 : aCod 38 100 = some (.if_icmp .ne 137, 103) := by decide +kernel
theorem c_38_103 : aCod 38 103 = some (.aload 0, 104) := by decide +kernel
theorem c_38_104 : aCod 38 104 = some (.invokevirtual 41, 107) := by decide +kernel
theorem c_38_107 : aCod 38 107 = some (.ifCond .eq 175, 110) := by decide +kernel
theorem c_38_110 : aCod 38 110 = some (.aload 0, 111) := by decide +kernel
theorem c_38_111 : aCod 38 111 = some (.invokevirtual 38, 114) := by decide +kernel
theorem c_38_114 : aCod 38 114 = some (.aload 0, 115) := by decide +kernel
theorem c_38_115 : aCod 38 115 = some (.getfield 771, 118) := by decide +kernel
theorem c_38_118 : aCod 38 118 = some (.sipush 312, 121) := by decide +kernel
theorem c_38_121 : aCod 38 121 = some (.invokevirtual 74, 124) := by decide +kernel
theorem c_38_124 : aCod 38 124 = some (.aload 0, 125) := by decide +kernel
theorem c_38_125 : aCod 38 125 = some (.dup, 126) := by decide +kernel
theorem c_38_126 : aCod 38 126 = some (.getfield 774, 129) := by decide +kernel
theorem c_38_129 : aCod 38 129 = some (.sipush 1, 130) := by decide +kernel
theorem c_38_130 : aCod 38 130 = some (.isub, 131) := by decide +kernel
theorem c_38_131 : aCod 38 131 = some (.putfield 774, 134) := by decide +kernel
theorem c_38_134 : aCod 38 134 = some (.goto 175, 137) := by decide +kernel
theorem c_38_137 : aCod 38 137 = some (.aload 0, 138) := by decide +kernel
theorem c_38_138 : aCod 38 138 = some (.iload 1, 139) := by decide +kernel
theorem c_38_139 : aCod 38 139 = some (.invokevirtual 40, 142) := by decide +kernel
theorem c_38_142 : aCod 38 142 = some (.ifCond .eq 166, 145) := by decide +kernel
theorem c_38_145 : aCod 38 145 = some (.aload 0, 146) := by decide +kernel
theorem c_38_146 : aCod 38 146 = some (.dup, 147) := by decide +kernel
theorem c_38_147 : aCod 38 147 = some (.getfield 773, 150) := by decide +kernel
theorem c_38_150 : aCod 38 150 = some (.sipush 1, 151) := by decide +kernel
theorem c_38_151 : aCod 38 151 = some (.iadd, 152) := by decide +kernel
theorem c_38_152 : aCod 38 152 = some (.putfield 773, 155) := by decide +kernel
theorem c_38_155 : aCod 38 155 = some (.aload 0, 156) := by decide +kernel
theorem c_38_156 : aCod 38 156 = some (.getfield 771, 159) := by decide +kernel
theorem c_38_159 : aCod 38 159 = some (.iload 1, 160) := by decide +kernel
theorem c_38_160 : aCod 38 160 = some (.invokevirtual 74, 163) := by decide +kernel
theorem c_38_163 : aCod 38 163 = some (.goto 175, 166) := by decide +kernel
theorem c_38_166 : aCod 38 166 = some (.aload 0, 167) := by decide +kernel
theorem c_38_167 : aCod 38 167 = some (.sipush 1, 168) := by decide +kernel
theorem c_38_168 : aCod 38 168 = some (.aload 0, 169) := by decide +kernel
theorem c_38_169 : aCod 38 169 = some (.invokevirtual 43, 172) := by decide +kernel
theorem c_38_172 : aCod 38 172 = some (.invokevirtual 46, 175) := by decide +kernel
theorem c_38_175 : aCod 38 175 = some (.return_, 176) := by decide +kernel
theorem c_39_0 : aCod 39 0 = some (.aload 0, 1) := by decide +kernel
theorem c_39_1 : aCod 39 1 = some (.invokevirtual 42, 4) := by decide +kernel
theorem c_39_4 : aCod 39 4 = some (.sipush 40, 6) := by decide +kernel
theorem c_39_6 : aCod 39 6 = some (.if_icmp .eq 19, 9) := by decide +kernel
theorem c_39_9 : aCod 39 9 = some (.aload 0, 10) := by decide +kernel
theorem c_39_10 : aCod 39 10 = some (.sipush 1, 11) := by decide +kernel
theorem c_39_11 : aCod 39 11 = some (.aload 0, 12) := by decide +kernel
theorem c_39_12 : aCod 39 12 = some (.invokevirtual 43, 15) := by decide +kernel
theorem c_39_15 : aCod 39 15 = some (.invokevirtual 46, 18) := by decide +kernel
theorem c_39_18 : aCod 39 18 = some (.return_, 19) := by decide +kernel
theorem c_39_19 : aCod 39 19 = some (.aload 0, 20) := by decide +kernel
theorem c_39_20 : aCod 39 20 = some (.invokevirtual 41, 23) := by decide +kernel
theorem c_39_23 : aCod 39 23 = some (.ifCond .eq 61, 26) := by decide +kernel
theorem c_39_26 : aCod 39 26 = some (.aload 0, 27) := by decide +kernel
theorem c_39_27 : aCod 39 27 = some (.invokevirtual 36, 30) := by decide +kernel
theorem c_39_30 : aCod 39 30 = some (.iload 1, 31) := by decide +kernel
theorem c_39_31 : aCod 39 31 = some (.sipush 2, 32) := by decide +kernel
theorem c_39_32 : aCod 39 32 = some (.if_icmp .ne 45, 35) := by decide +kernel
theorem c_39_35 : aCod 39 35 = some (.aload 0, 36) := by decide +kernel
theorem c_39_36 : aCod 39 36 = some (.sipush 44, 38) := by decide +kernel
theorem c_39_38 : aCod 39 38 = some (.invokevirtual 45, 41) := by decide +kernel
theorem c_39_41 : aCod 39 41 = some (.aload 0, 42) := by decide +kernel
theorem c_39_42 : aCod 39 42 = some (.invokevirtual 36, 45) := by decide +kernel
theorem c_39_45 : aCod 39 45 = some (.aload 0, 46) := by decide +kernel
theorem c_39_46 : aCod 39 46 = some (.sipush 41, 48) := by decide +kernel
theorem c_39_48 : aCod 39 48 = some (.invokevirtual 45, 51) := by decide +kernel
theorem c_39_51 : aCod 39 51 = some (.aload 0, 52) := by decide +kernel
theorem c_39_52 : aCod 39 52 = some (.dup, 53) := by decide +kernel
theorem c_39_53 : aCod 39 53 = some (.getfield 774, 56) := by decide +kernel
theorem c_39_56 : aCod 39 56 = some (.sipush 1, 57) := by decide +kernel
theorem c_39_57 : aCod 39 57 = some (.isub, 58) := by decide +kernel
theorem c_39_58 : aCod 39 58 = some (.putfield 774, 61) := by decide +kernel
theorem c_39_61 : aCod 39 61 = some (.return_, 62) := by decide +kernel
theorem c_40_0 : aCod 40 0 = some (.iload 1, 1) := by decide +kernel
theorem c_40_1 : aCod 40 1 = some (.tableswitch 151 307 325 #[92, 151, 151, 92, 92, 151, 137, 151, 151, 151, 151, 151, 92, 94, 94, 115, 115, 137, 137], 92) := by decide +kernel
theorem c_40_92 : aCod 40 92 = some (.sipush 1, 93) := by decide +kernel
theorem c_40_93 : aCod 40 93 = some (.ireturn, 94) := by decide +kernel
theorem c_40_94 : aCod 40 94 = some (.aload 0, 95) := by decide +kernel
theorem c_40_95 : aCod 40 95 = some (.getfield 772, 98) := by decide +kernel
theorem c_40_98 : aCod 40 98 = some (.ifCond .eq 109, 101) := by decide +kernel
theorem c_40_101 : aCod 40 101 = some (.aload 0, 102) := by decide +kernel
theorem c_40_102 : aCod 40 102 = some (.getfield 772, 105) := by decide +kernel
theorem c_40_105 : aCod 40 105 = some (.sipush 2, 106) := by decide +kernel
theorem c_40_106 : aCod 40 106 = some (.if_icmp .ne 113, 109) := by decide +kernel
theorem c_40_109 : aCod 40 109 = some (.sipush 1, 110) := by decide +kernel
theorem c_40_110 : aCod 40 110 = some (.goto 114, 113) := by decide +kernel
theorem c_40_113 : aCod 40 113 = some (.sipush 0, 114) := by decide +kernel
theorem c_40_114 : aCod 40 114 = some (.ireturn, 115) := by decide +kernel
theorem c_40_115 : aCod 40 115 = some (.aload 0, 116) := by decide +kernel
theorem c_40_116 : aCod 40 116 = some (.getfield 772, 119) := by decide +kernel
theorem c_40_119 : aCod 40 119 = some (.sipush 1, 120) := by decide +kernel
theorem c_40_120 : aCod 40 120 = some (.if_icmp .eq 131, 123) := by decide +kernel
theorem c_40_123 : aCod 40 123 = some (.aload 0, 124) := by decide +kernel
theorem c_40_124 : aCod 40 124 = some (.getfield 772, 127) := by decide +kernel
theorem c_40_127 : aCod 40 127 = some (.sipush 3, 128) := by decide +kernel
theorem c_40_128 : aCod 40 128 = some (.if_icmp .ne 135, 131) := by decide +kernel
theorem c_40_131 : aCod 40 131 = some (.sipush 1, 132) := by decide +kernel
theorem c_40_132 : aCod 40 132 = some (.goto 136, 135) := by decide +kernel
theorem c_40_135 : aCod 40 135 = some (.sipush 0, 136) := by decide +kernel
theorem c_40_136 : aCod 40 136 = some (.ireturn, 137) := by decide +kernel
theorem c_40_137 : aCod 40 137 = some (.aload 0, 138) := by decide +kernel
theorem c_40_138 : aCod 40 138 = some (.getfield 772, 141) := by decide +kernel
theorem c_40_141 : aCod 40 141 = some (.sipush 3, 142) := by decide +kernel
theorem c_40_142 : aCod 40 142 = some (.if_icmp .ne 149, 145) := by decide +kernel
theorem c_40_145 : aCod 40 145 = some (.sipush 1, 146) := by decide +kernel
theorem c_40_146 : aCod 40 146 = some (.goto 150, 149) := by decide +kernel
theorem c_40_149 : aCod 40 149 = some (.sipush 0, 150) := by decide +kernel
theorem c_40_150 : aCod 40 150 = some (.ireturn, 151) := by decide +kernel
theorem c_40_151 : aCod 40 151 = some (.sipush 0, 152) := by decide +kernel
theorem c_40_152 : aCod 40 152 = some (.ireturn, 153) := by decide +kernel
theorem c_41_0 : aCod 41 0 = some (.aload 0, 1) := by decide +kernel
theorem c_41_1 : aCod 41 1 = some (.getfield 775, 4) := by decide +kernel
theorem c_41_4 : aCod 41 4 = some (.ifCond .ne 16, 7) := by decide +kernel
theorem c_41_7 : aCod 41 7 = some (.aload 0, 8) := by decide +kernel
theorem c_41_8 : aCod 41 8 = some (.getfield 774, 11) := by decide +kernel
theorem c_41_11 : aCod 41 11 = some (.sipush 6, 13) := by decide +kernel
theorem c_41_13 : aCod 41 13 = some (.if_icmp .lt 27, 16) := by decide +kernel
theorem c_41_16 : aCod 41 16 = some (.aload 0, 17) := by decide +kernel
theorem c_41_17 : aCod 41 17 = some (.sipush 4, 18) := by decide +kernel
theorem c_41_18 : aCod 41 18 = some (.aload 0, 19) := by decide +kernel
theorem c_41_19 : aCod 41 19 = some (.invokevirtual 43, 22) := by decide +kernel
theorem c_41_22 : aCod 41 22 = some (.invokevirtual 46, 25) := by decide +kernel
theorem c_41_25 : aCod 41 25 = some (.sipush 0, 26) := by decide +kernel
theorem c_41_26 : aCod 41 26 = some (.ireturn, 27) := by decide +kernel
theorem c_41_27 : aCod 41 27 = some (.aload 0, 28) := by decide +kernel
theorem c_41_28 : aCod 41 28 = some (.dup, 29) := by decide +kernel
theorem c_41_29 : aCod 41 29 = some (.getfield 774, 32) := by decide +kernel
theorem c_41_32 : aCod 41 32 = some (.sipush 1, 33) := by decide +kernel
theorem c_41_33 : aCod 41 33 = some (.iadd, 34) := by decide +kernel
theorem c_41_34 : aCod 41 34 = some (.putfield 774, 37) := by decide +kernel
theorem c_41_37 : aCod 41 37 = some (.aload 0, 38) := by decide +kernel
theorem c_41_38 : aCod 41 38 = some (.dup, 39) := by decide +kernel
theorem c_41_39 : aCod 41 39 = some (.getfield 773, 42) := by decide +kernel
theorem c_41_42 : aCod 41 42 = some (.sipush 1, 43) := by decide +kernel
theorem c_41_43 : aCod 41 43 = some (.iadd, 44) := by decide +kernel
theorem c_41_44 : aCod 41 44 = some (.putfield 773, 47) := by decide +kernel
theorem c_41_47 : aCod 41 47 = some (.sipush 1, 48) := by decide +kernel
theorem c_41_48 : aCod 41 48 = some (.ireturn, 49) := by decide +kernel
theorem c_42_0 : aCod 42 0 = some (.aload 0, 1) := by decide +kernel
theorem c_42_1 : aCod 42 1 = some (.getfield 773, 4) := by decide +kernel
theorem c_42_4 : aCod 42 4 = some (.aload 0, 5) := by decide +kernel
theorem c_42_5 : aCod 42 5 = some (.getfield 769, 8) := by decide +kernel
theorem c_42_8 : aCod 42 8 = some (.getfield 515, 11) := by decide +kernel
theorem c_42_11 : aCod 42 11 = some (.if_icmp .ge 29, 14) := by decide +kernel
theorem c_42_14 : aCod 42 14 = some (.aload 0, 15) := by decide +kernel
theorem c_42_15 : aCod 42 15 = some (.getfield 769, 18) := by decide +kernel
theorem c_42_18 : aCod 42 18 = some (.getfield 512, 21) := by decide +kernel
theorem c_42_21 : aCod 42 21 = some (.aload 0, 22) := by decide +kernel
theorem c_42_22 : aCod 42 22 = some (.getfield 773, 25) := by decide +kernel
theorem c_42_25 : aCod 42 25 = some (.iaload, 26) := by decide +kernel
theorem c_42_26 : aCod 42 26 = some (.goto 32, 29) := by decide +kernel
theorem c_42_29 : aCod 42 29 = some (.sipush 341, 32) := by decide +kernel
theorem c_42_32 : aCod 42 32 = some (.ireturn, 33) := by decide +kernel
theorem c_43_0 : aCod 43 0 = some (.aload 0, 1) := by decide +kernel
theorem c_43_1 : aCod 43 1 = some (.getfield 773, 4) := by decide +kernel
theorem c_43_4 : aCod 43 4 = some (.aload 0, 5) := by decide +kernel
theorem c_43_5 : aCod 43 5 = some (.getfield 769, 8) := by decide +kernel
theorem c_43_8 : aCod 43 8 = some (.getfield 515, 11) := by decide +kernel
theorem c_43_11 : aCod 43 11 = some (.if_icmp .ge 29, 14) := by decide +kernel
theorem c_43_14 : aCod 43 14 = some (.aload 0, 15) := by decide +kernel
theorem c_43_15 : aCod 43 15 = some (.getfield 769, 18) := by decide +kernel
theorem c_43_18 : aCod 43 18 = some (.getfield 513, 21) := by decide +kernel
theorem c_43_21 : aCod 43 21 = some (.aload 0, 22) := by decide +kernel
theorem c_43_22 : aCod 43 22 = some (.getfield 773, 25) := by decide +kernel
theorem c_43_25 : aCod 43 25 = some (.iaload, 26) := by decide +kernel
theorem c_43_26 : aCod 43 26 = some (.goto 30, 29) := by decide +kernel
theorem c_43_29 : aCod 43 29 = some (.sipush 0, 30) := by decide +kernel
theorem c_43_30 : aCod 43 30 = some (.ireturn, 31) := by decide +kernel
theorem c_44_0 : aCod 44 0 = some (.aload 0, 1) := by decide +kernel
theorem c_44_1 : aCod 44 1 = some (.getfield 773, 4) := by decide +kernel
theorem c_44_4 : aCod 44 4 = some (.aload 0, 5) := by decide +kernel
theorem c_44_5 : aCod 44 5 = some (.getfield 769, 8) := by decide +kernel
theorem c_44_8 : aCod 44 8 = some (.getfield 515, 11) := by decide +kernel
theorem c_44_11 : aCod 44 11 = some (.if_icmp .ge 29, 14) := by decide +kernel
theorem c_44_14 : aCod 44 14 = some (.aload 0, 15) := by decide +kernel
theorem c_44_15 : aCod 44 15 = some (.getfield 769, 18) := by decide +kernel
theorem c_44_18 : aCod 44 18 = some (.getfield 514, 21) := by decide +kernel
theorem c_44_21 : aCod 44 21 = some (.aload 0, 22) := by decide +kernel
theorem c_44_22 : aCod 44 22 = some (.getfield 773, 25) := by decide +kernel
theorem c_44_25 : aCod 44 25 = some (.iaload, 26) := by decide +kernel
theorem c_44_26 : aCod 44 26 = some (.goto 30, 29) := by decide +kernel
theorem c_44_29 : aCod 44 29 = some (.sipush 0, 30) := by decide +kernel
theorem c_44_30 : aCod 44 30 = some (.ireturn, 31) := by decide +kernel
theorem c_45_0 : aCod 45 0 = some (.aload 0, 1) := by decide +kernel
theorem c_45_1 : aCod 45 1 = some (.invokevirtual 42, 4) := by decide +kernel
theorem c_45_4 : aCod 45 4 = some (.iload 1, 5) := by decide +kernel
theorem c_45_5 : aCod 45 5 = some (.if_icmp .eq 20, 8) := by decide +kernel
theorem c_45_8 : aCod 45 8 = some (.aload 0, 9) := by decide +kernel
theorem c_45_9 : aCod 45 9 = some (.sipush 1, 10) := by decide +kernel
theorem c_45_10 : aCod 45 10 = some (.aload 0, 11) := by decide +kernel
theorem c_45_11 : aCod 45 11 = some (.invokevirtual 43, 14) := by decide +kernel
theorem c_45_14 : aCod 45 14 = some (.invokevirtual 46, 17) := by decide +kernel
theorem c_45_17 : aCod 45 17 = some (.goto 37, 20) := by decide +kernel
theorem c_45_20 : aCod 45 20 = some (.iload 1, 21) := by decide +kernel
theorem c_45_21 : aCod 45 21 = some (.sipush 341, 24) := by decide +kernel
theorem c_45_24 : aCod 45 24 = some (.if_icmp .eq 37, 27) := by decide +kernel
theorem c_45_27 : aCod 45 27 = some (.aload 0, 28) := by decide +kernel
theorem c_45_28 : aCod 45 28 = some (.dup, 29) := by decide +kernel
theorem c_45_29 : aCod 45 29 = some (.getfield 773, 32) := by decide +kernel
theorem c_45_32 : aCod 45 32 = some (.sipush 1, 33) := by decide +kernel
theorem c_45_33 : aCod 45 33 = some (.iadd, 34) := by decide +kernel
theorem c_45_34 : aCod 45 34 = some (.putfield 773, 37) := by decide +kernel
theorem c_45_37 : aCod 45 37 = some (.return_, 38) := by decide +kernel
theorem c_46_0 : aCod 46 0 = some (.aload 0, 1) := by decide +kernel
theorem c_46_1 : aCod 46 1 = some (.getfield 775, 4) := by decide +kernel
theorem c_46_4 : aCod 46 4 = some (.ifCond .ne 17, 7) := by decide +kernel
theorem c_46_7 : aCod 46 7 = some (.aload 0, 8) := by decide +kernel
theorem c_46_8 : aCod 46 8 = some (.iload 1, 9) := by decide +kernel
theorem c_46_9 : aCod 46 9 = some (.putfield 775, 12) := by decide +kernel
theorem c_46_12 : aCod 46 12 = some (.aload 0, 13) := by decide +kernel
theorem c_46_13 : aCod 46 13 = some (.iload 2, 14) := by decide +kernel
theorem c_46_14 : aCod 46 14 = some (.putfield 776, 17) := by decide +kernel
theorem c_46_17 : aCod 46 17 = some (.return_, 18) := by decide +kernel
theorem c_47_0 : aCod 47 0 = some (.aload 0, 1) := by decide +kernel
theorem c_47_1 : aCod 47 1 = some (.invokeinterface 0 0, 4) := by decide +kernel
theorem c_47_4 : aCod 47 4 = some (.aload 0, 5) := by decide +kernel
theorem c_47_5 : aCod 47 5 = some (.sipush 64, 7) := by decide +kernel
theorem c_47_7 : aCod 47 7 = some (.newarray .int, 9) := by decide +kernel
theorem c_47_9 : aCod 47 9 = some (.putfield 1026, 12) := by decide +kernel
theorem c_47_12 : aCod 47 12 = some (.return_, 13) := by decide +kernel
theorem c_48_0 : aCod 48 0 = some (.aload 0, 1) := by decide +kernel
theorem c_48_1 : aCod 48 1 = some (.getfield 1024, 4) := by decide +kernel
theorem c_48_4 : aCod 48 4 = some (.getfield 1549, 7) := by decide +kernel
theorem c_48_7 : aCod 48 7 = some (.sipush 0, 8) := by decide +kernel
theorem c_48_8 : aCod 48 8 = some (.invokevirtual 73, 11) := by decide +kernel
theorem c_48_11 : aCod 48 11 = some (.ifCond .ne 24, 14) := by decide +kernel
theorem c_48_14 : aCod 48 14 = some (.aload 0, 15) := by decide +kernel
theorem c_48_15 : aCod 48 15 = some (.getfield 1024, 18) := by decide +kernel
theorem c_48_18 : aCod 48 18 = some (.getfield 1546, 21) := by decide +kernel
theorem c_48_21 : aCod 48 21 = some (.iload 2, 22) := by decide +kernel
theorem c_48_22 : aCod 48 22 = some (.iaload, 23) := by decide +kernel
theorem c_48_23 : aCod 48 23 = some (.ireturn, 24) := by decide +kernel
theorem c_48_24 : aCod 48 24 = some (.sipush 0, 25) := by decide +kernel
theorem c_48_25 : aCod 48 25 = some (.aload 0, 26) := by decide +kernel
theorem c_48_26 : aCod 48 26 = some (.aload 0, 27) := by decide +kernel
theorem c_48_27 : aCod 48 27 = some (.getfield 1024, 30) := by decide +kernel
theorem c_48_30 : aCod 48 30 = some (.getfield 1549, 33) := by decide +kernel
theorem c_48_33 : aCod 48 33 = some (.sipush 0, 34) := by decide +kernel
theorem c_48_34 : aCod 48 34 = some (.aload 1, 35) := by decide +kernel
theorem c_48_35 : aCod 48 35 = some (.iload 2, 36) := by decide +kernel
theorem c_48_36 : aCod 48 36 = some (.invokevirtual 55, 39) := by decide +kernel
theorem c_48_39 : aCod 48 39 = some (.i2l, 40) := by decide +kernel
theorem c_48_40 : aCod 48 40 = some (.sipush 9999, 43) := by decide +kernel
theorem c_48_43 : aCod 48 43 = some (.invokestatic 59, 46) := by decide +kernel
theorem c_48_46 : aCod 48 46 = some (.ireturn, 47) := by decide +kernel
theorem c_49_0 : aCod 49 0 = some (.aload 1, 1) := by decide +kernel
theorem c_49_1 : aCod 49 1 = some (.iload 2, 2) := by decide +kernel
theorem c_49_2 : aCod 49 2 = some (.invokevirtual 8, 5) := by decide +kernel
theorem c_49_5 : aCod 49 5 = some (.ifCond .ne 37, 8) := by decide +kernel
theorem c_49_8 : aCod 49 8 = some (.aload 1, 9) := by decide +kernel
theorem c_49_9 : aCod 49 9 = some (.getfield 256, 12) := by decide +kernel
theorem c_49_12 : aCod 49 12 = some (.aload 0, 13) := by decide +kernel
theorem c_49_13 : aCod 49 13 = some (.getfield 1024, 16) := by decide +kernel
theorem c_49_16 : aCod 49 16 = some (.getfield 1548, 19) := by decide +kernel
theorem c_49_19 : aCod 49 19 = some (.iload 2, 20) := by decide +kernel
theorem c_49_20 : aCod 49 20 = some (.iaload, 21) := by decide +kernel
theorem c_49_21 : aCod 49 21 = some (.if_icmp .gt 37, 24) := by decide +kernel
theorem c_49_24 : aCod 49 24 = some (.aload 1, 25) := by decide +kernel
theorem c_49_25 : aCod 49 25 = some (.getfield 257, 28) := by decide +kernel
theorem c_49_28 : aCod 49 28 = some (.aload 0, 29) := by decide +kernel
theorem c_49_29 : aCod 49 29 = some (.aload 1, 30) := by decide +kernel
theorem c_49_30 : aCod 49 30 = some (.iload 2, 31) := by decide +kernel
theorem c_49_31 : aCod 49 31 = some (.invokevirtual 48, 34) := by decide +kernel
theorem c_49_34 : aCod 49 34 = some (.if_icmp .ge 39, 37) := by decide +kernel
theorem c_49_37 : aCod 49 37 = some (.sipush 0, 38) := by decide +kernel
theorem c_49_38 : aCod 49 38 = some (.ireturn, 39) := by decide +kernel
theorem c_49_39 : aCod 49 39 = some (.aload 0, 40) := by decide +kernel
theorem c_49_40 : aCod 49 40 = some (.getfield 1024, 43) := by decide +kernel
theorem c_49_43 : aCod 49 43 = some (.getfield 1549, 46) := by decide +kernel
theorem c_49_46 : aCod 49 46 = some (.sipush 2, 47) := by decide +kernel
theorem c_49_47 : aCod 49 47 = some (.invokevirtual 73, 50) := by decide +kernel
theorem c_49_50 : aCod 49 50 = some (.ifCond .eq 70, 53) := by decide +kernel
theorem c_49_53 : aCod 49 53 = some (.aload 0, 54) := by decide +kernel
theorem c_49_54 : aCod 49 54 = some (.aload 0, 55) := by decide +kernel
theorem c_49_55 : aCod 49 55 = some (.getfield 1024, 58) := by decide +kernel
theorem c_49_58 : aCod 49 58 = some (.getfield 1549, 61) := by decide +kernel
theorem c_49_61 : aCod 49 61 = some (.sipush 2, 62) := by decide +kernel
theorem c_49_62 : aCod 49 62 = some (.aload 1, 63) := by decide +kernel
theorem c_49_63 : aCod 49 63 = some (.iload 2, 64) := by decide +kernel
theorem c_49_64 : aCod 49 64 = some (.invokevirtual 55, 67) := by decide +kernel
theorem c_49_67 : aCod 49 67 = some (.ifCond .eq 74, 70) := by decide +kernel
theorem c_49_70 : aCod 49 70 = some (.sipush 1, 71) := by decide +kernel
theorem c_49_71 : aCod 49 71 = some (.goto 75, 74) := by decide +kernel
theorem c_49_74 : aCod 49 74 = some (.sipush 0, 75) := by decide +kernel
theorem c_49_75 : aCod 49 75 = some (.ireturn, 76) := by decide +kernel
theorem c_50_0 : aCod 50 0 = some (.sipush 0, 1) := by decide +kernel
theorem c_50_1 : aCod 50 1 = some (.istore 2, 2) := by decide +kernel
theorem c_50_2 : aCod 50 2 = some (.sipush 0, 3) := by decide +kernel
theorem c_50_3 : aCod 50 3 = some (.istore 3, 4) := by decide +kernel
theorem c_50_4 : aCod 50 4 = some (.iload 3, 5) := by decide +kernel
theorem c_50_5 : aCod 50 5 = some (.aload 0, 6) := by decide +kernel
theorem c_50_6 : aCod 50 6 = some (.getfield 1024, 9) := by decide +kernel
theorem c_50_9 : aCod 50 9 = some (.getfield 1540, 12) := by decide +kernel
theorem c_50_12 : aCod 50 12 = some (.sipush 2, 13) := by decide +kernel
theorem c_50_13 : aCod 50 13 = some (.iaload, 14) := by decide +kernel
theorem c_50_14 : aCod 50 14 = some (.if_icmp .ge 53, 17) := by decide +kernel
theorem c_50_17 : aCod 50 17 = some (.aload 1, 18) := by decide +kernel
theorem c_50_18 : aCod 50 18 = some (.iload 3, 19) := by decide +kernel
theorem c_50_19 : aCod 50 19 = some (.invokevirtual 8, 22) := by decide +kernel
theorem c_50_22 : aCod 50 22 = some (.ifCond .eq 47, 25) := by decide +kernel
theorem c_50_25 : aCod 50 25 = some (.aload 1, 26) := by decide +kernel
theorem c_50_26 : aCod 50 26 = some (.getfield 261, 29) := by decide +kernel
theorem c_50_29 : aCod 50 29 = some (.iload 3, 30) := by decide +kernel
theorem c_50_30 : aCod 50 30 = some (.iaload, 31) := by decide +kernel
theorem c_50_31 : aCod 50 31 = some (.aload 0, 32) := by decide +kernel
theorem c_50_32 : aCod 50 32 = some (.getfield 1024, 35) := by decide +kernel
theorem c_50_35 : aCod 50 35 = some (.getfield 1551, 38) := by decide +kernel
theorem c_50_38 : aCod 50 38 = some (.if_icmp .lt 47, 41) := by decide +kernel
theorem c_50_41 : aCod 50 41 = some (.iload 2, 42) := by decide +kernel
theorem c_50_42 : aCod 50 42 = some (.sipush 1, 43) := by decide +kernel
theorem c_50_43 : aCod 50 43 = some (.iload 3, 44) := by decide +kernel
theorem c_50_44 : aCod 50 44 = some (.ishl, 45) := by decide +kernel
theorem c_50_45 : aCod 50 45 = some (.ior, 46) := by decide +kernel
theorem c_50_46 : aCod 50 46 = some (.istore 2, 47) := by decide +kernel
theorem c_50_47 : aCod 50 47 = some (.iinc 3 1, 50) := by decide +kernel
theorem c_50_50 : aCod 50 50 = some (.goto 4, 53) := by decide +kernel
theorem c_50_53 : aCod 50 53 = some (.iload 2, 54) := by decide +kernel
theorem c_50_54 : aCod 50 54 = some (.ireturn, 55) := by decide +kernel
theorem c_51_0 : aCod 51 0 = some (.sipush 0, 1) := by decide +kernel
theorem c_51_1 : aCod 51 1 = some (.istore 3, 2) := by decide +kernel
theorem c_51_2 : aCod 51 2 = some (.iload 3, 3) := by decide +kernel
theorem c_51_3 : aCod 51 3 = some (.aload 0, 4) := by decide +kernel
theorem c_51_4 : aCod 51 4 = some (.getfield 1024, 7) := by decide +kernel
theorem c_51_7 : aCod 51 7 = some (.getfield 1540, 10) := by decide +kernel
theorem c_51_10 : aCod 51 10 = some (.sipush 2, 11) := by decide +kernel
theorem c_51_11 : aCod 51 11 = some (.iaload, 12) := by decide +kernel
theorem c_51_12 : aCod 51 12 = some (.if_icmp .ge 49, 15) := by decide +kernel
theorem c_51_15 : aCod 51 15 = some (.iload 2, 16) := by decide +kernel
theorem c_51_16 : aCod 51 16 = some (.iload 3, 17) := by decide +kernel
theorem c_51_17 : aCod 51 17 = some (.ishr, 18) := by decide +kernel
theorem c_51_18 : aCod 51 18 = some (.sipush 1, 19) := by decide +kernel
theorem c_51_19 : aCod 51 19 = some (.iand, 20) := by decide +kernel
theorem c_51_20 : aCod 51 20 = some (.ifCond .eq 43, 23) := by decide +kernel
theorem c_51_23 : aCod 51 23 = some (.aload 0, 24) := by decide +kernel
theorem c_51_24 : aCod 51 24 = some (.aload 1, 25) := by decide +kernel
theorem c_51_25 : aCod 51 25 = some (.iload 3, 26) := by decide +kernel
theorem c_51_26 : aCod 51 26 = some (.invokevirtual 49, 29) := by decide +kernel
theorem c_51_29 : aCod 51 29 = some (.ifCond .eq 43, 32) := by decide +kernel
theorem c_51_32 : aCod 51 32 = some (.aload 1, 33) := by decide +kernel
theorem c_51_33 : aCod 51 33 = some (.iload 3, 34) := by decide +kernel
theorem c_51_34 : aCod 51 34 = some (.aload 0, 35) := by decide +kernel
theorem c_51_35 : aCod 51 35 = some (.aload 1, 36) := by decide +kernel
theorem c_51_36 : aCod 51 36 = some (.iload 3, 37) := by decide +kernel
theorem c_51_37 : aCod 51 37 = some (.invokevirtual 48, 40) := by decide +kernel
theorem c_51_40 : aCod 51 40 = some (.invokevirtual 9, 43) := by decide +kernel
theorem c_51_43 : aCod 51 43 = some (.iinc 3 1, 46) := by decide +kernel
theorem c_51_46 : aCod 51 46 = some (.goto 2, 49) := by decide +kernel
theorem c_51_49 : aCod 51 49 = some (.return_, 50) := by decide +kernel
theorem c_52_0 : aCod 52 0 = some (.aload 0, 1) := by decide +kernel
theorem c_52_1 : aCod 52 1 = some (.aload 1, 2) := by decide +kernel
theorem c_52_2 : aCod 52 2 = some (.iload 2, 3) := by decide +kernel
theorem c_52_3 : aCod 52 3 = some (.invokevirtual 53, 6) := by decide +kernel
theorem c_52_6 : aCod 52 6 = some (.istore 3, 7) := by decide +kernel
theorem c_52_7 : aCod 52 7 = some (.sipush 0, 8) := by decide +kernel
theorem c_52_8 : aCod 52 8 = some (.istore 4, 10) := by decide +kernel
theorem c_52_10 : aCod 52 10 = some (.iload 4, 12) := by decide +kernel
theorem c_52_12 : aCod 52 12 = some (.aload 0, 13) := by decide +kernel
theorem c_52_13 : aCod 52 13 = some (.getfield 1024, 16) := by decide +kernel
theorem c_52_16 : aCod 52 16 = some (.getfield 1540, 19) := by decide +kernel
theorem c_52_19 : aCod 52 19 = some (.sipush 2, 20) := by decide +kernel
theorem c_52_20 : aCod 52 20 = some (.iaload, 21) := by decide +kernel
theorem c_52_21 : aCod 52 21 = some (.if_icmp .ge 77, 24) := by decide +kernel
theorem c_52_24 : aCod 52 24 = some (.aload 1, 25) := by decide +kernel
theorem c_52_25 : aCod 52 25 = some (.iload 4, 27) := by decide +kernel
theorem c_52_27 : aCod 52 27 = some (.invokevirtual 8, 30) := by decide +kernel
theorem c_52_30 : aCod 52 30 = some (.ifCond .eq 71, 33) := by decide +kernel
theorem c_52_33 : aCod 52 33 = some (.aload 1, 34) := by decide +kernel
theorem c_52_34 : aCod 52 34 = some (.getfield 261, 37) := by decide +kernel
theorem c_52_37 : aCod 52 37 = some (.iload 4, 39) := by decide +kernel
theorem c_52_39 : aCod 52 39 = some (.dup2, 40) := by decide +kernel
theorem c_52_40 : aCod 52 40 = some (.iaload, 41) := by decide +kernel
theorem c_52_41 : aCod 52 41 = some (.aload 0, 42) := by decide +kernel
theorem c_52_42 : aCod 52 42 = some (.aload 1, 43) := by decide +kernel
theorem c_52_43 : aCod 52 43 = some (.iload 4, 45) := by decide +kernel
theorem c_52_45 : aCod 52 45 = some (.invokevirtual 54, 48) := by decide +kernel
theorem c_52_48 : aCod 52 48 = some (.isub, 49) := by decide +kernel
theorem c_52_49 : aCod 52 49 = some (.iastore, 50) := by decide +kernel
theorem c_52_50 : aCod 52 50 = some (.aload 1, 51) := by decide +kernel
theorem c_52_51 : aCod 52 51 = some (.getfield 262, 54) := by decide +kernel
theorem c_52_54 : aCod 52 54 = some (.iload 4, 56) := by decide +kernel
theorem c_52_56 : aCod 52 56 = some (.sipush 99, 58) := by decide +kernel
theorem c_52_58 : aCod 52 58 = some (.aload 1, 59) := by decide +kernel
theorem c_52_59 : aCod 52 59 = some (.getfield 262, 62) := by decide +kernel
theorem c_52_62 : aCod 52 62 = some (.iload 4, 64) := by decide +kernel
theorem c_52_64 : aCod 52 64 = some (.iaload, 65) := by decide +kernel
theorem c_52_65 : aCod 52 65 = some (.sipush 1, 66) := by decide +kernel
theorem c_52_66 : aCod 52 66 = some (.iadd, 67) := by decide +kernel
theorem c_52_67 : aCod 52 67 = some (.invokeinterface 2 0, 70) := by decide +kernel
theorem c_52_70 : aCod 52 70 = some (.iastore, 71) := by decide +kernel
theorem c_52_71 : aCod 52 71 = some (.iinc 4 1, 74) := by decide +kernel
theorem c_52_74 : aCod 52 74 = some (.goto 10, 77) := by decide +kernel
theorem c_52_77 : aCod 52 77 = some (.aload 1, 78) := by decide +kernel
theorem c_52_78 : aCod 52 78 = some (.dup, 79) := by decide +kernel
theorem c_52_79 : aCod 52 79 = some (.getfield 256, 82) := by decide +kernel
theorem c_52_82 : aCod 52 82 = some (.sipush 1, 83) := by decide +kernel
theorem c_52_83 : aCod 52 83 = some (.iadd, 84) := by decide +kernel
theorem c_52_84 : aCod 52 84 = some (.putfield 256, 87) := by decide +kernel
theorem c_52_87 : aCod 52 87 = some (.iload 3, 88) := by decide +kernel
theorem c_52_88 : aCod 52 88 = some (.ireturn, 89) := by decide +kernel
theorem c_53_0 : aCod 53 0 = some (.sipush 0, 1) := by decide +kernel
theorem c_53_1 : aCod 53 1 = some (.istore 3, 2) := by decide +kernel
theorem c_53_2 : aCod 53 2 = some (.iload 3, 3) := by decide +kernel
theorem c_53_3 : aCod 53 3 = some (.aload 0, 4) := by decide +kernel
theorem c_53_4 : aCod 53 4 = some (.getfield 1024, 7) := by decide +kernel
theorem c_53_7 : aCod 53 7 = some (.getfield 1540, 10) := by decide +kernel
theorem c_53_10 : aCod 53 10 = some (.sipush 0, 11) := by decide +kernel
theorem c_53_11 : aCod 53 11 = some (.iaload, 12) := by decide +kernel
theorem c_53_12 : aCod 53 12 = some (.if_icmp .ge 65, 15) := by decide +kernel
theorem c_53_15 : aCod 53 15 = some (.iload 2, 16) := by decide +kernel
theorem c_53_16 : aCod 53 16 = some (.iload 3, 17) := by decide +kernel
theorem c_53_17 : aCod 53 17 = some (.ishr, 18) := by decide +kernel
theorem c_53_18 : aCod 53 18 = some (.sipush 1, 19) := by decide +kernel
theorem c_53_19 : aCod 53 19 = some (.iand, 20) := by decide +kernel
theorem c_53_20 : aCod 53 20 = some (.ifCond .ne 59, 23) := by decide +kernel
theorem c_53_23 : aCod 53 23 = some (.aload 1, 24) := by decide +kernel
theorem c_53_24 : aCod 53 24 = some (.dup, 25) := by decide +kernel
theorem c_53_25 : aCod 53 25 = some (.getfield 257, 28) := by decide +kernel
theorem c_53_28 : aCod 53 28 = some (.aload 0, 29) := by decide +kernel
theorem c_53_29 : aCod 53 29 = some (.getfield 1024, 32) := by decide +kernel
theorem c_53_32 : aCod 53 32 = some (.getfield 1542, 35) := by decide +kernel
theorem c_53_35 : aCod 53 35 = some (.iload 3, 36) := by decide +kernel
theorem c_53_36 : aCod 53 36 = some (.iaload, 37) := by decide +kernel
theorem c_53_37 : aCod 53 37 = some (.iadd, 38) := by decide +kernel
theorem c_53_38 : aCod 53 38 = some (.putfield 257, 41) := by decide +kernel
theorem c_53_41 : aCod 53 41 = some (.aload 1, 42) := by decide +kernel
theorem c_53_42 : aCod 53 42 = some (.dup, 43) := by decide +kernel
theorem c_53_43 : aCod 53 43 = some (.getfield 258, 46) := by decide +kernel
theorem c_53_46 : aCod 53 46 = some (.aload 0, 47) := by decide +kernel
theorem c_53_47 : aCod 53 47 = some (.getfield 1024, 50) := by decide +kernel
theorem c_53_50 : aCod 53 50 = some (.getfield 1543, 53) := by decide +kernel
theorem c_53_53 : aCod 53 53 = some (.iload 3, 54) := by decide +kernel
theorem c_53_54 : aCod 53 54 = some (.iaload, 55) := by decide +kernel
theorem c_53_55 : aCod 53 55 = some (.iadd, 56) := by decide +kernel
theorem c_53_56 : aCod 53 56 = some (.putfield 258, 59) := by decide +kernel
theorem c_53_59 : aCod 53 59 = some (.iinc 3 1, 62) := by decide +kernel
theorem c_53_62 : aCod 53 62 = some (.goto 2, 65) := by decide +kernel
theorem c_53_65 : aCod 53 65 = some (.sipush 0, 66) := by decide +kernel
theorem c_53_66 : aCod 53 66 = some (.aload 1, 67) := by decide +kernel
theorem c_53_67 : aCod 53 67 = some (.getfield 257, 70) := by decide +kernel
theorem c_53_70 : aCod 53 70 = some (.aload 0, 71) := by decide +kernel
theorem c_53_71 : aCod 53 71 = some (.getfield 1024, 74) := by decide +kernel
theorem c_53_74 : aCod 53 74 = some (.getfield 1537, 77) := by decide +kernel
theorem c_53_77 : aCod 53 77 = some (.isub, 78) := by decide +kernel
theorem c_53_78 : aCod 53 78 = some (.invokeinterface 1 0, 81) := by decide +kernel
theorem c_53_81 : aCod 53 81 = some (.istore 3, 82) := by decide +kernel
theorem c_53_82 : aCod 53 82 = some (.iload 3, 83) := by decide +kernel
theorem c_53_83 : aCod 53 83 = some (.ifCond .le 125, 86) := by decide +kernel
theorem c_53_86 : aCod 53 86 = some (.aload 1, 87) := by decide +kernel
theorem c_53_87 : aCod 53 87 = some (.getfield 257, 90) := by decide +kernel
theorem c_53_90 : aCod 53 90 = some (.ifCond .le 125, 93) := by decide +kernel
theorem c_53_93 : aCod 53 93 = some (.aload 1, 94) := by decide +kernel
theorem c_53_94 : aCod 53 94 = some (.aload 1, 95) := by decide +kernel
theorem c_53_95 : aCod 53 95 = some (.getfield 258, 98) := by decide +kernel
theorem c_53_98 : aCod 53 98 = some (.aload 0, 99) := by decide +kernel
theorem c_53_99 : aCod 53 99 = some (.getfield 1024, 102) := by decide +kernel
theorem c_53_102 : aCod 53 102 = some (.getfield 1537, 105) := by decide +kernel
theorem c_53_105 : aCod 53 105 = some (.imul, 106) := by decide +kernel
theorem c_53_106 : aCod 53 106 = some (.aload 1, 107) := by decide +kernel
theorem c_53_107 : aCod 53 107 = some (.getfield 257, 110) := by decide +kernel
theorem c_53_110 : aCod 53 110 = some (.idiv, 111) := by decide +kernel
theorem c_53_111 : aCod 53 111 = some (.putfield 258, 114) := by decide +kernel
theorem c_53_114 : aCod 53 114 = some (.aload 1, 115) := by decide +kernel
theorem c_53_115 : aCod 53 115 = some (.aload 0, 116) := by decide +kernel
theorem c_53_116 : aCod 53 116 = some (.getfield 1024, 119) := by decide +kernel
theorem c_53_119 : aCod 53 119 = some (.getfield 1537, 122) := by decide +kernel
theorem c_53_122 : aCod 53 122 = some (.putfield 257, 125) := by decide +kernel
theorem c_53_125 : aCod 53 125 = some (.aload 1, 126) := by decide +kernel
theorem c_53_126 : aCod 53 126 = some (.dup, 127) := by decide +kernel
theorem c_53_127 : aCod 53 127 = some (.getfield 257, 130) := by decide +kernel
theorem c_53_130 : aCod 53 130 = some (.aload 1, 131) := by decide +kernel
theorem c_53_131 : aCod 53 131 = some (.getfield 257, 134) := by decide +kernel
theorem c_53_134 : aCod 53 134 = some (.aload 0, 135) := by decide +kernel
theorem c_53_135 : aCod 53 135 = some (.getfield 1024, 138) := by decide +kernel
theorem c_53_138 : aCod 53 138 = some (.getfield 1550, 141) := by decide +kernel
theorem c_53_141 : aCod 53 141 = some (.imul, 142) := by decide +kernel
theorem c_53_142 : aCod 53 142 = some (.sipush 100, 144) := by decide +kernel
theorem c_53_144 : aCod 53 144 = some (.idiv, 145) := by decide +kernel
theorem c_53_145 : aCod 53 145 = some (.isub, 146) := by decide +kernel
theorem c_53_146 : aCod 53 146 = some (.putfield 257, 149) := by decide +kernel
theorem c_53_149 : aCod 53 149 = some (.aload 1, 150) := by decide +kernel
theorem c_53_150 : aCod 53 150 = some (.sipush 9999, 153) := by decide +kernel
theorem c_53_153 : aCod 53 153 = some (.aload 1, 154) := by decide +kernel
theorem c_53_154 : aCod 53 154 = some (.getfield 258, 157) := by decide +kernel
theorem c_53_157 : aCod 53 157 = some (.invokeinterface 2 0, 160) := by decide +kernel
theorem c_53_160 : aCod 53 160 = some (.putfield 258, 163) := by decide +kernel
theorem c_53_163 : aCod 53 163 = some (.iload 3, 164) := by decide +kernel
theorem c_53_164 : aCod 53 164 = some (.ireturn, 165) := by decide +kernel
theorem c_54_0 : aCod 54 0 = some (.aload 0, 1) := by decide +kernel
theorem c_54_1 : aCod 54 1 = some (.getfield 1024, 4) := by decide +kernel
theorem c_54_4 : aCod 54 4 = some (.getfield 1549, 7) := by decide +kernel
theorem c_54_7 : aCod 54 7 = some (.sipush 1, 8) := by decide +kernel
theorem c_54_8 : aCod 54 8 = some (.invokevirtual 73, 11) := by decide +kernel
theorem c_54_11 : aCod 54 11 = some (.ifCond .ne 16, 14) := by decide +kernel
theorem c_54_14 : aCod 54 14 = some (.sipush 0, 15) := by decide +kernel
theorem c_54_15 : aCod 54 15 = some (.ireturn, 16) := by decide +kernel
theorem c_54_16 : aCod 54 16 = some (.sipush 0, 17) := by decide +kernel
theorem c_54_17 : aCod 54 17 = some (.aload 0, 18) := by decide +kernel
theorem c_54_18 : aCod 54 18 = some (.aload 0, 19) := by decide +kernel
theorem c_54_19 : aCod 54 19 = some (.getfield 1024, 22) := by decide +kernel
theorem c_54_22 : aCod 54 22 = some (.getfield 1549, 25) := by decide +kernel
theorem c_54_25 : aCod 54 25 = some (.sipush 1, 26) := by decide +kernel
theorem c_54_26 : aCod 54 26 = some (.aload 1, 27) := by decide +kernel
theorem c_54_27 : aCod 54 27 = some (.iload 2, 28) := by decide +kernel
theorem c_54_28 : aCod 54 28 = some (.invokevirtual 55, 31) := by decide +kernel
theorem c_54_31 : aCod 54 31 = some (.i2l, 32) := by decide +kernel
theorem c_54_32 : aCod 54 32 = some (.aload 1, 33) := by decide +kernel
theorem c_54_33 : aCod 54 33 = some (.getfield 261, 36) := by decide +kernel
theorem c_54_36 : aCod 54 36 = some (.iload 2, 37) := by decide +kernel
theorem c_54_37 : aCod 54 37 = some (.iaload, 38) := by decide +kernel
theorem c_54_38 : aCod 54 38 = some (.invokestatic 59, 41) := by decide +kernel
theorem c_54_41 : aCod 54 41 = some (.ireturn, 42) := by decide +kernel
theorem c_55_0 : aCod 55 0 = some (.sipush 0, 1) := by decide +kernel
theorem c_55_1 : aCod 55 1 = some (.istore 5, 3) := by decide +kernel
theorem c_55_3 : aCod 55 3 = some (.sipush 0, 4) := by decide +kernel
theorem c_55_4 : aCod 55 4 = some (.aload 1, 5) := by decide +kernel
theorem c_55_5 : aCod 55 5 = some (.getfield 1793, 8) := by decide +kernel
theorem c_55_8 : aCod 55 8 = some (.iload 2, 9) := by decide +kernel
theorem c_55_9 : aCod 55 9 = some (.iaload, 10) := by decide +kernel
theorem c_55_10 : aCod 55 10 = some (.invokeinterface 1 0, 13) := by decide +kernel
theorem c_55_13 : aCod 55 13 = some (.istore 6, 15) := by decide +kernel
theorem c_55_15 : aCod 55 15 = some (.iload 6, 17) := by decide +kernel
theorem c_55_17 : aCod 55 17 = some (.aload 1, 18) := by decide +kernel
theorem c_55_18 : aCod 55 18 = some (.getfield 1794, 21) := by decide +kernel
theorem c_55_21 : aCod 55 21 = some (.iload 2, 22) := by decide +kernel
theorem c_55_22 : aCod 55 22 = some (.iaload, 23) := by decide +kernel
theorem c_55_23 : aCod 55 23 = some (.if_icmp .ge 207, 26) := by decide +kernel
theorem c_55_26 : aCod 55 26 = some (.aload 1, 27) := by decide +kernel
theorem c_55_27 : aCod 55 27 = some (.getfield 1792, 30) := by decide +kernel
theorem c_55_30 : aCod 55 30 = some (.iload 6, 32) := by decide +kernel
theorem c_55_32 : aCod 55 32 = some (.iaload, 33) := by decide +kernel
theorem c_55_33 : aCod 55 33 = some (.istore 7, 35) := by decide +kernel
theorem c_55_35 : aCod 55 35 = some (.iload 7, 37) := by decide +kernel
theorem c_55_37 : aCod 55 37 = some (.sipush 328, 40) := by decide +kernel
theorem c_55_40 : aCod 55 40 = some (.if_icmp .ne 72, 43) := by decide +kernel
theorem c_55_43 : aCod 55 43 = some (.iload 5, 45) := by decide +kernel
theorem c_55_45 : aCod 55 45 = some (.sipush 1, 46) := by decide +kernel
theorem c_55_46 : aCod 55 46 = some (.if_icmp .lt 72, 49) := by decide +kernel
theorem c_55_49 : aCod 55 49 = some (.aload 0, 50) := by decide +kernel
theorem c_55_50 : aCod 55 50 = some (.getfield 1026, 53) := by decide +kernel
theorem c_55_53 : aCod 55 53 = some (.iload 5, 55) := by decide +kernel
theorem c_55_55 : aCod 55 55 = some (.sipush 1, 56) := by decide +kernel
theorem c_55_56 : aCod 55 56 = some (.isub, 57) := by decide +kernel
theorem c_55_57 : aCod 55 57 = some (.sipush 1, 58) := by decide +kernel
theorem c_55_58 : aCod 55 58 = some (.aload 0, 59) := by decide +kernel
theorem c_55_59 : aCod 55 59 = some (.getfield 1026, 62) := by decide +kernel
theorem c_55_62 : aCod 55 62 = some (.iload 5, 64) := by decide +kernel
theorem c_55_64 : aCod 55 64 = some (.sipush 1, 65) := by decide +kernel
theorem c_55_65 : aCod 55 65 = some (.isub, 66) := by decide +kernel
theorem c_55_66 : aCod 55 66 = some (.iaload, 67) := by decide +kernel
theorem c_55_67 : aCod 55 67 = some (.isub, 68) := by decide +kernel
theorem c_55_68 : aCod 55 68 = some (.iastore, 69) := by decide +kernel
theorem c_55_69 : aCod 55 69 = some (.goto 201, 72) := by decide +kernel
theorem c_55_72 : aCod 55 72 = some (.iload 7, 74) := by decide +kernel
theorem c_55_74 : aCod 55 74 = some (.sipush 312, 77) := by decide +kernel
theorem c_55_77 : aCod 55 77 = some (.if_icmp .ne 125, 80) := by decide +kernel
theorem c_55_80 : aCod 55 80 = some (.iload 5, 82) := by decide +kernel
theorem c_55_82 : aCod 55 82 = some (.sipush 1, 83) := by decide +kernel
theorem c_55_83 : aCod 55 83 = some (.if_icmp .lt 125, 86) := by decide +kernel
theorem c_55_86 : aCod 55 86 = some (.aload 0, 87) := by decide +kernel
theorem c_55_87 : aCod 55 87 = some (.getfield 1026, 90) := by decide +kernel
theorem c_55_90 : aCod 55 90 = some (.iload 5, 92) := by decide +kernel
theorem c_55_92 : aCod 55 92 = some (.sipush 1, 93) := by decide +kernel
theorem c_55_93 : aCod 55 93 = some (.isub, 94) := by decide +kernel
theorem c_55_94 : aCod 55 94 = some (.aload 0, 95) := by decide +kernel
theorem c_55_95 : aCod 55 95 = some (.getfield 1026, 98) := by decide +kernel
theorem c_55_98 : aCod 55 98 = some (.iload 5, 100) := by decide +kernel
theorem c_55_100 : aCod 55 100 = some (.sipush 1, 101) := by decide +kernel
theorem c_55_101 : aCod 55 101 = some (.isub, 102) := by decide +kernel
theorem c_55_102 : aCod 55 102 = some (.iaload, 103) := by decide +kernel
theorem c_55_103 : aCod 55 103 = some (.aload 0, 104) := by decide +kernel
theorem c_55_104 : aCod 55 104 = some (.getfield 1024, 107) := by decide +kernel
theorem c_55_107 : aCod 55 107 = some (.getfield 1545, 110) := by decide +kernel
theorem c_55_110 : aCod 55 110 = some (.iload 4, 112) := by decide +kernel
theorem c_55_112 : aCod 55 112 = some (.iaload, 113) := by decide +kernel
theorem c_55_113 : aCod 55 113 = some (.if_icmp .ne 120, 116) := by decide +kernel
theorem c_55_116 : aCod 55 116 = some (.sipush 1, 117) := by decide +kernel
theorem c_55_117 : aCod 55 117 = some (.goto 121, 120) := by decide +kernel
theorem c_55_120 : aCod 55 120 = some (.sipush 0, 121) := by decide +kernel
theorem c_55_121 : aCod 55 121 = some (.iastore, 122) := by decide +kernel
theorem c_55_122 : aCod 55 122 = some (.goto 201, 125) := by decide +kernel
theorem c_55_125 : aCod 55 125 = some (.iload 7, 127) := by decide +kernel
theorem c_55_127 : aCod 55 127 = some (.invokestatic 56, 130) := by decide +kernel
theorem c_55_130 : aCod 55 130 = some (.ifCond .eq 175, 133) := by decide +kernel
theorem c_55_133 : aCod 55 133 = some (.iload 5, 135) := by decide +kernel
theorem c_55_135 : aCod 55 135 = some (.sipush 2, 136) := by decide +kernel
theorem c_55_136 : aCod 55 136 = some (.if_icmp .lt 175, 139) := by decide +kernel
theorem c_55_139 : aCod 55 139 = some (.iinc 5 (-1), 142) := by decide +kernel
theorem c_55_142 : aCod 55 142 = some (.aload 0, 143) := by decide +kernel
theorem c_55_143 : aCod 55 143 = some (.getfield 1026, 146) := by decide +kernel
theorem c_55_146 : aCod 55 146 = some (.iload 5, 148) := by decide +kernel
theorem c_55_148 : aCod 55 148 = some (.sipush 1, 149) := by decide +kernel
theorem c_55_149 : aCod 55 149 = some (.isub, 150) := by decide +kernel
theorem c_55_150 : aCod 55 150 = some (.iload 7, 152) := by decide +kernel
theorem c_55_152 : aCod 55 152 = some (.aload 0, 153) := by decide +kernel
theorem c_55_153 : aCod 55 153 = some (.getfield 1026, 156) := by decide +kernel
theorem c_55_156 : aCod 55 156 = some (.iload 5, 158) := by decide +kernel
theorem c_55_158 : aCod 55 158 = some (.sipush 1, 159) := by decide +kernel
theorem c_55_159 : aCod 55 159 = some (.isub, 160) := by decide +kernel
theorem c_55_160 : aCod 55 160 = some (.iaload, 161) := by decide +kernel
theorem c_55_161 : aCod 55 161 = some (.aload 0, 162) := by decide +kernel
theorem c_55_162 : aCod 55 162 = some (.getfield 1026, 165) := by decide +kernel
theorem c_55_165 : aCod 55 165 = some (.iload 5, 167) := by decide +kernel
theorem c_55_167 : aCod 55 167 = some (.iaload, 168) := by decide +kernel
theorem c_55_168 : aCod 55 168 = some (.invokestatic 57, 171) := by decide +kernel
theorem c_55_171 : aCod 55 171 = some (.iastore, 172) := by decide +kernel
theorem c_55_172 : aCod 55 172 = some (.goto 201, 175) := by decide +kernel
theorem c_55_175 : aCod 55 175 = some (.iload 5, 177) := by decide +kernel
theorem c_55_177 : aCod 55 177 = some (.sipush 64, 179) := by decide +kernel
theorem c_55_179 : aCod 55 179 = some (.if_icmp .ge 201, 182) := by decide +kernel
theorem c_55_182 : aCod 55 182 = some (.aload 0, 183) := by decide +kernel
theorem c_55_183 : aCod 55 183 = some (.getfield 1026, 186) := by decide +kernel
theorem c_55_186 : aCod 55 186 = some (.iload 5, 188) := by decide +kernel
theorem c_55_188 : aCod 55 188 = some (.aload 0, 189) := by decide +kernel
theorem c_55_189 : aCod 55 189 = some (.iload 7, 191) := by decide +kernel
theorem c_55_191 : aCod 55 191 = some (.aload 3, 192) := by decide +kernel
theorem c_55_192 : aCod 55 192 = some (.iload 4, 194) := by decide +kernel
theorem c_55_194 : aCod 55 194 = some (.invokevirtual 58, 197) := by decide +kernel
theorem c_55_197 : aCod 55 197 = some (.iastore, 198) := by decide +kernel
theorem c_55_198 : aCod 55 198 = some (.iinc 5 1, 201) := by decide +kernel
theorem c_55_201 : aCod 55 201 = some (.iinc 6 1, 204) := by decide +kernel
theorem c_55_204 : aCod 55 204 = some (.goto 15, 207) := by decide +kernel
theorem c_55_207 : aCod 55 207 = some (.iload 5, 209) := by decide +kernel
theorem c_55_209 : aCod 55 209 = some (.ifCond .ne 216, 212) := by decide +kernel
theorem c_55_212 : aCod 55 212 = some (.sipush 0, 213) := by decide +kernel
theorem c_55_213 : aCod 55 213 = some (.goto 225, 216) := by decide +kernel
theorem c_55_216 : aCod 55 216 = some (.aload 0, 217) := by decide +kernel
theorem c_55_217 : aCod 55 217 = some (.getfield 1026, 220) := by decide +kernel
theorem c_55_220 : aCod 55 220 = some (.iload 5, 222) := by decide +kernel
theorem c_55_222 : aCod 55 222 = some (.sipush 1, 223) := by decide +kernel
theorem c_55_223 : aCod 55 223 = some (.isub, 224) := by decide +kernel
theorem c_55_224 : aCod 55 224 = some (.iaload, 225) := by decide +kernel
theorem c_55_225 : aCod 55 225 = some (.ireturn, 226) := by decide +kernel
theorem c_56_0 : aCod 56 0 = some (.iload 0, 1) := by decide +kernel
theorem c_56_1 : aCod 56 1 = some (.sipush 300, 4) := by decide +kernel
theorem c_56_4 : aCod 56 4 = some (.if_icmp .lt 35, 7) := by decide +kernel
theorem c_56_7 : aCod 56 7 = some (.iload 0, 8) := by decide +kernel
theorem c_56_8 : aCod 56 8 = some (.sipush 326, 11) := by decide +kernel
theorem c_56_11 : aCod 56 11 = some (.if_icmp .eq 35, 14) := by decide +kernel
theorem c_56_14 : aCod 56 14 = some (.iload 0, 15) := by decide +kernel
theorem c_56_15 : aCod 56 15 = some (.sipush 327, 18) := by decide +kernel
theorem c_56_18 : aCod 56 18 = some (.if_icmp .eq 35, 21) := by decide +kernel
theorem c_56_21 : aCod 56 21 = some (.iload 0, 22) := by decide +kernel
theorem c_56_22 : aCod 56 22 = some (.sipush 330, 25) := by decide +kernel
theorem c_56_25 : aCod 56 25 = some (.if_icmp .eq 35, 28) := by decide +kernel
theorem c_56_28 : aCod 56 28 = some (.iload 0, 29) := by decide +kernel
theorem c_56_29 : aCod 56 29 = some (.sipush 331, 32) := by decide +kernel
theorem c_56_32 : aCod 56 32 = some (.if_icmp .ne 39, 35) := by decide +kernel
theorem c_56_35 : aCod 56 35 = some (.sipush 1, 36) := by decide +kernel
theorem c_56_36 : aCod 56 36 = some (.goto 40, 39) := by decide +kernel
theorem c_56_39 : aCod 56 39 = some (.sipush 0, 40) := by decide +kernel
theorem c_56_40 : aCod 56 40 = some (.ireturn, 41) := by decide +kernel
theorem c_57_0 : aCod 57 0 = some (.iload 0, 1) := by decide +kernel
theorem c_57_1 : aCod 57 1 = some (.lookupswitch 192 #[(42, 118), (43, 92), (45, 105), (47, 131), (60, 145), (61, 167), (62, 156), (326, 178), (327, 182), (330, 186)], 92) := by decide +kernel
theorem c_57_92 : aCod 57 92 = some (.sipush (-1000000), 94) := by decide +kernel
theorem c_57_94 : aCod 57 94 = some (.iload 1, 95) := by decide +kernel
theorem c_57_95 : aCod 57 95 = some (.i2l, 96) := by decide +kernel
theorem c_57_96 : aCod 57 96 = some (.iload 2, 97) := by decide +kernel
theorem c_57_97 : aCod 57 97 = some (.i2l, 98) := by decide +kernel
theorem c_57_98 : aCod 57 98 = some (.ladd, 99) := by decide +kernel
theorem c_57_99 : aCod 57 99 = some (.sipush 1000000, 101) := by decide +kernel
theorem c_57_101 : aCod 57 101 = some (.invokestatic 59, 104) := by decide +kernel
theorem c_57_104 : aCod 57 104 = some (.ireturn, 105) := by decide +kernel
theorem c_57_105 : aCod 57 105 = some (.sipush (-1000000), 107) := by decide +kernel
theorem c_57_107 : aCod 57 107 = some (.iload 1, 108) := by decide +kernel
theorem c_57_108 : aCod 57 108 = some (.i2l, 109) := by decide +kernel
theorem c_57_109 : aCod 57 109 = some (.iload 2, 110) := by decide +kernel
theorem c_57_110 : aCod 57 110 = some (.i2l, 111) := by decide +kernel
theorem c_57_111 : aCod 57 111 = some (.lsub, 112) := by decide +kernel
theorem c_57_112 : aCod 57 112 = some (.sipush 1000000, 114) := by decide +kernel
theorem c_57_114 : aCod 57 114 = some (.invokestatic 59, 117) := by decide +kernel
theorem c_57_117 : aCod 57 117 = some (.ireturn, 118) := by decide +kernel
theorem c_57_118 : aCod 57 118 = some (.sipush (-1000000), 120) := by decide +kernel
theorem c_57_120 : aCod 57 120 = some (.iload 1, 121) := by decide +kernel
theorem c_57_121 : aCod 57 121 = some (.i2l, 122) := by decide +kernel
theorem c_57_122 : aCod 57 122 = some (.iload 2, 123) := by decide +kernel
theorem c_57_123 : aCod 57 123 = some (.i2l, 124) := by decide +kernel
theorem c_57_124 : aCod 57 124 = some (.lmul, 125) := by decide +kernel
theorem c_57_125 : aCod 57 125 = some (.sipush 1000000, 127) := by decide +kernel
theorem c_57_127 : aCod 57 127 = some (.invokestatic 59, 130) := by decide +kernel
theorem c_57_130 : aCod 57 130 = some (.ireturn, 131) := by decide +kernel
theorem c_57_131 : aCod 57 131 = some (.iload 2, 132) := by decide +kernel
theorem c_57_132 : aCod 57 132 = some (.ifCond .ne 139, 135) := by decide +kernel
theorem c_57_135 : aCod 57 135 = some (.sipush 0, 136) := by decide +kernel
theorem c_57_136 : aCod 57 136 = some (.goto 144, 139) := by decide +kernel
theorem c_57_139 : aCod 57 139 = some (.iload 1, 140) := by decide +kernel
theorem c_57_140 : aCod 57 140 = some (.iload 2, 141) := by decide +kernel
theorem c_57_141 : aCod 57 141 = some (.invokestatic 258, 144) := by decide +kernel
theorem c_57_144 : aCod 57 144 = some (.ireturn, 145) := by decide +kernel
theorem c_57_145 : aCod 57 145 = some (.iload 1, 146) := by decide +kernel
theorem c_57_146 : aCod 57 146 = some (.iload 2, 147) := by decide +kernel
theorem c_57_147 : aCod 57 147 = some (.if_icmp .ge 154, 150) := by decide +kernel
theorem c_57_150 : aCod 57 150 = some (.sipush 1, 151) := by decide +kernel
theorem c_57_151 : aCod 57 151 = some (.goto 155, 154) := by decide +kernel
theorem c_57_154 : aCod 57 154 = some (.sipush 0, 155) := by decide +kernel
theorem c_57_155 : aCod 57 155 = some (.ireturn, 156) := by decide +kernel
theorem c_57_156 : aCod 57 156 = some (.iload 1, 157) := by decide +kernel
theorem c_57_157 : aCod 57 157 = some (.iload 2, 158) := by decide +kernel
theorem c_57_158 : aCod 57 158 = some (.if_icmp .le 165, 161) := by decide +kernel
theorem c_57_161 : aCod 57 161 = some (.sipush 1, 162) := by decide +kernel
theorem c_57_162 : aCod 57 162 = some (.goto 166, 165) := by decide +kernel
theorem c_57_165 : aCod 57 165 = some (.sipush 0, 166) := by decide +kernel
theorem c_57_166 : aCod 57 166 = some (.ireturn, 167) := by decide +kernel
theorem c_57_167 : aCod 57 167 = some (.iload 1, 168) := by decide +kernel
theorem c_57_168 : aCod 57 168 = some (.iload 2, 169) := by decide +kernel
theorem c_57_169 : aCod 57 169 = some (.if_icmp .ne 176, 172) := by decide +kernel
theorem c_57_172 : aCod 57 172 = some (.sipush 1, 173) := by decide +kernel
theorem c_57_173 : aCod 57 173 = some (.goto 177, 176) := by decide +kernel
theorem c_57_176 : aCod 57 176 = some (.sipush 0, 177) := by decide +kernel
theorem c_57_177 : aCod 57 177 = some (.ireturn, 178) := by decide +kernel
theorem c_57_178 : aCod 57 178 = some (.iload 1, 179) := by decide +kernel
theorem c_57_179 : aCod 57 179 = some (.iload 2, 180) := by decide +kernel
theorem c_57_180 : aCod 57 180 = some (.ior, 181) := by decide +kernel
theorem c_57_181 : aCod 57 181 = some (.ireturn, 182) := by decide +kernel
theorem c_57_182 : aCod 57 182 = some (.iload 1, 183) := by decide +kernel
theorem c_57_183 : aCod 57 183 = some (.iload 2, 184) := by decide +kernel
theorem c_57_184 : aCod 57 184 = some (.iand, 185) := by decide +kernel
theorem c_57_185 : aCod 57 185 = some (.ireturn, 186) := by decide +kernel
theorem c_57_186 : aCod 57 186 = some (.iload 1, 187) := by decide +kernel
theorem c_57_187 : aCod 57 187 = some (.iload 2, 188) := by decide +kernel
theorem c_57_188 : aCod 57 188 = some (.invokeinterface 2 0, 191) := by decide +kernel
theorem c_57_191 : aCod 57 191 = some (.ireturn, 192) := by decide +kernel
theorem c_57_192 : aCod 57 192 = some (.iload 1, 193) := by decide +kernel
theorem c_57_193 : aCod 57 193 = some (.iload 2, 194) := by decide +kernel
theorem c_57_194 : aCod 57 194 = some (.invokeinterface 1 0, 197) := by decide +kernel
theorem c_57_197 : aCod 57 197 = some (.ireturn, 198) := by decide +kernel
theorem c_58_0 : aCod 58 0 = some (.iload 1, 1) := by decide +kernel
theorem c_58_1 : aCod 58 1 = some (.tableswitch 194 307 329 #[128, 194, 194, 108, 118, 194, 187, 194, 194, 194, 194, 194, 146, 151, 156, 161, 168, 175, 177, 194, 194, 194, 192], 108) := by decide +kernel
theorem c_58_108 : aCod 58 108 = some (.aload 0, 109) := by decide +kernel
theorem c_58_109 : aCod 58 109 = some (.getfield 1024, 112) := by decide +kernel
theorem c_58_112 : aCod 58 112 = some (.getfield 1546, 115) := by decide +kernel
theorem c_58_115 : aCod 58 115 = some (.iload 3, 116) := by decide +kernel
theorem c_58_116 : aCod 58 116 = some (.iaload, 117) := by decide +kernel
theorem c_58_117 : aCod 58 117 = some (.ireturn, 118) := by decide +kernel
theorem c_58_118 : aCod 58 118 = some (.aload 0, 119) := by decide +kernel
theorem c_58_119 : aCod 58 119 = some (.getfield 1024, 122) := by decide +kernel
theorem c_58_122 : aCod 58 122 = some (.getfield 1547, 125) := by decide +kernel
theorem c_58_125 : aCod 58 125 = some (.iload 3, 126) := by decide +kernel
theorem c_58_126 : aCod 58 126 = some (.iaload, 127) := by decide +kernel
theorem c_58_127 : aCod 58 127 = some (.ireturn, 128) := by decide +kernel
theorem c_58_128 : aCod 58 128 = some (.aload 0, 129) := by decide +kernel
theorem c_58_129 : aCod 58 129 = some (.getfield 1024, 132) := by decide +kernel
theorem c_58_132 : aCod 58 132 = some (.getfield 1544, 135) := by decide +kernel
theorem c_58_135 : aCod 58 135 = some (.aload 0, 136) := by decide +kernel
theorem c_58_136 : aCod 58 136 = some (.getfield 1024, 139) := by decide +kernel
theorem c_58_139 : aCod 58 139 = some (.getfield 1545, 142) := by decide +kernel
theorem c_58_142 : aCod 58 142 = some (.iload 3, 143) := by decide +kernel
theorem c_58_143 : aCod 58 143 = some (.iaload, 144) := by decide +kernel
theorem c_58_144 : aCod 58 144 = some (.iaload, 145) := by decide +kernel
theorem c_58_145 : aCod 58 145 = some (.ireturn, 146) := by decide +kernel
theorem c_58_146 : aCod 58 146 = some (.aload 2, 147) := by decide +kernel
theorem c_58_147 : aCod 58 147 = some (.getfield 256, 150) := by decide +kernel
theorem c_58_150 : aCod 58 150 = some (.ireturn, 151) := by decide +kernel
theorem c_58_151 : aCod 58 151 = some (.aload 2, 152) := by decide +kernel
theorem c_58_152 : aCod 58 152 = some (.getfield 257, 155) := by decide +kernel
theorem c_58_155 : aCod 58 155 = some (.ireturn, 156) := by decide +kernel
theorem c_58_156 : aCod 58 156 = some (.aload 2, 157) := by decide +kernel
theorem c_58_157 : aCod 58 157 = some (.invokevirtual 7, 160) := by decide +kernel
theorem c_58_160 : aCod 58 160 = some (.ireturn, 161) := by decide +kernel
theorem c_58_161 : aCod 58 161 = some (.aload 2, 162) := by decide +kernel
theorem c_58_162 : aCod 58 162 = some (.getfield 261, 165) := by decide +kernel
theorem c_58_165 : aCod 58 165 = some (.iload 3, 166) := by decide +kernel
theorem c_58_166 : aCod 58 166 = some (.iaload, 167) := by decide +kernel
theorem c_58_167 : aCod 58 167 = some (.ireturn, 168) := by decide +kernel
theorem c_58_168 : aCod 58 168 = some (.aload 2, 169) := by decide +kernel
theorem c_58_169 : aCod 58 169 = some (.getfield 262, 172) := by decide +kernel
theorem c_58_172 : aCod 58 172 = some (.iload 3, 173) := by decide +kernel
theorem c_58_173 : aCod 58 173 = some (.iaload, 174) := by decide +kernel
theorem c_58_174 : aCod 58 174 = some (.ireturn, 175) := by decide +kernel
theorem c_58_175 : aCod 58 175 = some (.iload 3, 176) := by decide +kernel
theorem c_58_176 : aCod 58 176 = some (.ireturn, 177) := by decide +kernel
theorem c_58_177 : aCod 58 177 = some (.aload 0, 178) := by decide +kernel
theorem c_58_178 : aCod 58 178 = some (.getfield 1024, 181) := by decide +kernel
theorem c_58_181 : aCod 58 181 = some (.getfield 1548, 184) := by decide +kernel
theorem c_58_184 : aCod 58 184 = some (.iload 3, 185) := by decide +kernel
theorem c_58_185 : aCod 58 185 = some (.iaload, 186) := by decide +kernel
theorem c_58_186 : aCod 58 186 = some (.ireturn, 187) := by decide +kernel
theorem c_58_187 : aCod 58 187 = some (.aload 0, 188) := by decide +kernel
theorem c_58_188 : aCod 58 188 = some (.getfield 1025, 191) := by decide +kernel
theorem c_58_191 : aCod 58 191 = some (.ireturn, 192) := by decide +kernel
theorem c_58_192 : aCod 58 192 = some (.sipush 1, 193) := by decide +kernel
theorem c_58_193 : aCod 58 193 = some (.ireturn, 194) := by decide +kernel
theorem c_58_194 : aCod 58 194 = some (.iload 1, 195) := by decide +kernel
theorem c_58_195 : aCod 58 195 = some (.sipush 1000, 198) := by decide +kernel
theorem c_58_198 : aCod 58 198 = some (.isub, 199) := by decide +kernel
theorem c_58_199 : aCod 58 199 = some (.ireturn, 200) := by decide +kernel
theorem c_59_0 : aCod 59 0 = some (.lload 1, 1) := by decide +kernel
theorem c_59_1 : aCod 59 1 = some (.iload 0, 2) := by decide +kernel
theorem c_59_2 : aCod 59 2 = some (.i2l, 3) := by decide +kernel
theorem c_59_3 : aCod 59 3 = some (.lcmp, 4) := by decide +kernel
theorem c_59_4 : aCod 59 4 = some (.ifCond .ge 11, 7) := by decide +kernel
theorem c_59_7 : aCod 59 7 = some (.iload 0, 8) := by decide +kernel
theorem c_59_8 : aCod 59 8 = some (.goto 24, 11) := by decide +kernel
theorem c_59_11 : aCod 59 11 = some (.lload 1, 12) := by decide +kernel
theorem c_59_12 : aCod 59 12 = some (.iload 3, 13) := by decide +kernel
theorem c_59_13 : aCod 59 13 = some (.i2l, 14) := by decide +kernel
theorem c_59_14 : aCod 59 14 = some (.lcmp, 15) := by decide +kernel
theorem c_59_15 : aCod 59 15 = some (.ifCond .le 22, 18) := by decide +kernel
theorem c_59_18 : aCod 59 18 = some (.iload 3, 19) := by decide +kernel
theorem c_59_19 : aCod 59 19 = some (.goto 24, 22) := by decide +kernel
theorem c_59_22 : aCod 59 22 = some (.lload 1, 23) := by decide +kernel
theorem c_59_23 : aCod 59 23 = some (.l2i, 24) := by decide +kernel
theorem c_59_24 : aCod 59 24 = some (.ireturn, 25) := by decide +kernel
