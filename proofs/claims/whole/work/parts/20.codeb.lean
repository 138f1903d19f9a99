/-! the code, row by row (gen19.py) -/
theorem c_60_0 : aCod 60 0 = some (.aload 0, 1) := by decide +kernel
theorem c_60_1 : aCod 60 1 = some (.invokeinterface 0 0, 4) := by decide +kernel
theorem c_60_4 : aCod 60 4 = some (.aload 0, 5) := by decide +kernel
theorem c_60_5 : aCod 60 5 = some (.new 1, 8) := by decide +kernel
theorem c_60_8 : aCod 60 8 = some (.dup, 9) := by decide +kernel
theorem c_60_9 : aCod 60 9 = some (.invokespecial 4, 12) := by decide +kernel
theorem c_60_12 : aCod 60 12 = some (.putfield 1280, 15) := by decide +kernel
theorem c_60_15 : aCod 60 15 = some (.return_, 16) := by decide +kernel
theorem c_61_0 : aCod 61 0 = some (.aload 0, 1) := by decide +kernel
theorem c_61_1 : aCod 61 1 = some (.getfield 1280, 4) := by decide +kernel
theorem c_61_4 : aCod 61 4 = some (.aload 1, 5) := by decide +kernel
theorem c_61_5 : aCod 61 5 = some (.invokevirtual 6, 8) := by decide +kernel
theorem c_61_8 : aCod 61 8 = some (.aload 0, 9) := by decide +kernel
theorem c_61_9 : aCod 61 9 = some (.sipush 0, 10) := by decide +kernel
theorem c_61_10 : aCod 61 10 = some (.putfield 1281, 13) := by decide +kernel
theorem c_61_13 : aCod 61 13 = some (.aload 0, 14) := by decide +kernel
theorem c_61_14 : aCod 61 14 = some (.sipush 0, 15) := by decide +kernel
theorem c_61_15 : aCod 61 15 = some (.putfield 1282, 18) := by decide +kernel
theorem c_61_18 : aCod 61 18 = some (.aload 0, 19) := by decide +kernel
theorem c_61_19 : aCod 61 19 = some (.sipush 0, 20) := by decide +kernel
theorem c_61_20 : aCod 61 20 = some (.putfield 1283, 23) := by decide +kernel
theorem c_61_23 : aCod 61 23 = some (.aload 0, 24) := by decide +kernel
theorem c_61_24 : aCod 61 24 = some (.sipush 0, 25) := by decide +kernel
theorem c_61_25 : aCod 61 25 = some (.putfield 1284, 28) := by decide +kernel
theorem c_61_28 : aCod 61 28 = some (.aload 0, 29) := by decide +kernel
theorem c_61_29 : aCod 61 29 = some (.sipush (-1), 30) := by decide +kernel
theorem c_61_30 : aCod 61 30 = some (.putfield 1285, 33) := by decide +kernel
theorem c_61_33 : aCod 61 33 = some (.aload 0, 34) := by decide +kernel
theorem c_61_34 : aCod 61 34 = some (.sipush 0, 35) := by decide +kernel
theorem c_61_35 : aCod 61 35 = some (.putfield 1286, 38) := by decide +kernel
theorem c_61_38 : aCod 61 38 = some (.return_, 39) := by decide +kernel
theorem c_62_0 : aCod 62 0 = some (.aload 0, 1) := by decide +kernel
theorem c_62_1 : aCod 62 1 = some (.getfield 1283, 4) := by decide +kernel
theorem c_62_4 : aCod 62 4 = some (.aload 0, 5) := by decide +kernel
theorem c_62_5 : aCod 62 5 = some (.getfield 1286, 8) := by decide +kernel
theorem c_62_8 : aCod 62 8 = some (.if_icmp .lt 33, 11) := by decide +kernel
theorem c_62_11 : aCod 62 11 = some (.aload 0, 12) := by decide +kernel
theorem c_62_12 : aCod 62 12 = some (.getfield 1283, 15) := by decide +kernel
theorem c_62_15 : aCod 62 15 = some (.aload 0, 16) := by decide +kernel
theorem c_62_16 : aCod 62 16 = some (.getfield 1286, 19) := by decide +kernel
theorem c_62_19 : aCod 62 19 = some (.if_icmp .ne 37, 22) := by decide +kernel
theorem c_62_22 : aCod 62 22 = some (.aload 0, 23) := by decide +kernel
theorem c_62_23 : aCod 62 23 = some (.getfield 1281, 26) := by decide +kernel
theorem c_62_26 : aCod 62 26 = some (.aload 0, 27) := by decide +kernel
theorem c_62_27 : aCod 62 27 = some (.getfield 1284, 30) := by decide +kernel
theorem c_62_30 : aCod 62 30 = some (.if_icmp .ge 37, 33) := by decide +kernel
theorem c_62_33 : aCod 62 33 = some (.sipush 1, 34) := by decide +kernel
theorem c_62_34 : aCod 62 34 = some (.goto 38, 37) := by decide +kernel
theorem c_62_37 : aCod 62 37 = some (.sipush 0, 38) := by decide +kernel
theorem c_62_38 : aCod 62 38 = some (.istore 1, 39) := by decide +kernel
theorem c_62_39 : aCod 62 39 = some (.aload 0, 40) := by decide +kernel
theorem c_62_40 : aCod 62 40 = some (.getfield 1282, 43) := by decide +kernel
theorem c_62_43 : aCod 62 43 = some (.aload 0, 44) := by decide +kernel
theorem c_62_44 : aCod 62 44 = some (.getfield 1285, 47) := by decide +kernel
theorem c_62_47 : aCod 62 47 = some (.if_icmp .gt 65, 50) := by decide +kernel
theorem c_62_50 : aCod 62 50 = some (.aload 0, 51) := by decide +kernel
theorem c_62_51 : aCod 62 51 = some (.getfield 1282, 54) := by decide +kernel
theorem c_62_54 : aCod 62 54 = some (.aload 0, 55) := by decide +kernel
theorem c_62_55 : aCod 62 55 = some (.getfield 1285, 58) := by decide +kernel
theorem c_62_58 : aCod 62 58 = some (.if_icmp .ne 89, 61) := by decide +kernel
theorem c_62_61 : aCod 62 61 = some (.iload 1, 62) := by decide +kernel
theorem c_62_62 : aCod 62 62 = some (.ifCond .eq 89, 65) := by decide +kernel
theorem c_62_65 : aCod 62 65 = some (.aload 0, 66) := by decide +kernel
theorem c_62_66 : aCod 62 66 = some (.aload 0, 67) := by decide +kernel
theorem c_62_67 : aCod 62 67 = some (.getfield 1281, 70) := by decide +kernel
theorem c_62_70 : aCod 62 70 = some (.putfield 1284, 73) := by decide +kernel
theorem c_62_73 : aCod 62 73 = some (.aload 0, 74) := by decide +kernel
theorem c_62_74 : aCod 62 74 = some (.aload 0, 75) := by decide +kernel
theorem c_62_75 : aCod 62 75 = some (.getfield 1282, 78) := by decide +kernel
theorem c_62_78 : aCod 62 78 = some (.putfield 1285, 81) := by decide +kernel
theorem c_62_81 : aCod 62 81 = some (.aload 0, 82) := by decide +kernel
theorem c_62_82 : aCod 62 82 = some (.aload 0, 83) := by decide +kernel
theorem c_62_83 : aCod 62 83 = some (.getfield 1283, 86) := by decide +kernel
theorem c_62_86 : aCod 62 86 = some (.putfield 1286, 89) := by decide +kernel
theorem c_62_89 : aCod 62 89 = some (.return_, 90) := by decide +kernel
theorem c_63_0 : aCod 63 0 = some (.aload 0, 1) := by decide +kernel
theorem c_63_1 : aCod 63 1 = some (.invokeinterface 0 0, 4) := by decide +kernel
theorem c_63_4 : aCod 63 4 = some (.aload 0, 5) := by decide +kernel
theorem c_63_5 : aCod 63 5 = some (.sipush 3, 6) := by decide +kernel
theorem c_63_6 : aCod 63 6 = some (.newarray .int, 8) := by decide +kernel
theorem c_63_8 : aCod 63 8 = some (.putfield 1540, 11) := by decide +kernel
theorem c_63_11 : aCod 63 11 = some (.aload 0, 12) := by decide +kernel
theorem c_63_12 : aCod 63 12 = some (.sipush 120, 14) := by decide +kernel
theorem c_63_14 : aCod 63 14 = some (.newarray .int, 16) := by decide +kernel
theorem c_63_16 : aCod 63 16 = some (.putfield 1541, 19) := by decide +kernel
theorem c_63_19 : aCod 63 19 = some (.aload 0, 20) := by decide +kernel
theorem c_63_20 : aCod 63 20 = some (.sipush 6, 22) := by decide +kernel
theorem c_63_22 : aCod 63 22 = some (.newarray .int, 24) := by decide +kernel
theorem c_63_24 : aCod 63 24 = some (.putfield 1542, 27) := by decide +kernel
theorem c_63_27 : aCod 63 27 = some (.aload 0, 28) := by decide +kernel
theorem c_63_28 : aCod 63 28 = some (.sipush 6, 30) := by decide +kernel
theorem c_63_30 : aCod 63 30 = some (.newarray .int, 32) := by decide +kernel
theorem c_63_32 : aCod 63 32 = some (.putfield 1543, 35) := by decide +kernel
theorem c_63_35 : aCod 63 35 = some (.aload 0, 36) := by decide +kernel
theorem c_63_36 : aCod 63 36 = some (.sipush 6, 38) := by decide +kernel
theorem c_63_38 : aCod 63 38 = some (.newarray .int, 40) := by decide +kernel
theorem c_63_40 : aCod 63 40 = some (.putfield 1544, 43) := by decide +kernel
theorem c_63_43 : aCod 63 43 = some (.aload 0, 44) := by decide +kernel
theorem c_63_44 : aCod 63 44 = some (.sipush 8, 46) := by decide +kernel
theorem c_63_46 : aCod 63 46 = some (.newarray .int, 48) := by decide +kernel
theorem c_63_48 : aCod 63 48 = some (.putfield 1545, 51) := by decide +kernel
theorem c_63_51 : aCod 63 51 = some (.aload 0, 52) := by decide +kernel
theorem c_63_52 : aCod 63 52 = some (.sipush 8, 54) := by decide +kernel
theorem c_63_54 : aCod 63 54 = some (.newarray .int, 56) := by decide +kernel
theorem c_63_56 : aCod 63 56 = some (.putfield 1546, 59) := by decide +kernel
theorem c_63_59 : aCod 63 59 = some (.aload 0, 60) := by decide +kernel
theorem c_63_60 : aCod 63 60 = some (.sipush 8, 62) := by decide +kernel
theorem c_63_62 : aCod 63 62 = some (.newarray .int, 64) := by decide +kernel
theorem c_63_64 : aCod 63 64 = some (.putfield 1547, 67) := by decide +kernel
theorem c_63_67 : aCod 63 67 = some (.aload 0, 68) := by decide +kernel
theorem c_63_68 : aCod 63 68 = some (.sipush 8, 70) := by decide +kernel
theorem c_63_70 : aCod 63 70 = some (.newarray .int, 72) := by decide +kernel
theorem c_63_72 : aCod 63 72 = some (.putfield 1548, 75) := by decide +kernel
theorem c_63_75 : aCod 63 75 = some (.aload 0, 76) := by decide +kernel
theorem c_63_76 : aCod 63 76 = some (.new 7, 79) := by decide +kernel
theorem c_63_79 : aCod 63 79 = some (.dup, 80) := by decide +kernel
theorem c_63_80 : aCod 63 80 = some (.invokespecial 71, 83) := by decide +kernel
theorem c_63_83 : aCod 63 83 = some (.putfield 1549, 86) := by decide +kernel
theorem c_63_86 : aCod 63 86 = some (.aload 0, 87) := by decide +kernel
theorem c_63_87 : aCod 63 87 = some (.invokevirtual 64, 90) := by decide +kernel
theorem c_63_90 : aCod 63 90 = some (.return_, 91) := by decide +kernel
theorem c_64_0 : aCod 64 0 = some (.aload 0, 1) := by decide +kernel
theorem c_64_1 : aCod 64 1 = some (.sipush 0, 2) := by decide +kernel
theorem c_64_2 : aCod 64 2 = some (.putfield 1536, 5) := by decide +kernel
theorem c_64_5 : aCod 64 5 = some (.aload 0, 6) := by decide +kernel
theorem c_64_6 : aCod 64 6 = some (.sipush 0, 7) := by decide +kernel
theorem c_64_7 : aCod 64 7 = some (.putfield 1537, 10) := by decide +kernel
theorem c_64_10 : aCod 64 10 = some (.sipush 0, 11) := by decide +kernel
theorem c_64_11 : aCod 64 11 = some (.istore 1, 12) := by decide +kernel
theorem c_64_12 : aCod 64 12 = some (.iload 1, 13) := by decide +kernel
theorem c_64_13 : aCod 64 13 = some (.sipush 3, 14) := by decide +kernel
theorem c_64_14 : aCod 64 14 = some (.if_icmp .ge 30, 17) := by decide +kernel
theorem c_64_17 : aCod 64 17 = some (.aload 0, 18) := by decide +kernel
theorem c_64_18 : aCod 64 18 = some (.getfield 1540, 21) := by decide +kernel
theorem c_64_21 : aCod 64 21 = some (.iload 1, 22) := by decide +kernel
theorem c_64_22 : aCod 64 22 = some (.sipush 0, 23) := by decide +kernel
theorem c_64_23 : aCod 64 23 = some (.iastore, 24) := by decide +kernel
theorem c_64_24 : aCod 64 24 = some (.iinc 1 1, 27) := by decide +kernel
theorem c_64_27 : aCod 64 27 = some (.goto 12, 30) := by decide +kernel
theorem c_64_30 : aCod 64 30 = some (.aload 0, 31) := by decide +kernel
theorem c_64_31 : aCod 64 31 = some (.getfield 1549, 34) := by decide +kernel
theorem c_64_34 : aCod 64 34 = some (.invokevirtual 72, 37) := by decide +kernel
theorem c_64_37 : aCod 64 37 = some (.aload 0, 38) := by decide +kernel
theorem c_64_38 : aCod 64 38 = some (.sipush 0, 39) := by decide +kernel
theorem c_64_39 : aCod 64 39 = some (.putfield 1550, 42) := by decide +kernel
theorem c_64_42 : aCod 64 42 = some (.aload 0, 43) := by decide +kernel
theorem c_64_43 : aCod 64 43 = some (.sipush 1, 44) := by decide +kernel
theorem c_64_44 : aCod 64 44 = some (.putfield 1551, 47) := by decide +kernel
theorem c_64_47 : aCod 64 47 = some (.aload 0, 48) := by decide +kernel
theorem c_64_48 : aCod 64 48 = some (.sipush 0, 49) := by decide +kernel
theorem c_64_49 : aCod 64 49 = some (.putfield 1552, 52) := by decide +kernel
theorem c_64_52 : aCod 64 52 = some (.return_, 53) := by decide +kernel
theorem c_65_0 : aCod 65 0 = some (.iload 0, 1) := by decide +kernel
theorem c_65_1 : aCod 65 1 = some (.lookupswitch 35 #[(0, 28), (1, 30)], 28) := by decide +kernel
theorem c_65_28 : aCod 65 28 = some (.iload 1, 29) := by decide +kernel
theorem c_65_29 : aCod 65 29 = some (.ireturn, 30) := by decide +kernel
theorem c_65_30 : aCod 65 30 = some (.sipush 6, 32) := by decide +kernel
theorem c_65_32 : aCod 65 32 = some (.iload 1, 33) := by decide +kernel
theorem c_65_33 : aCod 65 33 = some (.iadd, 34) := by decide +kernel
theorem c_65_34 : aCod 65 34 = some (.ireturn, 35) := by decide +kernel
theorem c_65_35 : aCod 65 35 = some (.sipush 12, 37) := by decide +kernel
theorem c_65_37 : aCod 65 37 = some (.iload 1, 38) := by decide +kernel
theorem c_65_38 : aCod 65 38 = some (.iadd, 39) := by decide +kernel
theorem c_65_39 : aCod 65 39 = some (.ireturn, 40) := by decide +kernel
theorem c_66_0 : aCod 66 0 = some (.iload 0, 1) := by decide +kernel
theorem c_66_1 : aCod 66 1 = some (.sipush 2, 2) := by decide +kernel
theorem c_66_2 : aCod 66 2 = some (.if_icmp .ne 10, 5) := by decide +kernel
theorem c_66_5 : aCod 66 5 = some (.sipush 8, 7) := by decide +kernel
theorem c_66_7 : aCod 66 7 = some (.goto 22, 10) := by decide +kernel
theorem c_66_10 : aCod 66 10 = some (.iload 0, 11) := by decide +kernel
theorem c_66_11 : aCod 66 11 = some (.sipush 1, 12) := by decide +kernel
theorem c_66_12 : aCod 66 12 = some (.if_icmp .ne 20, 15) := by decide +kernel
theorem c_66_15 : aCod 66 15 = some (.sipush 6, 17) := by decide +kernel
theorem c_66_17 : aCod 66 17 = some (.goto 22, 20) := by decide +kernel
theorem c_66_20 : aCod 66 20 = some (.sipush 6, 22) := by decide +kernel
theorem c_66_22 : aCod 66 22 = some (.ireturn, 23) := by decide +kernel
theorem c_67_0 : aCod 67 0 = some (.sipush 0, 1) := by decide +kernel
theorem c_67_1 : aCod 67 1 = some (.istore 3, 2) := by decide +kernel
theorem c_67_2 : aCod 67 2 = some (.iload 3, 3) := by decide +kernel
theorem c_67_3 : aCod 67 3 = some (.aload 0, 4) := by decide +kernel
theorem c_67_4 : aCod 67 4 = some (.getfield 1540, 7) := by decide +kernel
theorem c_67_7 : aCod 67 7 = some (.iload 1, 8) := by decide +kernel
theorem c_67_8 : aCod 67 8 = some (.iaload, 9) := by decide +kernel
theorem c_67_9 : aCod 67 9 = some (.if_icmp .ge 70, 12) := by decide +kernel
theorem c_67_12 : aCod 67 12 = some (.iload 1, 13) := by decide +kernel
theorem c_67_13 : aCod 67 13 = some (.iload 3, 14) := by decide +kernel
theorem c_67_14 : aCod 67 14 = some (.invokestatic 65, 17) := by decide +kernel
theorem c_67_17 : aCod 67 17 = some (.sipush 6, 19) := by decide +kernel
theorem c_67_19 : aCod 67 19 = some (.imul, 20) := by decide +kernel
theorem c_67_20 : aCod 67 20 = some (.istore 4, 22) := by decide +kernel
theorem c_67_22 : aCod 67 22 = some (.sipush 0, 23) := by decide +kernel
theorem c_67_23 : aCod 67 23 = some (.istore 5, 25) := by decide +kernel
theorem c_67_25 : aCod 67 25 = some (.iload 5, 27) := by decide +kernel
theorem c_67_27 : aCod 67 27 = some (.sipush 6, 29) := by decide +kernel
theorem c_67_29 : aCod 67 29 = some (.if_icmp .ge 55, 32) := by decide +kernel
theorem c_67_32 : aCod 67 32 = some (.aload 0, 33) := by decide +kernel
theorem c_67_33 : aCod 67 33 = some (.getfield 1541, 36) := by decide +kernel
theorem c_67_36 : aCod 67 36 = some (.iload 4, 38) := by decide +kernel
theorem c_67_38 : aCod 67 38 = some (.iload 5, 40) := by decide +kernel
theorem c_67_40 : aCod 67 40 = some (.iadd, 41) := by decide +kernel
theorem c_67_41 : aCod 67 41 = some (.iaload, 42) := by decide +kernel
theorem c_67_42 : aCod 67 42 = some (.aload 2, 43) := by decide +kernel
theorem c_67_43 : aCod 67 43 = some (.iload 5, 45) := by decide +kernel
theorem c_67_45 : aCod 67 45 = some (.iaload, 46) := by decide +kernel
theorem c_67_46 : aCod 67 46 = some (.if_icmp .ne 55, 49) := by decide +kernel
theorem c_67_49 : aCod 67 49 = some (.iinc 5 1, 52) := by decide +kernel
theorem c_67_52 : aCod 67 52 = some (.goto 25, 55) := by decide +kernel
theorem c_67_55 : aCod 67 55 = some (.iload 5, 57) := by decide +kernel
theorem c_67_57 : aCod 67 57 = some (.sipush 6, 59) := by decide +kernel
theorem c_67_59 : aCod 67 59 = some (.if_icmp .ne 64, 62) := by decide +kernel
theorem c_67_62 : aCod 67 62 = some (.iload 3, 63) := by decide +kernel
theorem c_67_63 : aCod 67 63 = some (.ireturn, 64) := by decide +kernel
theorem c_67_64 : aCod 67 64 = some (.iinc 3 1, 67) := by decide +kernel
theorem c_67_67 : aCod 67 67 = some (.goto 2, 70) := by decide +kernel
theorem c_67_70 : aCod 67 70 = some (.sipush (-1), 71) := by decide +kernel
theorem c_67_71 : aCod 67 71 = some (.ireturn, 72) := by decide +kernel
theorem c_68_0 : aCod 68 0 = some (.aload 0, 1) := by decide +kernel
theorem c_68_1 : aCod 68 1 = some (.sipush 0, 2) := by decide +kernel
theorem c_68_2 : aCod 68 2 = some (.aload 1, 3) := by decide +kernel
theorem c_68_3 : aCod 68 3 = some (.invokevirtual 67, 6) := by decide +kernel
theorem c_68_6 : aCod 68 6 = some (.sipush (-1), 7) := by decide +kernel
theorem c_68_7 : aCod 68 7 = some (.if_icmp .ne 30, 10) := by decide +kernel
theorem c_68_10 : aCod 68 10 = some (.aload 0, 11) := by decide +kernel
theorem c_68_11 : aCod 68 11 = some (.sipush 1, 12) := by decide +kernel
theorem c_68_12 : aCod 68 12 = some (.aload 1, 13) := by decide +kernel
theorem c_68_13 : aCod 68 13 = some (.invokevirtual 67, 16) := by decide +kernel
theorem c_68_16 : aCod 68 16 = some (.sipush (-1), 17) := by decide +kernel
theorem c_68_17 : aCod 68 17 = some (.if_icmp .ne 30, 20) := by decide +kernel
theorem c_68_20 : aCod 68 20 = some (.aload 0, 21) := by decide +kernel
theorem c_68_21 : aCod 68 21 = some (.sipush 2, 22) := by decide +kernel
theorem c_68_22 : aCod 68 22 = some (.aload 1, 23) := by decide +kernel
theorem c_68_23 : aCod 68 23 = some (.invokevirtual 67, 26) := by decide +kernel
theorem c_68_26 : aCod 68 26 = some (.sipush (-1), 27) := by decide +kernel
theorem c_68_27 : aCod 68 27 = some (.if_icmp .eq 34, 30) := by decide +kernel
theorem c_68_30 : aCod 68 30 = some (.sipush 1, 31) := by decide +kernel
theorem c_68_31 : aCod 68 31 = some (.goto 35, 34) := by decide +kernel
theorem c_68_34 : aCod 68 34 = some (.sipush 0, 35) := by decide +kernel
theorem c_68_35 : aCod 68 35 = some (.ireturn, 36) := by decide +kernel
theorem c_69_0 : aCod 69 0 = some (.iload 1, 1) := by decide +kernel
theorem c_69_1 : aCod 69 1 = some (.iload 2, 2) := by decide +kernel
theorem c_69_2 : aCod 69 2 = some (.invokestatic 65, 5) := by decide +kernel
theorem c_69_5 : aCod 69 5 = some (.sipush 6, 7) := by decide +kernel
theorem c_69_7 : aCod 69 7 = some (.imul, 8) := by decide +kernel
theorem c_69_8 : aCod 69 8 = some (.istore 3, 9) := by decide +kernel
theorem c_69_9 : aCod 69 9 = some (.sipush 0, 10) := by decide +kernel
theorem c_69_10 : aCod 69 10 = some (.istore 4, 12) := by decide +kernel
theorem c_69_12 : aCod 69 12 = some (.iload 4, 14) := by decide +kernel
theorem c_69_14 : aCod 69 14 = some (.sipush 6, 16) := by decide +kernel
theorem c_69_16 : aCod 69 16 = some (.if_icmp .ge 37, 19) := by decide +kernel
theorem c_69_19 : aCod 69 19 = some (.aload 0, 20) := by decide +kernel
theorem c_69_20 : aCod 69 20 = some (.getfield 1541, 23) := by decide +kernel
theorem c_69_23 : aCod 69 23 = some (.iload 3, 24) := by decide +kernel
theorem c_69_24 : aCod 69 24 = some (.iload 4, 26) := by decide +kernel
theorem c_69_26 : aCod 69 26 = some (.iadd, 27) := by decide +kernel
theorem c_69_27 : aCod 69 27 = some (.iaload, 28) := by decide +kernel
theorem c_69_28 : aCod 69 28 = some (.ifCond .eq 37, 31) := by decide +kernel
theorem c_69_31 : aCod 69 31 = some (.iinc 4 1, 34) := by decide +kernel
theorem c_69_34 : aCod 69 34 = some (.goto 12, 37) := by decide +kernel
theorem c_69_37 : aCod 69 37 = some (.iload 4, 39) := by decide +kernel
theorem c_69_39 : aCod 69 39 = some (.ireturn, 40) := by decide +kernel
theorem c_70_0 : aCod 70 0 = some (.sipush 2, 1) := by decide +kernel
theorem c_70_1 : aCod 70 1 = some (.iload 1, 2) := by decide +kernel
theorem c_70_2 : aCod 70 2 = some (.invokestatic 65, 5) := by decide +kernel
theorem c_70_5 : aCod 70 5 = some (.sipush 6, 7) := by decide +kernel
theorem c_70_7 : aCod 70 7 = some (.imul, 8) := by decide +kernel
theorem c_70_8 : aCod 70 8 = some (.istore 3, 9) := by decide +kernel
theorem c_70_9 : aCod 70 9 = some (.sipush 0, 10) := by decide +kernel
theorem c_70_10 : aCod 70 10 = some (.istore 4, 12) := by decide +kernel
theorem c_70_12 : aCod 70 12 = some (.iload 4, 14) := by decide +kernel
theorem c_70_14 : aCod 70 14 = some (.aload 0, 15) := by decide +kernel
theorem c_70_15 : aCod 70 15 = some (.getfield 1540, 18) := by decide +kernel
theorem c_70_18 : aCod 70 18 = some (.sipush 2, 19) := by decide +kernel
theorem c_70_19 : aCod 70 19 = some (.iaload, 20) := by decide +kernel
theorem c_70_20 : aCod 70 20 = some (.if_icmp .ge 91, 23) := by decide +kernel
theorem c_70_23 : aCod 70 23 = some (.sipush 2, 24) := by decide +kernel
theorem c_70_24 : aCod 70 24 = some (.iload 4, 26) := by decide +kernel
theorem c_70_26 : aCod 70 26 = some (.invokestatic 65, 29) := by decide +kernel
theorem c_70_29 : aCod 70 29 = some (.sipush 6, 31) := by decide +kernel
theorem c_70_31 : aCod 70 31 = some (.imul, 32) := by decide +kernel
theorem c_70_32 : aCod 70 32 = some (.istore 5, 34) := by decide +kernel
theorem c_70_34 : aCod 70 34 = some (.sipush 0, 35) := by decide +kernel
theorem c_70_35 : aCod 70 35 = some (.istore 6, 37) := by decide +kernel
theorem c_70_37 : aCod 70 37 = some (.iload 6, 39) := by decide +kernel
theorem c_70_39 : aCod 70 39 = some (.iload 2, 40) := by decide +kernel
theorem c_70_40 : aCod 70 40 = some (.if_icmp .ge 71, 43) := by decide +kernel
theorem c_70_43 : aCod 70 43 = some (.aload 0, 44) := by decide +kernel
theorem c_70_44 : aCod 70 44 = some (.getfield 1541, 47) := by decide +kernel
theorem c_70_47 : aCod 70 47 = some (.iload 3, 48) := by decide +kernel
theorem c_70_48 : aCod 70 48 = some (.iload 6, 50) := by decide +kernel
theorem c_70_50 : aCod 70 50 = some (.iadd, 51) := by decide +kernel
theorem c_70_51 : aCod 70 51 = some (.iaload, 52) := by decide +kernel
theorem c_70_52 : aCod 70 52 = some (.aload 0, 53) := by decide +kernel
theorem c_70_53 : aCod 70 53 = some (.getfield 1541, 56) := by decide +kernel
theorem c_70_56 : aCod 70 56 = some (.iload 5, 58) := by decide +kernel
theorem c_70_58 : aCod 70 58 = some (.iload 6, 60) := by decide +kernel
theorem c_70_60 : aCod 70 60 = some (.iadd, 61) := by decide +kernel
theorem c_70_61 : aCod 70 61 = some (.iaload, 62) := by decide +kernel
theorem c_70_62 : aCod 70 62 = some (.if_icmp .ne 71, 65) := by decide +kernel
theorem c_70_65 : aCod 70 65 = some (.iinc 6 1, 68) := by decide +kernel
theorem c_70_68 : aCod 70 68 = some (.goto 37, 71) := by decide +kernel
theorem c_70_71 : aCod 70 71 = some (.iload 6, 73) := by decide +kernel
theorem c_70_73 : aCod 70 73 = some (.iload 2, 74) := by decide +kernel
theorem c_70_74 : aCod 70 74 = some (.if_icmp .ne 85, 77) := by decide +kernel
theorem c_70_77 : aCod 70 77 = some (.iload 4, 79) := by decide +kernel
theorem c_70_79 : aCod 70 79 = some (.iload 1, 80) := by decide +kernel
theorem c_70_80 : aCod 70 80 = some (.if_icmp .eq 85, 83) := by decide +kernel
theorem c_70_83 : aCod 70 83 = some (.sipush 0, 84) := by decide +kernel
theorem c_70_84 : aCod 70 84 = some (.ireturn, 85) := by decide +kernel
theorem c_70_85 : aCod 70 85 = some (.iinc 4 1, 88) := by decide +kernel
theorem c_70_88 : aCod 70 88 = some (.goto 12, 91) := by decide +kernel
theorem c_70_91 : aCod 70 91 = some (.sipush 1, 92) := by decide +kernel
theorem c_70_92 : aCod 70 92 = some (.ireturn, 93) := by decide +kernel
theorem c_71_0 : aCod 71 0 = some (.aload 0, 1) := by decide +kernel
theorem c_71_1 : aCod 71 1 = some (.invokeinterface 0 0, 4) := by decide +kernel
theorem c_71_4 : aCod 71 4 = some (.aload 0, 5) := by decide +kernel
theorem c_71_5 : aCod 71 5 = some (.sipush 1600, 8) := by decide +kernel
theorem c_71_8 : aCod 71 8 = some (.newarray .int, 10) := by decide +kernel
theorem c_71_10 : aCod 71 10 = some (.putfield 1792, 13) := by decide +kernel
theorem c_71_13 : aCod 71 13 = some (.aload 0, 14) := by decide +kernel
theorem c_71_14 : aCod 71 14 = some (.sipush 4, 15) := by decide +kernel
theorem c_71_15 : aCod 71 15 = some (.newarray .int, 17) := by decide +kernel
theorem c_71_17 : aCod 71 17 = some (.putfield 1793, 20) := by decide +kernel
theorem c_71_20 : aCod 71 20 = some (.aload 0, 21) := by decide +kernel
theorem c_71_21 : aCod 71 21 = some (.sipush 4, 22) := by decide +kernel
theorem c_71_22 : aCod 71 22 = some (.newarray .int, 24) := by decide +kernel
theorem c_71_24 : aCod 71 24 = some (.putfield 1794, 27) := by decide +kernel
theorem c_71_27 : aCod 71 27 = some (.return_, 28) := by decide +kernel
theorem c_72_0 : aCod 72 0 = some (.aload 0, 1) := by decide +kernel
theorem c_72_1 : aCod 72 1 = some (.sipush 0, 2) := by decide +kernel
theorem c_72_2 : aCod 72 2 = some (.putfield 1795, 5) := by decide +kernel
theorem c_72_5 : aCod 72 5 = some (.sipush 0, 6) := by decide +kernel
theorem c_72_6 : aCod 72 6 = some (.istore 1, 7) := by decide +kernel
theorem c_72_7 : aCod 72 7 = some (.iload 1, 8) := by decide +kernel
theorem c_72_8 : aCod 72 8 = some (.sipush 4, 9) := by decide +kernel
theorem c_72_9 : aCod 72 9 = some (.if_icmp .ge 32, 12) := by decide +kernel
theorem c_72_12 : aCod 72 12 = some (.aload 0, 13) := by decide +kernel
theorem c_72_13 : aCod 72 13 = some (.getfield 1793, 16) := by decide +kernel
theorem c_72_16 : aCod 72 16 = some (.iload 1, 17) := by decide +kernel
theorem c_72_17 : aCod 72 17 = some (.sipush (-1), 18) := by decide +kernel
theorem c_72_18 : aCod 72 18 = some (.iastore, 19) := by decide +kernel
theorem c_72_19 : aCod 72 19 = some (.aload 0, 20) := by decide +kernel
theorem c_72_20 : aCod 72 20 = some (.getfield 1794, 23) := by decide +kernel
theorem c_72_23 : aCod 72 23 = some (.iload 1, 24) := by decide +kernel
theorem c_72_24 : aCod 72 24 = some (.sipush (-1), 25) := by decide +kernel
theorem c_72_25 : aCod 72 25 = some (.iastore, 26) := by decide +kernel
theorem c_72_26 : aCod 72 26 = some (.iinc 1 1, 29) := by decide +kernel
theorem c_72_29 : aCod 72 29 = some (.goto 7, 32) := by decide +kernel
theorem c_72_32 : aCod 72 32 = some (.return_, 33) := by decide +kernel
theorem c_73_0 : aCod 73 0 = some (.aload 0, 1) := by decide +kernel
theorem c_73_1 : aCod 73 1 = some (.getfield 1793, 4) := by decide +kernel
theorem c_73_4 : aCod 73 4 = some (.iload 1, 5) := by decide +kernel
theorem c_73_5 : aCod 73 5 = some (.iaload, 6) := by decide +kernel
theorem c_73_6 : aCod 73 6 = some (.sipush (-1), 7) := by decide +kernel
theorem c_73_7 : aCod 73 7 = some (.if_icmp .eq 14, 10) := by decide +kernel
theorem c_73_10 : aCod 73 10 = some (.sipush 1, 11) := by decide +kernel
theorem c_73_11 : aCod 73 11 = some (.goto 15, 14) := by decide +kernel
theorem c_73_14 : aCod 73 14 = some (.sipush 0, 15) := by decide +kernel
theorem c_73_15 : aCod 73 15 = some (.ireturn, 16) := by decide +kernel
theorem c_74_0 : aCod 74 0 = some (.aload 0, 1) := by decide +kernel
theorem c_74_1 : aCod 74 1 = some (.getfield 1795, 4) := by decide +kernel
theorem c_74_4 : aCod 74 4 = some (.aload 0, 5) := by decide +kernel
theorem c_74_5 : aCod 74 5 = some (.getfield 1792, 8) := by decide +kernel
theorem c_74_8 : aCod 74 8 = some (.arraylength, 9) := by decide +kernel
theorem c_74_9 : aCod 74 9 = some (.if_icmp .ge 32, 12) := by decide +kernel
theorem c_74_12 : aCod 74 12 = some (.aload 0, 13) := by decide +kernel
theorem c_74_13 : aCod 74 13 = some (.getfield 1792, 16) := by decide +kernel
theorem c_74_16 : aCod 74 16 = some (.aload 0, 17) := by decide +kernel
theorem c_74_17 : aCod 74 17 = some (.getfield 1795, 20) := by decide +kernel
theorem c_74_20 : aCod 74 20 = some (.iload 1, 21) := by decide +kernel
theorem c_74_21 : aCod 74 21 = some (.iastore, 22) := by decide +kernel
theorem c_74_22 : aCod 74 22 = some (.aload 0, 23) := by decide +kernel
theorem c_74_23 : aCod 74 23 = some (.dup, 24) := by decide +kernel
theorem c_74_24 : aCod 74 24 = some (.getfield 1795, 27) := by decide +kernel
theorem c_74_27 : aCod 74 27 = some (.sipush 1, 28) := by decide +kernel
theorem c_74_28 : aCod 74 28 = some (.iadd, 29) := by decide +kernel
theorem c_74_29 : aCod 74 29 = some (.putfield 1795, 32) := by decide +kernel
theorem c_74_32 : aCod 74 32 = some (.return_, 33) := by decide +kernel
theorem c_75_0 : aCod 75 0 = some (.aload 0, 1) := by decide +kernel
theorem c_75_1 : aCod 75 1 = some (.invokeinterface 0 0, 4) := by decide +kernel
theorem c_75_4 : aCod 75 4 = some (.aload 0, 5) := by decide +kernel
theorem c_75_5 : aCod 75 5 = some (.sipush 1600, 8) := by decide +kernel
theorem c_75_8 : aCod 75 8 = some (.newarray .int, 10) := by decide +kernel
theorem c_75_10 : aCod 75 10 = some (.putfield 2048, 13) := by decide +kernel
theorem c_75_13 : aCod 75 13 = some (.aload 0, 14) := by decide +kernel
theorem c_75_14 : aCod 75 14 = some (.new 3, 17) := by decide +kernel
theorem c_75_17 : aCod 75 17 = some (.dup, 18) := by decide +kernel
theorem c_75_18 : aCod 75 18 = some (.aload 0, 19) := by decide +kernel
theorem c_75_19 : aCod 75 19 = some (.getfield 2048, 22) := by decide +kernel
theorem c_75_22 : aCod 75 22 = some (.invokespecial 19, 25) := by decide +kernel
theorem c_75_25 : aCod 75 25 = some (.putfield 2050, 28) := by decide +kernel
theorem c_75_28 : aCod 75 28 = some (.aload 0, 29) := by decide +kernel
theorem c_75_29 : aCod 75 29 = some (.new 6, 32) := by decide +kernel
theorem c_75_32 : aCod 75 32 = some (.dup, 33) := by decide +kernel
theorem c_75_33 : aCod 75 33 = some (.invokespecial 63, 36) := by decide +kernel
theorem c_75_36 : aCod 75 36 = some (.putfield 2051, 39) := by decide +kernel
theorem c_75_39 : aCod 75 39 = some (.aload 0, 40) := by decide +kernel
theorem c_75_40 : aCod 75 40 = some (.new 6, 43) := by decide +kernel
theorem c_75_43 : aCod 75 43 = some (.dup, 44) := by decide +kernel
theorem c_75_44 : aCod 75 44 = some (.invokespecial 63, 47) := by decide +kernel
theorem c_75_47 : aCod 75 47 = some (.putfield 2052, 50) := by decide +kernel
theorem c_75_50 : aCod 75 50 = some (.aload 0, 51) := by decide +kernel
theorem c_75_51 : aCod 75 51 = some (.new 1, 54) := by decide +kernel
theorem c_75_54 : aCod 75 54 = some (.dup, 55) := by decide +kernel
theorem c_75_55 : aCod 75 55 = some (.invokespecial 4, 58) := by decide +kernel
theorem c_75_58 : aCod 75 58 = some (.putfield 2053, 61) := by decide +kernel
theorem c_75_61 : aCod 75 61 = some (.aload 0, 62) := by decide +kernel
theorem c_75_62 : aCod 75 62 = some (.new 1, 65) := by decide +kernel
theorem c_75_65 : aCod 75 65 = some (.dup, 66) := by decide +kernel
theorem c_75_66 : aCod 75 66 = some (.invokespecial 4, 69) := by decide +kernel
theorem c_75_69 : aCod 75 69 = some (.putfield 2054, 72) := by decide +kernel
theorem c_75_72 : aCod 75 72 = some (.aload 0, 73) := by decide +kernel
theorem c_75_73 : aCod 75 73 = some (.new 4, 76) := by decide +kernel
theorem c_75_76 : aCod 75 76 = some (.dup, 77) := by decide +kernel
theorem c_75_77 : aCod 75 77 = some (.invokespecial 47, 80) := by decide +kernel
theorem c_75_80 : aCod 75 80 = some (.putfield 2055, 83) := by decide +kernel
theorem c_75_83 : aCod 75 83 = some (.aload 0, 84) := by decide +kernel
theorem c_75_84 : aCod 75 84 = some (.new 0, 87) := by decide +kernel
theorem c_75_87 : aCod 75 87 = some (.dup, 88) := by decide +kernel
theorem c_75_88 : aCod 75 88 = some (.invokespecial 0, 91) := by decide +kernel
theorem c_75_91 : aCod 75 91 = some (.putfield 2056, 94) := by decide +kernel
theorem c_75_94 : aCod 75 94 = some (.aload 0, 95) := by decide +kernel
theorem c_75_95 : aCod 75 95 = some (.new 5, 98) := by decide +kernel
theorem c_75_98 : aCod 75 98 = some (.dup, 99) := by decide +kernel
theorem c_75_99 : aCod 75 99 = some (.invokespecial 60, 102) := by decide +kernel
theorem c_75_102 : aCod 75 102 = some (.putfield 2057, 105) := by decide +kernel
theorem c_75_105 : aCod 75 105 = some (.aload 0, 106) := by decide +kernel
theorem c_75_106 : aCod 75 106 = some (.new 7, 109) := by decide +kernel
theorem c_75_109 : aCod 75 109 = some (.dup, 110) := by decide +kernel
theorem c_75_110 : aCod 75 110 = some (.invokespecial 71, 113) := by decide +kernel
theorem c_75_113 : aCod 75 113 = some (.putfield 2058, 116) := by decide +kernel
theorem c_75_116 : aCod 75 116 = some (.aload 0, 117) := by decide +kernel
theorem c_75_117 : aCod 75 117 = some (.sipush 40, 119) := by decide +kernel
theorem c_75_119 : aCod 75 119 = some (.sipush 4, 120) := by decide +kernel
theorem c_75_120 : aCod 75 120 = some (.multianewarray 0 2, 124) := by decide +kernel
theorem c_75_124 : aCod 75 124 = some (.putfield 2059, 127) := by decide +kernel
theorem c_75_127 : aCod 75 127 = some (.aload 0, 128) := by decide +kernel
theorem c_75_128 : aCod 75 128 = some (.sipush 39, 130) := by decide +kernel
theorem c_75_130 : aCod 75 130 = some (.newarray .int, 132) := by decide +kernel
theorem c_75_132 : aCod 75 132 = some (.putfield 2060, 135) := by decide +kernel
theorem c_75_135 : aCod 75 135 = some (.aload 0, 136) := by decide +kernel
theorem c_75_136 : aCod 75 136 = some (.sipush (-1), 137) := by decide +kernel
theorem c_75_137 : aCod 75 137 = some (.putfield 2062, 140) := by decide +kernel
theorem c_75_140 : aCod 75 140 = some (.aload 0, 141) := by decide +kernel
theorem c_75_141 : aCod 75 141 = some (.sipush (-1), 142) := by decide +kernel
theorem c_75_142 : aCod 75 142 = some (.putfield 2063, 145) := by decide +kernel
theorem c_75_145 : aCod 75 145 = some (.aload 0, 146) := by decide +kernel
theorem c_75_146 : aCod 75 146 = some (.sipush 6, 148) := by decide +kernel
theorem c_75_148 : aCod 75 148 = some (.newarray .int, 150) := by decide +kernel
theorem c_75_150 : aCod 75 150 = some (.putfield 2064, 153) := by decide +kernel
theorem c_75_153 : aCod 75 153 = some (.aload 0, 154) := by decide +kernel
theorem c_75_154 : aCod 75 154 = some (.goto_w 1, 155) := by decide +kernel
theorem c_75_155 : aCod 75 155 = some (.putfield 2065, 158) := by decide +kernel
theorem c_75_158 : aCod 75 158 = some (.aload 0, 159) := by decide +kernel
theorem c_75_159 : aCod 75 159 = some (.getfield 2055, 162) := by decide +kernel
theorem c_75_162 : aCod 75 162 = some (.aload 0, 163) := by decide +kernel
theorem c_75_163 : aCod 75 163 = some (.getfield 2051, 166) := by decide +kernel
theorem c_75_166 : aCod 75 166 = some (.putfield 1024, 169) := by decide +kernel
theorem c_75_169 : aCod 75 169 = some (.return_, 170) := by decide +kernel
theorem c_76_0 : aCod 76 0 = some (.aload 0, 1) := by decide +kernel
theorem c_76_1 : aCod 76 1 = some (.getfield 2049, 4) := by decide +kernel
theorem c_76_4 : aCod 76 4 = some (.sipush 20, 6) := by decide +kernel
theorem c_76_6 : aCod 76 6 = some (.iadd, 7) := by decide +kernel
theorem c_76_7 : aCod 76 7 = some (.sipush 1600, 10) := by decide +kernel
theorem c_76_10 : aCod 76 10 = some (.if_icmp .le 19, 13) := by decide +kernel
theorem c_76_13 : aCod 76 13 = some (.aload 0, 14) := by decide +kernel
theorem c_76_14 : aCod 76 14 = some (.sipush 0, 15) := by decide +kernel
theorem c_76_15 : aCod 76 15 = some (.invokevirtual 108, 18) := by decide +kernel
theorem c_76_18 : aCod 76 18 = some (.ireturn, 19) := by decide +kernel
theorem c_76_19 : aCod 76 19 = some (.aload 0, 20) := by decide +kernel
theorem c_76_20 : aCod 76 20 = some (.iload 1, 21) := by decide +kernel
theorem c_76_21 : aCod 76 21 = some (.invokevirtual 109, 24) := by decide +kernel
theorem c_76_24 : aCod 76 24 = some (.aload 0, 25) := by decide +kernel
theorem c_76_25 : aCod 76 25 = some (.iload 2, 26) := by decide +kernel
theorem c_76_26 : aCod 76 26 = some (.invokevirtual 109, 29) := by decide +kernel
theorem c_76_29 : aCod 76 29 = some (.aload 0, 30) := by decide +kernel
theorem c_76_30 : aCod 76 30 = some (.iload 3, 31) := by decide +kernel
theorem c_76_31 : aCod 76 31 = some (.invokevirtual 109, 34) := by decide +kernel
theorem c_76_34 : aCod 76 34 = some (.aload 0, 35) := by decide +kernel
theorem c_76_35 : aCod 76 35 = some (.iload 4, 37) := by decide +kernel
theorem c_76_37 : aCod 76 37 = some (.invokevirtual 109, 40) := by decide +kernel
theorem c_76_40 : aCod 76 40 = some (.aload 0, 41) := by decide +kernel
theorem c_76_41 : aCod 76 41 = some (.iload 5, 43) := by decide +kernel
theorem c_76_43 : aCod 76 43 = some (.invokevirtual 109, 46) := by decide +kernel
theorem c_76_46 : aCod 76 46 = some (.aload 0, 47) := by decide +kernel
theorem c_76_47 : aCod 76 47 = some (.getfield 2049, 50) := by decide +kernel
theorem c_76_50 : aCod 76 50 = some (.ireturn, 51) := by decide +kernel
theorem c_77_0 : aCod 77 0 = some (.iload 1, 1) := by decide +kernel
theorem c_77_1 : aCod 77 1 = some (.ifCond .lt 12, 4) := by decide +kernel
theorem c_77_4 : aCod 77 4 = some (.iload 1, 5) := by decide +kernel
theorem c_77_5 : aCod 77 5 = some (.aload 0, 6) := by decide +kernel
theorem c_77_6 : aCod 77 6 = some (.getfield 2049, 9) := by decide +kernel
theorem c_77_9 : aCod 77 9 = some (.if_icmp .le 20, 12) := by decide +kernel
theorem c_77_12 : aCod 77 12 = some (.aload 0, 13) := by decide +kernel
theorem c_77_13 : aCod 77 13 = some (.sipush 0, 14) := by decide +kernel
theorem c_77_14 : aCod 77 14 = some (.invokevirtual 108, 17) := by decide +kernel
theorem c_77_17 : aCod 77 17 = some (.pop, 18) := by decide +kernel
theorem c_77_18 : aCod 77 18 = some (.sipush 0, 19) := by decide +kernel
theorem c_77_19 : aCod 77 19 = some (.ireturn, 20) := by decide +kernel
theorem c_77_20 : aCod 77 20 = some (.aload 0, 21) := by decide +kernel
theorem c_77_21 : aCod 77 21 = some (.iload 1, 22) := by decide +kernel
theorem c_77_22 : aCod 77 22 = some (.putfield 2049, 25) := by decide +kernel
theorem c_77_25 : aCod 77 25 = some (.sipush 1, 26) := by decide +kernel
theorem c_77_26 : aCod 77 26 = some (.ireturn, 27) := by decide +kernel
theorem c_78_0 : aCod 78 0 = some (.sipush 1, 1) := by decide +kernel
theorem c_78_1 : aCod 78 1 = some (.istore 1, 2) := by decide +kernel
theorem c_78_2 : aCod 78 2 = some (.aload 0, 3) := by decide +kernel
theorem c_78_3 : aCod 78 3 = some (.getfield 2050, 6) := by decide +kernel
theorem c_78_6 : aCod 78 6 = some (.aload 0, 7) := by decide +kernel
theorem c_78_7 : aCod 78 7 = some (.invokevirtual 110, 10) := by decide +kernel
theorem c_78_10 : aCod 78 10 = some (.invokevirtual 20, 13) := by decide +kernel
theorem c_78_13 : aCod 78 13 = some (.aload 0, 14) := by decide +kernel
theorem c_78_14 : aCod 78 14 = some (.getfield 2050, 17) := by decide +kernel
theorem c_78_17 : aCod 78 17 = some (.aload 0, 18) := by decide +kernel
theorem c_78_18 : aCod 78 18 = some (.getfield 2052, 21) := by decide +kernel
theorem c_78_21 : aCod 78 21 = some (.invokevirtual 22, 24) := by decide +kernel
theorem c_78_24 : aCod 78 24 = some (.iload 1, 25) := by decide +kernel
theorem c_78_25 : aCod 78 25 = some (.sipush 70, 27) := by decide +kernel
theorem c_78_27 : aCod 78 27 = some (.if_icmp .gt 58, 30) := by decide +kernel
theorem c_78_30 : aCod 78 30 = some (.aload 0, 31) := by decide +kernel
theorem c_78_31 : aCod 78 31 = some (.getfield 2050, 34) := by decide +kernel
theorem c_78_34 : aCod 78 34 = some (.invokevirtual 21, 37) := by decide +kernel
theorem c_78_37 : aCod 78 37 = some (.ifCond .eq 58, 40) := by decide +kernel
theorem c_78_40 : aCod 78 40 = some (.aload 0, 41) := by decide +kernel
theorem c_78_41 : aCod 78 41 = some (.getfield 2050, 44) := by decide +kernel
theorem c_78_44 : aCod 78 44 = some (.aload 0, 45) := by decide +kernel
theorem c_78_45 : aCod 78 45 = some (.getfield 2052, 48) := by decide +kernel
theorem c_78_48 : aCod 78 48 = some (.iload 1, 49) := by decide +kernel
theorem c_78_49 : aCod 78 49 = some (.invokevirtual 23, 52) := by decide +kernel
theorem c_78_52 : aCod 78 52 = some (.iinc 1 1, 55) := by decide +kernel
theorem c_78_55 : aCod 78 55 = some (.goto 24, 58) := by decide +kernel
theorem c_78_58 : aCod 78 58 = some (.aload 0, 59) := by decide +kernel
theorem c_78_59 : aCod 78 59 = some (.getfield 2050, 62) := by decide +kernel
theorem c_78_62 : aCod 78 62 = some (.getfield 775, 65) := by decide +kernel
theorem c_78_65 : aCod 78 65 = some (.ifCond .eq 74, 68) := by decide +kernel
theorem c_78_68 : aCod 78 68 = some (.aload 0, 69) := by decide +kernel
theorem c_78_69 : aCod 78 69 = some (.sipush 1, 70) := by decide +kernel
theorem c_78_70 : aCod 78 70 = some (.invokevirtual 108, 73) := by decide +kernel
theorem c_78_73 : aCod 78 73 = some (.ireturn, 74) := by decide +kernel
theorem c_78_74 : aCod 78 74 = some (.aload 0, 75) := by decide +kernel
theorem c_78_75 : aCod 78 75 = some (.getfield 2051, 78) := by decide +kernel
theorem c_78_78 : aCod 78 78 = some (.astore 2, 79) := by decide +kernel
theorem c_78_79 : aCod 78 79 = some (.aload 0, 80) := by decide +kernel
theorem c_78_80 : aCod 78 80 = some (.aload 0, 81) := by decide +kernel
theorem c_78_81 : aCod 78 81 = some (.getfield 2052, 84) := by decide +kernel
theorem c_78_84 : aCod 78 84 = some (.putfield 2051, 87) := by decide +kernel
theorem c_78_87 : aCod 78 87 = some (.aload 0, 88) := by decide +kernel
theorem c_78_88 : aCod 78 88 = some (.aload 2, 89) := by decide +kernel
theorem c_78_89 : aCod 78 89 = some (.putfield 2052, 92) := by decide +kernel
theorem c_78_92 : aCod 78 92 = some (.aload 0, 93) := by decide +kernel
theorem c_78_93 : aCod 78 93 = some (.getfield 2055, 96) := by decide +kernel
theorem c_78_96 : aCod 78 96 = some (.aload 0, 97) := by decide +kernel
theorem c_78_97 : aCod 78 97 = some (.getfield 2051, 100) := by decide +kernel
theorem c_78_100 : aCod 78 100 = some (.putfield 1024, 103) := by decide +kernel
theorem c_78_103 : aCod 78 103 = some (.aload 0, 104) := by decide +kernel
theorem c_78_104 : aCod 78 104 = some (.getfield 2053, 107) := by decide +kernel
theorem c_78_107 : aCod 78 107 = some (.aload 0, 108) := by decide +kernel
theorem c_78_108 : aCod 78 108 = some (.getfield 2051, 111) := by decide +kernel
theorem c_78_111 : aCod 78 111 = some (.getfield 1538, 114) := by decide +kernel
theorem c_78_114 : aCod 78 114 = some (.aload 0, 115) := by decide +kernel
theorem c_78_115 : aCod 78 115 = some (.getfield 2051, 118) := by decide +kernel
theorem c_78_118 : aCod 78 118 = some (.getfield 1539, 121) := by decide +kernel
theorem c_78_121 : aCod 78 121 = some (.invokevirtual 5, 124) := by decide +kernel
theorem c_78_124 : aCod 78 124 = some (.aload 0, 125) := by decide +kernel
theorem c_78_125 : aCod 78 125 = some (.getfield 2056, 128) := by decide +kernel
theorem c_78_128 : aCod 78 128 = some (.invokevirtual 1, 131) := by decide +kernel
theorem c_78_131 : aCod 78 131 = some (.aload 0, 132) := by decide +kernel
theorem c_78_132 : aCod 78 132 = some (.sipush (-1), 133) := by decide +kernel
theorem c_78_133 : aCod 78 133 = some (.putfield 2062, 136) := by decide +kernel
theorem c_78_136 : aCod 78 136 = some (.aload 0, 137) := by decide +kernel
theorem c_78_137 : aCod 78 137 = some (.sipush (-1), 138) := by decide +kernel
theorem c_78_138 : aCod 78 138 = some (.putfield 2063, 141) := by decide +kernel
theorem c_78_141 : aCod 78 141 = some (.iload 1, 142) := by decide +kernel
theorem c_78_142 : aCod 78 142 = some (.ireturn, 143) := by decide +kernel
theorem c_79_0 : aCod 79 0 = some (.iload 1, 1) := by decide +kernel
theorem c_79_1 : aCod 79 1 = some (.lookupswitch 44 #[(0, 28), (1, 36)], 28) := by decide +kernel
theorem c_79_28 : aCod 79 28 = some (.aload 0, 29) := by decide +kernel
theorem c_79_29 : aCod 79 29 = some (.getfield 2050, 32) := by decide +kernel
theorem c_79_32 : aCod 79 32 = some (.getfield 775, 35) := by decide +kernel
theorem c_79_35 : aCod 79 35 = some (.ireturn, 36) := by decide +kernel
theorem c_79_36 : aCod 79 36 = some (.aload 0, 37) := by decide +kernel
theorem c_79_37 : aCod 79 37 = some (.getfield 2050, 40) := by decide +kernel
theorem c_79_40 : aCod 79 40 = some (.getfield 776, 43) := by decide +kernel
theorem c_79_43 : aCod 79 43 = some (.ireturn, 44) := by decide +kernel
theorem c_79_44 : aCod 79 44 = some (.sipush (-1), 45) := by decide +kernel
theorem c_79_45 : aCod 79 45 = some (.ireturn, 46) := by decide +kernel
theorem c_80_0 : aCod 80 0 = some (.iload 1, 1) := by decide +kernel
theorem c_80_1 : aCod 80 1 = some (.tableswitch 176 0 11 #[64, 74, 84, 94, 102, 110, 118, 126, 134, 145, 160, 168], 64) := by decide +kernel
theorem c_80_64 : aCod 80 64 = some (.aload 0, 65) := by decide +kernel
theorem c_80_65 : aCod 80 65 = some (.getfield 2051, 68) := by decide +kernel
theorem c_80_68 : aCod 80 68 = some (.getfield 1540, 71) := by decide +kernel
theorem c_80_71 : aCod 80 71 = some (.sipush 0, 72) := by decide +kernel
theorem c_80_72 : aCod 80 72 = some (.iaload, 73) := by decide +kernel
theorem c_80_73 : aCod 80 73 = some (.ireturn, 74) := by decide +kernel
theorem c_80_74 : aCod 80 74 = some (.aload 0, 75) := by decide +kernel
theorem c_80_75 : aCod 80 75 = some (.getfield 2051, 78) := by decide +kernel
theorem c_80_78 : aCod 80 78 = some (.getfield 1540, 81) := by decide +kernel
theorem c_80_81 : aCod 80 81 = some (.sipush 1, 82) := by decide +kernel
theorem c_80_82 : aCod 80 82 = some (.iaload, 83) := by decide +kernel
theorem c_80_83 : aCod 80 83 = some (.ireturn, 84) := by decide +kernel
theorem c_80_84 : aCod 80 84 = some (.aload 0, 85) := by decide +kernel
theorem c_80_85 : aCod 80 85 = some (.getfield 2051, 88) := by decide +kernel
theorem c_80_88 : aCod 80 88 = some (.getfield 1540, 91) := by decide +kernel
theorem c_80_91 : aCod 80 91 = some (.sipush 2, 92) := by decide +kernel
theorem c_80_92 : aCod 80 92 = some (.iaload, 93) := by decide +kernel
theorem c_80_93 : aCod 80 93 = some (.ireturn, 94) := by decide +kernel
theorem c_80_94 : aCod 80 94 = some (.aload 0, 95) := by decide +kernel
theorem c_80_95 : aCod 80 95 = some (.getfield 2051, 98) := by decide +kernel
theorem c_80_98 : aCod 80 98 = some (.getfield 1537, 101) := by decide +kernel
theorem c_80_101 : aCod 80 101 = some (.ireturn, 102) := by decide +kernel
theorem c_80_102 : aCod 80 102 = some (.aload 0, 103) := by decide +kernel
theorem c_80_103 : aCod 80 103 = some (.getfield 2053, 106) := by decide +kernel
theorem c_80_106 : aCod 80 106 = some (.getfield 256, 109) := by decide +kernel
theorem c_80_109 : aCod 80 109 = some (.ireturn, 110) := by decide +kernel
theorem c_80_110 : aCod 80 110 = some (.aload 0, 111) := by decide +kernel
theorem c_80_111 : aCod 80 111 = some (.getfield 2053, 114) := by decide +kernel
theorem c_80_114 : aCod 80 114 = some (.getfield 257, 117) := by decide +kernel
theorem c_80_117 : aCod 80 117 = some (.ireturn, 118) := by decide +kernel
theorem c_80_118 : aCod 80 118 = some (.aload 0, 119) := by decide +kernel
theorem c_80_119 : aCod 80 119 = some (.getfield 2053, 122) := by decide +kernel
theorem c_80_122 : aCod 80 122 = some (.getfield 258, 125) := by decide +kernel
theorem c_80_125 : aCod 80 125 = some (.ireturn, 126) := by decide +kernel
theorem c_80_126 : aCod 80 126 = some (.aload 0, 127) := by decide +kernel
theorem c_80_127 : aCod 80 127 = some (.getfield 2053, 130) := by decide +kernel
theorem c_80_130 : aCod 80 130 = some (.invokevirtual 7, 133) := by decide +kernel
theorem c_80_133 : aCod 80 133 = some (.ireturn, 134) := by decide +kernel
theorem c_80_134 : aCod 80 134 = some (.aload 0, 135) := by decide +kernel
theorem c_80_135 : aCod 80 135 = some (.getfield 2053, 138) := by decide +kernel
theorem c_80_138 : aCod 80 138 = some (.getfield 259, 141) := by decide +kernel
theorem c_80_141 : aCod 80 141 = some (.invokestatic 257, 144) := by decide +kernel
theorem c_80_144 : aCod 80 144 = some (.ireturn, 145) := by decide +kernel
theorem c_80_145 : aCod 80 145 = some (.aload 0, 146) := by decide +kernel
theorem c_80_146 : aCod 80 146 = some (.getfield 2055, 149) := by decide +kernel
theorem c_80_149 : aCod 80 149 = some (.aload 0, 150) := by decide +kernel
theorem c_80_150 : aCod 80 150 = some (.getfield 2053, 153) := by decide +kernel
theorem c_80_153 : aCod 80 153 = some (.invokevirtual 50, 156) := by decide +kernel
theorem c_80_156 : aCod 80 156 = some (.invokestatic 257, 159) := by decide +kernel
theorem c_80_159 : aCod 80 159 = some (.ireturn, 160) := by decide +kernel
theorem c_80_160 : aCod 80 160 = some (.aload 0, 161) := by decide +kernel
theorem c_80_161 : aCod 80 161 = some (.getfield 2053, 164) := by decide +kernel
theorem c_80_164 : aCod 80 164 = some (.getfield 260, 167) := by decide +kernel
theorem c_80_167 : aCod 80 167 = some (.ireturn, 168) := by decide +kernel
theorem c_80_168 : aCod 80 168 = some (.aload 0, 169) := by decide +kernel
theorem c_80_169 : aCod 80 169 = some (.getfield 2056, 172) := by decide +kernel
theorem c_80_172 : aCod 80 172 = some (.getfield 2, 175) := by decide +kernel
theorem c_80_175 : aCod 80 175 = some (.ireturn, 176) := by decide +kernel
theorem c_80_176 : aCod 80 176 = some (.sipush (-1), 177) := by decide +kernel
theorem c_80_177 : aCod 80 177 = some (.ireturn, 178) := by decide +kernel
theorem c_81_0 : aCod 81 0 = some (.iload 1, 1) := by decide +kernel
theorem c_81_1 : aCod 81 1 = some (.ifCond .lt 36, 4) := by decide +kernel
theorem c_81_4 : aCod 81 4 = some (.iload 1, 5) := by decide +kernel
theorem c_81_5 : aCod 81 5 = some (.sipush 3, 6) := by decide +kernel
theorem c_81_6 : aCod 81 6 = some (.if_icmp .ge 36, 9) := by decide +kernel
theorem c_81_9 : aCod 81 9 = some (.iload 2, 10) := by decide +kernel
theorem c_81_10 : aCod 81 10 = some (.ifCond .lt 36, 13) := by decide +kernel
theorem c_81_13 : aCod 81 13 = some (.iload 2, 14) := by decide +kernel
theorem c_81_14 : aCod 81 14 = some (.aload 0, 15) := by decide +kernel
theorem c_81_15 : aCod 81 15 = some (.getfield 2051, 18) := by decide +kernel
theorem c_81_18 : aCod 81 18 = some (.getfield 1540, 21) := by decide +kernel
theorem c_81_21 : aCod 81 21 = some (.iload 1, 22) := by decide +kernel
theorem c_81_22 : aCod 81 22 = some (.iaload, 23) := by decide +kernel
theorem c_81_23 : aCod 81 23 = some (.if_icmp .ge 36, 26) := by decide +kernel
theorem c_81_26 : aCod 81 26 = some (.iload 3, 27) := by decide +kernel
theorem c_81_27 : aCod 81 27 = some (.ifCond .lt 36, 30) := by decide +kernel
theorem c_81_30 : aCod 81 30 = some (.iload 3, 31) := by decide +kernel
theorem c_81_31 : aCod 81 31 = some (.sipush 6, 33) := by decide +kernel
theorem c_81_33 : aCod 81 33 = some (.if_icmp .lt 38, 36) := by decide +kernel
theorem c_81_36 : aCod 81 36 = some (.sipush (-1), 37) := by decide +kernel
theorem c_81_37 : aCod 81 37 = some (.ireturn, 38) := by decide +kernel
theorem c_81_38 : aCod 81 38 = some (.aload 0, 39) := by decide +kernel
theorem c_81_39 : aCod 81 39 = some (.getfield 2051, 42) := by decide +kernel
theorem c_81_42 : aCod 81 42 = some (.getfield 1541, 45) := by decide +kernel
theorem c_81_45 : aCod 81 45 = some (.iload 1, 46) := by decide +kernel
theorem c_81_46 : aCod 81 46 = some (.iload 2, 47) := by decide +kernel
theorem c_81_47 : aCod 81 47 = some (.invokestatic 65, 50) := by decide +kernel
theorem c_81_50 : aCod 81 50 = some (.sipush 6, 52) := by decide +kernel
theorem c_81_52 : aCod 81 52 = some (.imul, 53) := by decide +kernel
theorem c_81_53 : aCod 81 53 = some (.iload 3, 54) := by decide +kernel
theorem c_81_54 : aCod 81 54 = some (.iadd, 55) := by decide +kernel
theorem c_81_55 : aCod 81 55 = some (.iaload, 56) := by decide +kernel
theorem c_81_56 : aCod 81 56 = some (.ireturn, 57) := by decide +kernel
theorem c_82_0 : aCod 82 0 = some (.iload 1, 1) := by decide +kernel
theorem c_82_1 : aCod 82 1 = some (.ifCond .lt 17, 4) := by decide +kernel
theorem c_82_4 : aCod 82 4 = some (.iload 1, 5) := by decide +kernel
theorem c_82_5 : aCod 82 5 = some (.aload 0, 6) := by decide +kernel
theorem c_82_6 : aCod 82 6 = some (.getfield 2051, 9) := by decide +kernel
theorem c_82_9 : aCod 82 9 = some (.getfield 1540, 12) := by decide +kernel
theorem c_82_12 : aCod 82 12 = some (.sipush 0, 13) := by decide +kernel
theorem c_82_13 : aCod 82 13 = some (.iaload, 14) := by decide +kernel
theorem c_82_14 : aCod 82 14 = some (.if_icmp .lt 19, 17) := by decide +kernel
theorem c_82_17 : aCod 82 17 = some (.sipush (-1), 18) := by decide +kernel
theorem c_82_18 : aCod 82 18 = some (.ireturn, 19) := by decide +kernel
theorem c_82_19 : aCod 82 19 = some (.iload 2, 20) := by decide +kernel
theorem c_82_20 : aCod 82 20 = some (.lookupswitch 68 #[(0, 48), (1, 58)], 48) := by decide +kernel
theorem c_82_48 : aCod 82 48 = some (.aload 0, 49) := by decide +kernel
theorem c_82_49 : aCod 82 49 = some (.getfield 2051, 52) := by decide +kernel
theorem c_82_52 : aCod 82 52 = some (.getfield 1542, 55) := by decide +kernel
theorem c_82_55 : aCod 82 55 = some (.iload 1, 56) := by decide +kernel
theorem c_82_56 : aCod 82 56 = some (.iaload, 57) := by decide +kernel
theorem c_82_57 : aCod 82 57 = some (.ireturn, 58) := by decide +kernel
theorem c_82_58 : aCod 82 58 = some (.aload 0, 59) := by decide +kernel
theorem c_82_59 : aCod 82 59 = some (.getfield 2051, 62) := by decide +kernel
theorem c_82_62 : aCod 82 62 = some (.getfield 1543, 65) := by decide +kernel
theorem c_82_65 : aCod 82 65 = some (.iload 1, 66) := by decide +kernel
theorem c_82_66 : aCod 82 66 = some (.iaload, 67) := by decide +kernel
theorem c_82_67 : aCod 82 67 = some (.ireturn, 68) := by decide +kernel
theorem c_82_68 : aCod 82 68 = some (.sipush (-1), 69) := by decide +kernel
theorem c_82_69 : aCod 82 69 = some (.ireturn, 70) := by decide +kernel
theorem c_83_0 : aCod 83 0 = some (.aload 0, 1) := by decide +kernel
theorem c_83_1 : aCod 83 1 = some (.iload 1, 2) := by decide +kernel
theorem c_83_2 : aCod 83 2 = some (.invokevirtual 112, 5) := by decide +kernel
theorem c_83_5 : aCod 83 5 = some (.ifCond .ne 10, 8) := by decide +kernel
theorem c_83_8 : aCod 83 8 = some (.sipush (-1), 9) := by decide +kernel
theorem c_83_9 : aCod 83 9 = some (.ireturn, 10) := by decide +kernel
theorem c_83_10 : aCod 83 10 = some (.iload 2, 11) := by decide +kernel
theorem c_83_11 : aCod 83 11 = some (.tableswitch 191 0 9 #[64, 74, 84, 94, 104, 121, 131, 141, 154, 175], 64) := by decide +kernel
theorem c_83_64 : aCod 83 64 = some (.aload 0, 65) := by decide +kernel
theorem c_83_65 : aCod 83 65 = some (.getfield 2051, 68) := by decide +kernel
theorem c_83_68 : aCod 83 68 = some (.getfield 1545, 71) := by decide +kernel
theorem c_83_71 : aCod 83 71 = some (.iload 1, 72) := by decide +kernel
theorem c_83_72 : aCod 83 72 = some (.iaload, 73) := by decide +kernel
theorem c_83_73 : aCod 83 73 = some (.ireturn, 74) := by decide +kernel
theorem c_83_74 : aCod 83 74 = some (.aload 0, 75) := by decide +kernel
theorem c_83_75 : aCod 83 75 = some (.getfield 2051, 78) := by decide +kernel
theorem c_83_78 : aCod 83 78 = some (.getfield 1546, 81) := by decide +kernel
theorem c_83_81 : aCod 83 81 = some (.iload 1, 82) := by decide +kernel
theorem c_83_82 : aCod 83 82 = some (.iaload, 83) := by decide +kernel
theorem c_83_83 : aCod 83 83 = some (.ireturn, 84) := by decide +kernel
theorem c_83_84 : aCod 83 84 = some (.aload 0, 85) := by decide +kernel
theorem c_83_85 : aCod 83 85 = some (.getfield 2051, 88) := by decide +kernel
theorem c_83_88 : aCod 83 88 = some (.getfield 1547, 91) := by decide +kernel
theorem c_83_91 : aCod 83 91 = some (.iload 1, 92) := by decide +kernel
theorem c_83_92 : aCod 83 92 = some (.iaload, 93) := by decide +kernel
theorem c_83_93 : aCod 83 93 = some (.ireturn, 94) := by decide +kernel
theorem c_83_94 : aCod 83 94 = some (.aload 0, 95) := by decide +kernel
theorem c_83_95 : aCod 83 95 = some (.getfield 2051, 98) := by decide +kernel
theorem c_83_98 : aCod 83 98 = some (.getfield 1548, 101) := by decide +kernel
theorem c_83_101 : aCod 83 101 = some (.iload 1, 102) := by decide +kernel
theorem c_83_102 : aCod 83 102 = some (.iaload, 103) := by decide +kernel
theorem c_83_103 : aCod 83 103 = some (.ireturn, 104) := by decide +kernel
theorem c_83_104 : aCod 83 104 = some (.aload 0, 105) := by decide +kernel
theorem c_83_105 : aCod 83 105 = some (.getfield 2053, 108) := by decide +kernel
theorem c_83_108 : aCod 83 108 = some (.iload 1, 109) := by decide +kernel
theorem c_83_109 : aCod 83 109 = some (.invokevirtual 8, 112) := by decide +kernel
theorem c_83_112 : aCod 83 112 = some (.ifCond .eq 119, 115) := by decide +kernel
theorem c_83_115 : aCod 83 115 = some (.sipush 1, 116) := by decide +kernel
theorem c_83_116 : aCod 83 116 = some (.goto 120, 119) := by decide +kernel
theorem c_83_119 : aCod 83 119 = some (.sipush 0, 120) := by decide +kernel
theorem c_83_120 : aCod 83 120 = some (.ireturn, 121) := by decide +kernel
theorem c_83_121 : aCod 83 121 = some (.aload 0, 122) := by decide +kernel
theorem c_83_122 : aCod 83 122 = some (.getfield 2053, 125) := by decide +kernel
theorem c_83_125 : aCod 83 125 = some (.getfield 261, 128) := by decide +kernel
theorem c_83_128 : aCod 83 128 = some (.iload 1, 129) := by decide +kernel
theorem c_83_129 : aCod 83 129 = some (.iaload, 130) := by decide +kernel
theorem c_83_130 : aCod 83 130 = some (.ireturn, 131) := by decide +kernel
theorem c_83_131 : aCod 83 131 = some (.aload 0, 132) := by decide +kernel
theorem c_83_132 : aCod 83 132 = some (.getfield 2053, 135) := by decide +kernel
theorem c_83_135 : aCod 83 135 = some (.getfield 262, 138) := by decide +kernel
theorem c_83_138 : aCod 83 138 = some (.iload 1, 139) := by decide +kernel
theorem c_83_139 : aCod 83 139 = some (.iaload, 140) := by decide +kernel
theorem c_83_140 : aCod 83 140 = some (.ireturn, 141) := by decide +kernel
theorem c_83_141 : aCod 83 141 = some (.aload 0, 142) := by decide +kernel
theorem c_83_142 : aCod 83 142 = some (.getfield 2055, 145) := by decide +kernel
theorem c_83_145 : aCod 83 145 = some (.aload 0, 146) := by decide +kernel
theorem c_83_146 : aCod 83 146 = some (.getfield 2053, 149) := by decide +kernel
theorem c_83_149 : aCod 83 149 = some (.iload 1, 150) := by decide +kernel
theorem c_83_150 : aCod 83 150 = some (.invokevirtual 48, 153) := by decide +kernel
theorem c_83_153 : aCod 83 153 = some (.ireturn, 154) := by decide +kernel
theorem c_83_154 : aCod 83 154 = some (.aload 0, 155) := by decide +kernel
theorem c_83_155 : aCod 83 155 = some (.getfield 2055, 158) := by decide +kernel
theorem c_83_158 : aCod 83 158 = some (.aload 0, 159) := by decide +kernel
theorem c_83_159 : aCod 83 159 = some (.getfield 2053, 162) := by decide +kernel
theorem c_83_162 : aCod 83 162 = some (.iload 1, 163) := by decide +kernel
theorem c_83_163 : aCod 83 163 = some (.invokevirtual 49, 166) := by decide +kernel
theorem c_83_166 : aCod 83 166 = some (.ifCond .eq 173, 169) := by decide +kernel
theorem c_83_169 : aCod 83 169 = some (.sipush 1, 170) := by decide +kernel
theorem c_83_170 : aCod 83 170 = some (.goto 174, 173) := by decide +kernel
theorem c_83_173 : aCod 83 173 = some (.sipush 0, 174) := by decide +kernel
theorem c_83_174 : aCod 83 174 = some (.ireturn, 175) := by decide +kernel
theorem c_83_175 : aCod 83 175 = some (.aload 0, 176) := by decide +kernel
theorem c_83_176 : aCod 83 176 = some (.getfield 2055, 179) := by decide +kernel
theorem c_83_179 : aCod 83 179 = some (.aload 0, 180) := by decide +kernel
theorem c_83_180 : aCod 83 180 = some (.getfield 2053, 183) := by decide +kernel
theorem c_83_183 : aCod 83 183 = some (.invokevirtual 50, 186) := by decide +kernel
theorem c_83_186 : aCod 83 186 = some (.iload 1, 187) := by decide +kernel
theorem c_83_187 : aCod 83 187 = some (.ishr, 188) := by decide +kernel
theorem c_83_188 : aCod 83 188 = some (.sipush 1, 189) := by decide +kernel
theorem c_83_189 : aCod 83 189 = some (.iand, 190) := by decide +kernel
theorem c_83_190 : aCod 83 190 = some (.ireturn, 191) := by decide +kernel
theorem c_83_191 : aCod 83 191 = some (.sipush (-1), 192) := by decide +kernel
theorem c_83_192 : aCod 83 192 = some (.ireturn, 193) := by decide +kernel
theorem c_84_0 : aCod 84 0 = some (.iload 1, 1) := by decide +kernel
theorem c_84_1 : aCod 84 1 = some (.ifCond .lt 17, 4) := by decide +kernel
theorem c_84_4 : aCod 84 4 = some (.iload 1, 5) := by decide +kernel
theorem c_84_5 : aCod 84 5 = some (.aload 0, 6) := by decide +kernel
theorem c_84_6 : aCod 84 6 = some (.getfield 2051, 9) := by decide +kernel
theorem c_84_9 : aCod 84 9 = some (.getfield 1540, 12) := by decide +kernel
theorem c_84_12 : aCod 84 12 = some (.sipush 1, 13) := by decide +kernel
theorem c_84_13 : aCod 84 13 = some (.iaload, 14) := by decide +kernel
theorem c_84_14 : aCod 84 14 = some (.if_icmp .lt 21, 17) := by decide +kernel
theorem c_84_17 : aCod 84 17 = some (.sipush (-1), 18) := by decide +kernel
theorem c_84_18 : aCod 84 18 = some (.goto 30, 21) := by decide +kernel
theorem c_84_21 : aCod 84 21 = some (.aload 0, 22) := by decide +kernel
theorem c_84_22 : aCod 84 22 = some (.getfield 2051, 25) := by decide +kernel
theorem c_84_25 : aCod 84 25 = some (.getfield 1544, 28) := by decide +kernel
theorem c_84_28 : aCod 84 28 = some (.iload 1, 29) := by decide +kernel
theorem c_84_29 : aCod 84 29 = some (.iaload, 30) := by decide +kernel
theorem c_84_30 : aCod 84 30 = some (.ireturn, 31) := by decide +kernel
theorem c_85_0 : aCod 85 0 = some (.iload 1, 1) := by decide +kernel
theorem c_85_1 : aCod 85 1 = some (.ifCond .lt 24, 4) := by decide +kernel
theorem c_85_4 : aCod 85 4 = some (.iload 1, 5) := by decide +kernel
theorem c_85_5 : aCod 85 5 = some (.aload 0, 6) := by decide +kernel
theorem c_85_6 : aCod 85 6 = some (.getfield 2053, 9) := by decide +kernel
theorem c_85_9 : aCod 85 9 = some (.getfield 260, 12) := by decide +kernel
theorem c_85_12 : aCod 85 12 = some (.if_icmp .ge 24, 15) := by decide +kernel
theorem c_85_15 : aCod 85 15 = some (.iload 2, 16) := by decide +kernel
theorem c_85_16 : aCod 85 16 = some (.ifCond .lt 24, 19) := by decide +kernel
theorem c_85_19 : aCod 85 19 = some (.iload 2, 20) := by decide +kernel
theorem c_85_20 : aCod 85 20 = some (.sipush 4, 21) := by decide +kernel
theorem c_85_21 : aCod 85 21 = some (.if_icmp .lt 26, 24) := by decide +kernel
theorem c_85_24 : aCod 85 24 = some (.sipush (-1), 25) := by decide +kernel
theorem c_85_25 : aCod 85 25 = some (.ireturn, 26) := by decide +kernel
theorem c_85_26 : aCod 85 26 = some (.aload 0, 27) := by decide +kernel
theorem c_85_27 : aCod 85 27 = some (.getfield 2059, 30) := by decide +kernel
theorem c_85_30 : aCod 85 30 = some (.iload 1, 31) := by decide +kernel
theorem c_85_31 : aCod 85 31 = some (.aaload, 32) := by decide +kernel
theorem c_85_32 : aCod 85 32 = some (.iload 2, 33) := by decide +kernel
theorem c_85_33 : aCod 85 33 = some (.iaload, 34) := by decide +kernel
theorem c_85_34 : aCod 85 34 = some (.ireturn, 35) := by decide +kernel
theorem c_86_0 : aCod 86 0 = some (.aload 0, 1) := by decide +kernel
theorem c_86_1 : aCod 86 1 = some (.getfield 2051, 4) := by decide +kernel
theorem c_86_4 : aCod 86 4 = some (.getfield 1536, 7) := by decide +kernel
theorem c_86_7 : aCod 86 7 = some (.ifCond .eq 22, 10) := by decide +kernel
theorem c_86_10 : aCod 86 10 = some (.iload 1, 11) := by decide +kernel
theorem c_86_11 : aCod 86 11 = some (.ifCond .lt 22, 14) := by decide +kernel
theorem c_86_14 : aCod 86 14 = some (.iload 1, 15) := by decide +kernel
theorem c_86_15 : aCod 86 15 = some (.aload 0, 16) := by decide +kernel
theorem c_86_16 : aCod 86 16 = some (.invokevirtual 114, 19) := by decide +kernel
theorem c_86_19 : aCod 86 19 = some (.if_icmp .le 24, 22) := by decide +kernel
theorem c_86_22 : aCod 86 22 = some (.sipush (-1), 23) := by decide +kernel
theorem c_86_23 : aCod 86 23 = some (.ireturn, 24) := by decide +kernel
theorem c_86_24 : aCod 86 24 = some (.aload 0, 25) := by decide +kernel
theorem c_86_25 : aCod 86 25 = some (.getfield 2054, 28) := by decide +kernel
theorem c_86_28 : aCod 86 28 = some (.aload 0, 29) := by decide +kernel
theorem c_86_29 : aCod 86 29 = some (.getfield 2053, 32) := by decide +kernel
theorem c_86_32 : aCod 86 32 = some (.invokevirtual 6, 35) := by decide +kernel
theorem c_86_35 : aCod 86 35 = some (.sipush 0, 36) := by decide +kernel
theorem c_86_36 : aCod 86 36 = some (.istore 3, 37) := by decide +kernel
theorem c_86_37 : aCod 86 37 = some (.iload 3, 38) := by decide +kernel
theorem c_86_38 : aCod 86 38 = some (.iload 1, 39) := by decide +kernel
theorem c_86_39 : aCod 86 39 = some (.if_icmp .ge 61, 42) := by decide +kernel
theorem c_86_42 : aCod 86 42 = some (.aload 0, 43) := by decide +kernel
theorem c_86_43 : aCod 86 43 = some (.getfield 2055, 46) := by decide +kernel
theorem c_86_46 : aCod 86 46 = some (.aload 0, 47) := by decide +kernel
theorem c_86_47 : aCod 86 47 = some (.getfield 2054, 50) := by decide +kernel
theorem c_86_50 : aCod 86 50 = some (.sipush 0, 51) := by decide +kernel
theorem c_86_51 : aCod 86 51 = some (.invokevirtual 52, 54) := by decide +kernel
theorem c_86_54 : aCod 86 54 = some (.pop, 55) := by decide +kernel
theorem c_86_55 : aCod 86 55 = some (.iinc 3 1, 58) := by decide +kernel
theorem c_86_58 : aCod 86 58 = some (.goto 37, 61) := by decide +kernel
theorem c_86_61 : aCod 86 61 = some (.iload 2, 62) := by decide +kernel
theorem c_86_62 : aCod 86 62 = some (.tableswitch 128 0 3 #[92, 100, 108, 116], 92) := by decide +kernel
theorem c_86_92 : aCod 86 92 = some (.aload 0, 93) := by decide +kernel
theorem c_86_93 : aCod 86 93 = some (.getfield 2054, 96) := by decide +kernel
theorem c_86_96 : aCod 86 96 = some (.getfield 257, 99) := by decide +kernel
theorem c_86_99 : aCod 86 99 = some (.ireturn, 100) := by decide +kernel
theorem c_86_100 : aCod 86 100 = some (.aload 0, 101) := by decide +kernel
theorem c_86_101 : aCod 86 101 = some (.getfield 2054, 104) := by decide +kernel
theorem c_86_104 : aCod 86 104 = some (.getfield 258, 107) := by decide +kernel
theorem c_86_107 : aCod 86 107 = some (.ireturn, 108) := by decide +kernel
theorem c_86_108 : aCod 86 108 = some (.aload 0, 109) := by decide +kernel
theorem c_86_109 : aCod 86 109 = some (.getfield 2054, 112) := by decide +kernel
theorem c_86_112 : aCod 86 112 = some (.invokevirtual 7, 115) := by decide +kernel
theorem c_86_115 : aCod 86 115 = some (.ireturn, 116) := by decide +kernel
theorem c_86_116 : aCod 86 116 = some (.aload 0, 117) := by decide +kernel
theorem c_86_117 : aCod 86 117 = some (.getfield 2055, 120) := by decide +kernel
theorem c_86_120 : aCod 86 120 = some (.aload 0, 121) := by decide +kernel
theorem c_86_121 : aCod 86 121 = some (.getfield 2054, 124) := by decide +kernel
theorem c_86_124 : aCod 86 124 = some (.invokevirtual 50, 127) := by decide +kernel
theorem c_86_127 : aCod 86 127 = some (.ireturn, 128) := by decide +kernel
theorem c_86_128 : aCod 86 128 = some (.sipush (-1), 129) := by decide +kernel
theorem c_86_129 : aCod 86 129 = some (.ireturn, 130) := by decide +kernel
theorem c_87_0 : aCod 87 0 = some (.aload 0, 1) := by decide +kernel
theorem c_87_1 : aCod 87 1 = some (.iload 1, 2) := by decide +kernel
theorem c_87_2 : aCod 87 2 = some (.invokevirtual 112, 5) := by decide +kernel
theorem c_87_5 : aCod 87 5 = some (.ifCond .eq 19, 8) := by decide +kernel
theorem c_87_8 : aCod 87 8 = some (.aload 0, 9) := by decide +kernel
theorem c_87_9 : aCod 87 9 = some (.getfield 2053, 12) := by decide +kernel
theorem c_87_12 : aCod 87 12 = some (.iload 1, 13) := by decide +kernel
theorem c_87_13 : aCod 87 13 = some (.invokevirtual 8, 16) := by decide +kernel
theorem c_87_16 : aCod 87 16 = some (.ifCond .ne 21, 19) := by decide +kernel
theorem c_87_19 : aCod 87 19 = some (.sipush (-1), 20) := by decide +kernel
theorem c_87_20 : aCod 87 20 = some (.ireturn, 21) := by decide +kernel
theorem c_87_21 : aCod 87 21 = some (.aload 0, 22) := by decide +kernel
theorem c_87_22 : aCod 87 22 = some (.invokevirtual 114, 25) := by decide +kernel
theorem c_87_25 : aCod 87 25 = some (.istore 2, 26) := by decide +kernel
theorem c_87_26 : aCod 87 26 = some (.aload 0, 27) := by decide +kernel
theorem c_87_27 : aCod 87 27 = some (.getfield 2054, 30) := by decide +kernel
theorem c_87_30 : aCod 87 30 = some (.aload 0, 31) := by decide +kernel
theorem c_87_31 : aCod 87 31 = some (.getfield 2053, 34) := by decide +kernel
theorem c_87_34 : aCod 87 34 = some (.invokevirtual 6, 37) := by decide +kernel
theorem c_87_37 : aCod 87 37 = some (.sipush 0, 38) := by decide +kernel
theorem c_87_38 : aCod 87 38 = some (.istore 3, 39) := by decide +kernel
theorem c_87_39 : aCod 87 39 = some (.iload 3, 40) := by decide +kernel
theorem c_87_40 : aCod 87 40 = some (.iload 2, 41) := by decide +kernel
theorem c_87_41 : aCod 87 41 = some (.if_icmp .gt 83, 44) := by decide +kernel
theorem c_87_44 : aCod 87 44 = some (.aload 0, 45) := by decide +kernel
theorem c_87_45 : aCod 87 45 = some (.getfield 2055, 48) := by decide +kernel
theorem c_87_48 : aCod 87 48 = some (.aload 0, 49) := by decide +kernel
theorem c_87_49 : aCod 87 49 = some (.getfield 2054, 52) := by decide +kernel
theorem c_87_52 : aCod 87 52 = some (.invokevirtual 50, 55) := by decide +kernel
theorem c_87_55 : aCod 87 55 = some (.iload 1, 56) := by decide +kernel
theorem c_87_56 : aCod 87 56 = some (.ishr, 57) := by decide +kernel
theorem c_87_57 : aCod 87 57 = some (.sipush 1, 58) := by decide +kernel
theorem c_87_58 : aCod 87 58 = some (.iand, 59) := by decide +kernel
theorem c_87_59 : aCod 87 59 = some (.ifCond .ne 64, 62) := by decide +kernel
theorem c_87_62 : aCod 87 62 = some (.iload 3, 63) := by decide +kernel
theorem c_87_63 : aCod 87 63 = some (.ireturn, 64) := by decide +kernel
theorem c_87_64 : aCod 87 64 = some (.aload 0, 65) := by decide +kernel
theorem c_87_65 : aCod 87 65 = some (.getfield 2055, 68) := by decide +kernel
theorem c_87_68 : aCod 87 68 = some (.aload 0, 69) := by decide +kernel
theorem c_87_69 : aCod 87 69 = some (.getfield 2054, 72) := by decide +kernel
theorem c_87_72 : aCod 87 72 = some (.sipush 0, 73) := by decide +kernel
theorem c_87_73 : aCod 87 73 = some (.invokevirtual 52, 76) := by decide +kernel
theorem c_87_76 : aCod 87 76 = some (.pop, 77) := by decide +kernel
theorem c_87_77 : aCod 87 77 = some (.iinc 3 1, 80) := by decide +kernel
theorem c_87_80 : aCod 87 80 = some (.goto 39, 83) := by decide +kernel
theorem c_87_83 : aCod 87 83 = some (.sipush (-1), 84) := by decide +kernel
theorem c_87_84 : aCod 87 84 = some (.ireturn, 85) := by decide +kernel
theorem c_88_0 : aCod 88 0 = some (.aload 0, 1) := by decide +kernel
theorem c_88_1 : aCod 88 1 = some (.iload 1, 2) := by decide +kernel
theorem c_88_2 : aCod 88 2 = some (.invokevirtual 112, 5) := by decide +kernel
theorem c_88_5 : aCod 88 5 = some (.ifCond .ne 10, 8) := by decide +kernel
theorem c_88_8 : aCod 88 8 = some (.sipush (-1), 9) := by decide +kernel
theorem c_88_9 : aCod 88 9 = some (.ireturn, 10) := by decide +kernel
theorem c_88_10 : aCod 88 10 = some (.aload 0, 11) := by decide +kernel
theorem c_88_11 : aCod 88 11 = some (.invokevirtual 114, 14) := by decide +kernel
theorem c_88_14 : aCod 88 14 = some (.istore 2, 15) := by decide +kernel
theorem c_88_15 : aCod 88 15 = some (.aload 0, 16) := by decide +kernel
theorem c_88_16 : aCod 88 16 = some (.getfield 2054, 19) := by decide +kernel
theorem c_88_19 : aCod 88 19 = some (.aload 0, 20) := by decide +kernel
theorem c_88_20 : aCod 88 20 = some (.getfield 2053, 23) := by decide +kernel
theorem c_88_23 : aCod 88 23 = some (.invokevirtual 6, 26) := by decide +kernel
theorem c_88_26 : aCod 88 26 = some (.sipush 0, 27) := by decide +kernel
theorem c_88_27 : aCod 88 27 = some (.istore 3, 28) := by decide +kernel
theorem c_88_28 : aCod 88 28 = some (.iload 3, 29) := by decide +kernel
theorem c_88_29 : aCod 88 29 = some (.iload 2, 30) := by decide +kernel
theorem c_88_30 : aCod 88 30 = some (.if_icmp .gt 69, 33) := by decide +kernel
theorem c_88_33 : aCod 88 33 = some (.aload 0, 34) := by decide +kernel
theorem c_88_34 : aCod 88 34 = some (.getfield 2055, 37) := by decide +kernel
theorem c_88_37 : aCod 88 37 = some (.aload 0, 38) := by decide +kernel
theorem c_88_38 : aCod 88 38 = some (.getfield 2054, 41) := by decide +kernel
theorem c_88_41 : aCod 88 41 = some (.iload 1, 42) := by decide +kernel
theorem c_88_42 : aCod 88 42 = some (.invokevirtual 49, 45) := by decide +kernel
theorem c_88_45 : aCod 88 45 = some (.ifCond .eq 50, 48) := by decide +kernel
theorem c_88_48 : aCod 88 48 = some (.iload 3, 49) := by decide +kernel
theorem c_88_49 : aCod 88 49 = some (.ireturn, 50) := by decide +kernel
theorem c_88_50 : aCod 88 50 = some (.aload 0, 51) := by decide +kernel
theorem c_88_51 : aCod 88 51 = some (.getfield 2055, 54) := by decide +kernel
theorem c_88_54 : aCod 88 54 = some (.aload 0, 55) := by decide +kernel
theorem c_88_55 : aCod 88 55 = some (.getfield 2054, 58) := by decide +kernel
theorem c_88_58 : aCod 88 58 = some (.sipush 0, 59) := by decide +kernel
theorem c_88_59 : aCod 88 59 = some (.invokevirtual 52, 62) := by decide +kernel
theorem c_88_62 : aCod 88 62 = some (.pop, 63) := by decide +kernel
theorem c_88_63 : aCod 88 63 = some (.iinc 3 1, 66) := by decide +kernel
theorem c_88_66 : aCod 88 66 = some (.goto 28, 69) := by decide +kernel
theorem c_88_69 : aCod 88 69 = some (.sipush (-1), 70) := by decide +kernel
theorem c_88_70 : aCod 88 70 = some (.ireturn, 71) := by decide +kernel
theorem c_89_0 : aCod 89 0 = some (.aload 0, 1) := by decide +kernel
theorem c_89_1 : aCod 89 1 = some (.iload 1, 2) := by decide +kernel
theorem c_89_2 : aCod 89 2 = some (.invokevirtual 112, 5) := by decide +kernel
theorem c_89_5 : aCod 89 5 = some (.ifCond .eq 17, 8) := by decide +kernel
theorem c_89_8 : aCod 89 8 = some (.iload 2, 9) := by decide +kernel
theorem c_89_9 : aCod 89 9 = some (.ifCond .lt 17, 12) := by decide +kernel
theorem c_89_12 : aCod 89 12 = some (.iload 2, 13) := by decide +kernel
theorem c_89_13 : aCod 89 13 = some (.sipush 1, 14) := by decide +kernel
theorem c_89_14 : aCod 89 14 = some (.if_icmp .le 19, 17) := by decide +kernel
theorem c_89_17 : aCod 89 17 = some (.sipush (-1), 18) := by decide +kernel
theorem c_89_18 : aCod 89 18 = some (.ireturn, 19) := by decide +kernel
theorem c_89_19 : aCod 89 19 = some (.sipush (-1), 20) := by decide +kernel
theorem c_89_20 : aCod 89 20 = some (.istore 3, 21) := by decide +kernel
theorem c_89_21 : aCod 89 21 = some (.sipush (-1), 22) := by decide +kernel
theorem c_89_22 : aCod 89 22 = some (.istore 4, 24) := by decide +kernel
theorem c_89_24 : aCod 89 24 = some (.aload 0, 25) := by decide +kernel
theorem c_89_25 : aCod 89 25 = some (.invokevirtual 114, 28) := by decide +kernel
theorem c_89_28 : aCod 89 28 = some (.istore 5, 30) := by decide +kernel
theorem c_89_30 : aCod 89 30 = some (.aload 0, 31) := by decide +kernel
theorem c_89_31 : aCod 89 31 = some (.getfield 2054, 34) := by decide +kernel
theorem c_89_34 : aCod 89 34 = some (.aload 0, 35) := by decide +kernel
theorem c_89_35 : aCod 89 35 = some (.getfield 2053, 38) := by decide +kernel
theorem c_89_38 : aCod 89 38 = some (.invokevirtual 6, 41) := by decide +kernel
theorem c_89_41 : aCod 89 41 = some (.sipush 0, 42) := by decide +kernel
theorem c_89_42 : aCod 89 42 = some (.istore 6, 44) := by decide +kernel
theorem c_89_44 : aCod 89 44 = some (.iload 6, 46) := by decide +kernel
theorem c_89_46 : aCod 89 46 = some (.iload 5, 48) := by decide +kernel
theorem c_89_48 : aCod 89 48 = some (.if_icmp .gt 109, 51) := by decide +kernel
theorem c_89_51 : aCod 89 51 = some (.aload 0, 52) := by decide +kernel
theorem c_89_52 : aCod 89 52 = some (.getfield 2055, 55) := by decide +kernel
theorem c_89_55 : aCod 89 55 = some (.aload 0, 56) := by decide +kernel
theorem c_89_56 : aCod 89 56 = some (.getfield 2054, 59) := by decide +kernel
theorem c_89_59 : aCod 89 59 = some (.iload 1, 60) := by decide +kernel
theorem c_89_60 : aCod 89 60 = some (.invokevirtual 49, 63) := by decide +kernel
theorem c_89_63 : aCod 89 63 = some (.ifCond .eq 90, 66) := by decide +kernel
theorem c_89_66 : aCod 89 66 = some (.aload 0, 67) := by decide +kernel
theorem c_89_67 : aCod 89 67 = some (.getfield 2054, 70) := by decide +kernel
theorem c_89_70 : aCod 89 70 = some (.invokevirtual 7, 73) := by decide +kernel
theorem c_89_73 : aCod 89 73 = some (.iload 4, 75) := by decide +kernel
theorem c_89_75 : aCod 89 75 = some (.if_icmp .le 90, 78) := by decide +kernel
theorem c_89_78 : aCod 89 78 = some (.iload 6, 80) := by decide +kernel
theorem c_89_80 : aCod 89 80 = some (.istore 3, 81) := by decide +kernel
theorem c_89_81 : aCod 89 81 = some (.aload 0, 82) := by decide +kernel
theorem c_89_82 : aCod 89 82 = some (.getfield 2054, 85) := by decide +kernel
theorem c_89_85 : aCod 89 85 = some (.invokevirtual 7, 88) := by decide +kernel
theorem c_89_88 : aCod 89 88 = some (.istore 4, 90) := by decide +kernel
theorem c_89_90 : aCod 89 90 = some (.aload 0, 91) := by decide +kernel
theorem c_89_91 : aCod 89 91 = some (.getfield 2055, 94) := by decide +kernel
theorem c_89_94 : aCod 89 94 = some (.aload 0, 95) := by decide +kernel
theorem c_89_95 : aCod 89 95 = some (.getfield 2054, 98) := by decide +kernel
theorem c_89_98 : aCod 89 98 = some (.sipush 0, 99) := by decide +kernel
theorem c_89_99 : aCod 89 99 = some (.invokevirtual 52, 102) := by decide +kernel
theorem c_89_102 : aCod 89 102 = some (.pop, 103) := by decide +kernel
theorem c_89_103 : aCod 89 103 = some (.iinc 6 1, 106) := by decide +kernel
theorem c_89_106 : aCod 89 106 = some (.goto 44, 109) := by decide +kernel
theorem c_89_109 : aCod 89 109 = some (.iload 2, 110) := by decide +kernel
theorem c_89_110 : aCod 89 110 = some (.ifCond .ne 117, 113) := by decide +kernel
theorem c_89_113 : aCod 89 113 = some (.iload 3, 114) := by decide +kernel
theorem c_89_114 : aCod 89 114 = some (.goto 119, 117) := by decide +kernel
theorem c_89_117 : aCod 89 117 = some (.iload 4, 119) := by decide +kernel
theorem c_89_119 : aCod 89 119 = some (.ireturn, 120) := by decide +kernel
theorem c_90_0 : aCod 90 0 = some (.sipush 0, 1) := by decide +kernel
theorem c_90_1 : aCod 90 1 = some (.istore 1, 2) := by decide +kernel
theorem c_90_2 : aCod 90 2 = some (.sipush 0, 3) := by decide +kernel
theorem c_90_3 : aCod 90 3 = some (.istore 2, 4) := by decide +kernel
theorem c_90_4 : aCod 90 4 = some (.iload 2, 5) := by decide +kernel
theorem c_90_5 : aCod 90 5 = some (.aload 0, 6) := by decide +kernel
theorem c_90_6 : aCod 90 6 = some (.getfield 2051, 9) := by decide +kernel
theorem c_90_9 : aCod 90 9 = some (.getfield 1540, 12) := by decide +kernel
theorem c_90_12 : aCod 90 12 = some (.sipush 2, 13) := by decide +kernel
theorem c_90_13 : aCod 90 13 = some (.iaload, 14) := by decide +kernel
theorem c_90_14 : aCod 90 14 = some (.if_icmp .ge 59, 17) := by decide +kernel
theorem c_90_17 : aCod 90 17 = some (.aload 0, 18) := by decide +kernel
theorem c_90_18 : aCod 90 18 = some (.getfield 2053, 21) := by decide +kernel
theorem c_90_21 : aCod 90 21 = some (.iload 2, 22) := by decide +kernel
theorem c_90_22 : aCod 90 22 = some (.invokevirtual 8, 25) := by decide +kernel
theorem c_90_25 : aCod 90 25 = some (.ifCond .ne 53, 28) := by decide +kernel
theorem c_90_28 : aCod 90 28 = some (.aload 0, 29) := by decide +kernel
theorem c_90_29 : aCod 90 29 = some (.getfield 2053, 32) := by decide +kernel
theorem c_90_32 : aCod 90 32 = some (.getfield 256, 35) := by decide +kernel
theorem c_90_35 : aCod 90 35 = some (.aload 0, 36) := by decide +kernel
theorem c_90_36 : aCod 90 36 = some (.getfield 2051, 39) := by decide +kernel
theorem c_90_39 : aCod 90 39 = some (.getfield 1548, 42) := by decide +kernel
theorem c_90_42 : aCod 90 42 = some (.iload 2, 43) := by decide +kernel
theorem c_90_43 : aCod 90 43 = some (.iaload, 44) := by decide +kernel
theorem c_90_44 : aCod 90 44 = some (.if_icmp .le 53, 47) := by decide +kernel
theorem c_90_47 : aCod 90 47 = some (.iload 1, 48) := by decide +kernel
theorem c_90_48 : aCod 90 48 = some (.sipush 1, 49) := by decide +kernel
theorem c_90_49 : aCod 90 49 = some (.iload 2, 50) := by decide +kernel
theorem c_90_50 : aCod 90 50 = some (.ishl, 51) := by decide +kernel
theorem c_90_51 : aCod 90 51 = some (.ior, 52) := by decide +kernel
theorem c_90_52 : aCod 90 52 = some (.istore 1, 53) := by decide +kernel
theorem c_90_53 : aCod 90 53 = some (.iinc 2 1, 56) := by decide +kernel
theorem c_90_56 : aCod 90 56 = some (.goto 4, 59) := by decide +kernel
theorem c_90_59 : aCod 90 59 = some (.iload 1, 60) := by decide +kernel
theorem c_90_60 : aCod 90 60 = some (.ireturn, 61) := by decide +kernel
theorem c_91_0 : aCod 91 0 = some (.aload 0, 1) := by decide +kernel
theorem c_91_1 : aCod 91 1 = some (.getfield 2051, 4) := by decide +kernel
theorem c_91_4 : aCod 91 4 = some (.getfield 1536, 7) := by decide +kernel
theorem c_91_7 : aCod 91 7 = some (.ifCond .eq 19, 10) := by decide +kernel
theorem c_91_10 : aCod 91 10 = some (.iload 1, 11) := by decide +kernel
theorem c_91_11 : aCod 91 11 = some (.ifCond .lt 19, 14) := by decide +kernel
theorem c_91_14 : aCod 91 14 = some (.iload 1, 15) := by decide +kernel
theorem c_91_15 : aCod 91 15 = some (.sipush 2, 16) := by decide +kernel
theorem c_91_16 : aCod 91 16 = some (.if_icmp .le 21, 19) := by decide +kernel
theorem c_91_19 : aCod 91 19 = some (.sipush (-1), 20) := by decide +kernel
theorem c_91_20 : aCod 91 20 = some (.ireturn, 21) := by decide +kernel
theorem c_91_21 : aCod 91 21 = some (.aload 0, 22) := by decide +kernel
theorem c_91_22 : aCod 91 22 = some (.getfield 2057, 25) := by decide +kernel
theorem c_91_25 : aCod 91 25 = some (.aload 0, 26) := by decide +kernel
theorem c_91_26 : aCod 91 26 = some (.getfield 2053, 29) := by decide +kernel
theorem c_91_29 : aCod 91 29 = some (.invokevirtual 61, 32) := by decide +kernel
theorem c_91_32 : aCod 91 32 = some (.aload 0, 33) := by decide +kernel
theorem c_91_33 : aCod 91 33 = some (.sipush 0, 34) := by decide +kernel
theorem c_91_34 : aCod 91 34 = some (.invokevirtual 117, 37) := by decide +kernel
theorem c_91_37 : aCod 91 37 = some (.iload 1, 38) := by decide +kernel
theorem c_91_38 : aCod 91 38 = some (.lookupswitch 80 #[(0, 64), (1, 72)], 64) := by decide +kernel
theorem c_91_64 : aCod 91 64 = some (.aload 0, 65) := by decide +kernel
theorem c_91_65 : aCod 91 65 = some (.getfield 2057, 68) := by decide +kernel
theorem c_91_68 : aCod 91 68 = some (.getfield 1284, 71) := by decide +kernel
theorem c_91_71 : aCod 91 71 = some (.ireturn, 72) := by decide +kernel
theorem c_91_72 : aCod 91 72 = some (.aload 0, 73) := by decide +kernel
theorem c_91_73 : aCod 91 73 = some (.getfield 2057, 76) := by decide +kernel
theorem c_91_76 : aCod 91 76 = some (.getfield 1285, 79) := by decide +kernel
theorem c_91_79 : aCod 91 79 = some (.ireturn, 80) := by decide +kernel
theorem c_91_80 : aCod 91 80 = some (.aload 0, 81) := by decide +kernel
theorem c_91_81 : aCod 91 81 = some (.getfield 2057, 84) := by decide +kernel
theorem c_91_84 : aCod 91 84 = some (.getfield 1286, 87) := by decide +kernel
theorem c_91_87 : aCod 91 87 = some (.ireturn, 88) := by decide +kernel
theorem c_92_0 : aCod 92 0 = some (.aload 0, 1) := by decide +kernel
theorem c_92_1 : aCod 92 1 = some (.getfield 2051, 4) := by decide +kernel
theorem c_92_4 : aCod 92 4 = some (.getfield 1536, 7) := by decide +kernel
theorem c_92_7 : aCod 92 7 = some (.ifCond .eq 41, 10) := by decide +kernel
theorem c_92_10 : aCod 92 10 = some (.iload 1, 11) := by decide +kernel
theorem c_92_11 : aCod 92 11 = some (.ifCond .lt 41, 14) := by decide +kernel
theorem c_92_14 : aCod 92 14 = some (.iload 1, 15) := by decide +kernel
theorem c_92_15 : aCod 92 15 = some (.sipush 1, 16) := by decide +kernel
theorem c_92_16 : aCod 92 16 = some (.aload 0, 17) := by decide +kernel
theorem c_92_17 : aCod 92 17 = some (.getfield 2051, 20) := by decide +kernel
theorem c_92_20 : aCod 92 20 = some (.getfield 1540, 23) := by decide +kernel
theorem c_92_23 : aCod 92 23 = some (.sipush 2, 24) := by decide +kernel
theorem c_92_24 : aCod 92 24 = some (.iaload, 25) := by decide +kernel
theorem c_92_25 : aCod 92 25 = some (.ishl, 26) := by decide +kernel
theorem c_92_26 : aCod 92 26 = some (.if_icmp .ge 41, 29) := by decide +kernel
theorem c_92_29 : aCod 92 29 = some (.iload 1, 30) := by decide +kernel
theorem c_92_30 : aCod 92 30 = some (.aload 0, 31) := by decide +kernel
theorem c_92_31 : aCod 92 31 = some (.getfield 2053, 34) := by decide +kernel
theorem c_92_34 : aCod 92 34 = some (.getfield 259, 37) := by decide +kernel
theorem c_92_37 : aCod 92 37 = some (.iand, 38) := by decide +kernel
theorem c_92_38 : aCod 92 38 = some (.ifCond .eq 43, 41) := by decide +kernel
theorem c_92_41 : aCod 92 41 = some (.sipush (-1), 42) := by decide +kernel
theorem c_92_42 : aCod 92 42 = some (.ireturn, 43) := by decide +kernel
theorem c_92_43 : aCod 92 43 = some (.aload 0, 44) := by decide +kernel
theorem c_92_44 : aCod 92 44 = some (.invokevirtual 114, 47) := by decide +kernel
theorem c_92_47 : aCod 92 47 = some (.istore 2, 48) := by decide +kernel
theorem c_92_48 : aCod 92 48 = some (.aload 0, 49) := by decide +kernel
theorem c_92_49 : aCod 92 49 = some (.getfield 2054, 52) := by decide +kernel
theorem c_92_52 : aCod 92 52 = some (.aload 0, 53) := by decide +kernel
theorem c_92_53 : aCod 92 53 = some (.getfield 2053, 56) := by decide +kernel
theorem c_92_56 : aCod 92 56 = some (.invokevirtual 6, 59) := by decide +kernel
theorem c_92_59 : aCod 92 59 = some (.sipush 0, 60) := by decide +kernel
theorem c_92_60 : aCod 92 60 = some (.istore 3, 61) := by decide +kernel
theorem c_92_61 : aCod 92 61 = some (.iload 3, 62) := by decide +kernel
theorem c_92_62 : aCod 92 62 = some (.iload 2, 63) := by decide +kernel
theorem c_92_63 : aCod 92 63 = some (.if_icmp .gt 113, 66) := by decide +kernel
theorem c_92_66 : aCod 92 66 = some (.aload 0, 67) := by decide +kernel
theorem c_92_67 : aCod 92 67 = some (.getfield 2055, 70) := by decide +kernel
theorem c_92_70 : aCod 92 70 = some (.aload 0, 71) := by decide +kernel
theorem c_92_71 : aCod 92 71 = some (.getfield 2054, 74) := by decide +kernel
theorem c_92_74 : aCod 92 74 = some (.iload 1, 75) := by decide +kernel
theorem c_92_75 : aCod 92 75 = some (.invokevirtual 51, 78) := by decide +kernel
theorem c_92_78 : aCod 92 78 = some (.iload 1, 79) := by decide +kernel
theorem c_92_79 : aCod 92 79 = some (.aload 0, 80) := by decide +kernel
theorem c_92_80 : aCod 92 80 = some (.getfield 2054, 83) := by decide +kernel
theorem c_92_83 : aCod 92 83 = some (.getfield 259, 86) := by decide +kernel
theorem c_92_86 : aCod 92 86 = some (.sipush (-1), 87) := by decide +kernel
theorem c_92_87 : aCod 92 87 = some (.ixor, 88) := by decide +kernel
theorem c_92_88 : aCod 92 88 = some (.iand, 89) := by decide +kernel
theorem c_92_89 : aCod 92 89 = some (.ifCond .ne 94, 92) := by decide +kernel
theorem c_92_92 : aCod 92 92 = some (.iload 3, 93) := by decide +kernel
theorem c_92_93 : aCod 92 93 = some (.ireturn, 94) := by decide +kernel
theorem c_92_94 : aCod 92 94 = some (.aload 0, 95) := by decide +kernel
theorem c_92_95 : aCod 92 95 = some (.getfield 2055, 98) := by decide +kernel
theorem c_92_98 : aCod 92 98 = some (.aload 0, 99) := by decide +kernel
theorem c_92_99 : aCod 92 99 = some (.getfield 2054, 102) := by decide +kernel
theorem c_92_102 : aCod 92 102 = some (.sipush 0, 103) := by decide +kernel
theorem c_92_103 : aCod 92 103 = some (.invokevirtual 52, 106) := by decide +kernel
theorem c_92_106 : aCod 92 106 = some (.pop, 107) := by decide +kernel
theorem c_92_107 : aCod 92 107 = some (.iinc 3 1, 110) := by decide +kernel
theorem c_92_110 : aCod 92 110 = some (.goto 61, 113) := by decide +kernel
theorem c_92_113 : aCod 92 113 = some (.sipush (-1), 114) := by decide +kernel
theorem c_92_114 : aCod 92 114 = some (.ireturn, 115) := by decide +kernel
theorem c_93_0 : aCod 93 0 = some (.aload 0, 1) := by decide +kernel
theorem c_93_1 : aCod 93 1 = some (.getfield 2051, 4) := by decide +kernel
theorem c_93_4 : aCod 93 4 = some (.getfield 1536, 7) := by decide +kernel
theorem c_93_7 : aCod 93 7 = some (.ifCond .eq 34, 10) := by decide +kernel
theorem c_93_10 : aCod 93 10 = some (.iload 4, 12) := by decide +kernel
theorem c_93_12 : aCod 93 12 = some (.ifCond .lt 34, 15) := by decide +kernel
theorem c_93_15 : aCod 93 15 = some (.iload 4, 17) := by decide +kernel
theorem c_93_17 : aCod 93 17 = some (.sipush 2, 18) := by decide +kernel
theorem c_93_18 : aCod 93 18 = some (.if_icmp .gt 34, 21) := by decide +kernel
theorem c_93_21 : aCod 93 21 = some (.aload 0, 22) := by decide +kernel
theorem c_93_22 : aCod 93 22 = some (.getfield 2053, 25) := by decide +kernel
theorem c_93_25 : aCod 93 25 = some (.getfield 256, 28) := by decide +kernel
theorem c_93_28 : aCod 93 28 = some (.sipush 999, 31) := by decide +kernel
theorem c_93_31 : aCod 93 31 = some (.if_icmp .lt 36, 34) := by decide +kernel
theorem c_93_34 : aCod 93 34 = some (.sipush (-1), 35) := by decide +kernel
theorem c_93_35 : aCod 93 35 = some (.ireturn, 36) := by decide +kernel
theorem c_93_36 : aCod 93 36 = some (.iload 1, 37) := by decide +kernel
theorem c_93_37 : aCod 93 37 = some (.sipush 1, 38) := by decide +kernel
theorem c_93_38 : aCod 93 38 = some (.if_icmp .lt 67, 41) := by decide +kernel
theorem c_93_41 : aCod 93 41 = some (.iload 1, 42) := by decide +kernel
theorem c_93_42 : aCod 93 42 = some (.sipush 999, 45) := by decide +kernel
theorem c_93_45 : aCod 93 45 = some (.if_icmp .gt 67, 48) := by decide +kernel
theorem c_93_48 : aCod 93 48 = some (.iload 2, 49) := by decide +kernel
theorem c_93_49 : aCod 93 49 = some (.invokestatic 113, 52) := by decide +kernel
theorem c_93_52 : aCod 93 52 = some (.ifCond .ne 67, 55) := by decide +kernel
theorem c_93_55 : aCod 93 55 = some (.iload 3, 56) := by decide +kernel
theorem c_93_56 : aCod 93 56 = some (.sipush (-1), 57) := by decide +kernel
theorem c_93_57 : aCod 93 57 = some (.if_icmp .eq 69, 60) := by decide +kernel
theorem c_93_60 : aCod 93 60 = some (.iload 3, 61) := by decide +kernel
theorem c_93_61 : aCod 93 61 = some (.invokestatic 113, 64) := by decide +kernel
theorem c_93_64 : aCod 93 64 = some (.ifCond .eq 69, 67) := by decide +kernel
theorem c_93_67 : aCod 93 67 = some (.sipush (-1), 68) := by decide +kernel
theorem c_93_68 : aCod 93 68 = some (.ireturn, 69) := by decide +kernel
theorem c_93_69 : aCod 93 69 = some (.sipush 0, 70) := by decide +kernel
theorem c_93_70 : aCod 93 70 = some (.istore 5, 72) := by decide +kernel
theorem c_93_72 : aCod 93 72 = some (.sipush (-1), 73) := by decide +kernel
theorem c_93_73 : aCod 93 73 = some (.istore 6, 75) := by decide +kernel
theorem c_93_75 : aCod 93 75 = some (.sipush 0, 76) := by decide +kernel
theorem c_93_76 : aCod 93 76 = some (.istore 7, 78) := by decide +kernel
theorem c_93_78 : aCod 93 78 = some (.sipush 0, 79) := by decide +kernel
theorem c_93_79 : aCod 93 79 = some (.istore 8, 81) := by decide +kernel
theorem c_93_81 : aCod 93 81 = some (.iload 8, 83) := by decide +kernel
theorem c_93_83 : aCod 93 83 = some (.sipush 1, 84) := by decide +kernel
theorem c_93_84 : aCod 93 84 = some (.aload 0, 85) := by decide +kernel
theorem c_93_85 : aCod 93 85 = some (.getfield 2051, 88) := by decide +kernel
theorem c_93_88 : aCod 93 88 = some (.getfield 1540, 91) := by decide +kernel
theorem c_93_91 : aCod 93 91 = some (.sipush 0, 92) := by decide +kernel
theorem c_93_92 : aCod 93 92 = some (.iaload, 93) := by decide +kernel
theorem c_93_93 : aCod 93 93 = some (.ishl, 94) := by decide +kernel
theorem c_93_94 : aCod 93 94 = some (.if_icmp .ge 190, 97) := by decide +kernel
theorem c_93_97 : aCod 93 97 = some (.aload 0, 98) := by decide +kernel
theorem c_93_98 : aCod 93 98 = some (.getfield 2054, 101) := by decide +kernel
theorem c_93_101 : aCod 93 101 = some (.aload 0, 102) := by decide +kernel
theorem c_93_102 : aCod 93 102 = some (.getfield 2053, 105) := by decide +kernel
theorem c_93_105 : aCod 93 105 = some (.invokevirtual 6, 108) := by decide +kernel
theorem c_93_108 : aCod 93 108 = some (.aload 0, 109) := by decide +kernel
theorem c_93_109 : aCod 93 109 = some (.getfield 2054, 112) := by decide +kernel
theorem c_93_112 : aCod 93 112 = some (.dup, 113) := by decide +kernel
theorem c_93_113 : aCod 93 113 = some (.getfield 257, 116) := by decide +kernel
theorem c_93_116 : aCod 93 116 = some (.iload 1, 117) := by decide +kernel
theorem c_93_117 : aCod 93 117 = some (.iload 8, 119) := by decide +kernel
theorem c_93_119 : aCod 93 119 = some (.invokestatic 257, 122) := by decide +kernel
theorem c_93_122 : aCod 93 122 = some (.imul, 123) := by decide +kernel
theorem c_93_123 : aCod 93 123 = some (.iadd, 124) := by decide +kernel
theorem c_93_124 : aCod 93 124 = some (.putfield 257, 127) := by decide +kernel
theorem c_93_127 : aCod 93 127 = some (.aload 0, 128) := by decide +kernel
theorem c_93_128 : aCod 93 128 = some (.getfield 2055, 131) := by decide +kernel
theorem c_93_131 : aCod 93 131 = some (.aload 0, 132) := by decide +kernel
theorem c_93_132 : aCod 93 132 = some (.getfield 2054, 135) := by decide +kernel
theorem c_93_135 : aCod 93 135 = some (.sipush 0, 136) := by decide +kernel
theorem c_93_136 : aCod 93 136 = some (.invokevirtual 53, 139) := by decide +kernel
theorem c_93_139 : aCod 93 139 = some (.pop, 140) := by decide +kernel
theorem c_93_140 : aCod 93 140 = some (.aload 0, 141) := by decide +kernel
theorem c_93_141 : aCod 93 141 = some (.getfield 2054, 144) := by decide +kernel
theorem c_93_144 : aCod 93 144 = some (.getfield 257, 147) := by decide +kernel
theorem c_93_147 : aCod 93 147 = some (.iload 2, 148) := by decide +kernel
theorem c_93_148 : aCod 93 148 = some (.if_icmp .ne 184, 151) := by decide +kernel
theorem c_93_151 : aCod 93 151 = some (.iload 3, 152) := by decide +kernel
theorem c_93_152 : aCod 93 152 = some (.sipush (-1), 153) := by decide +kernel
theorem c_93_153 : aCod 93 153 = some (.if_icmp .eq 167, 156) := by decide +kernel
theorem c_93_156 : aCod 93 156 = some (.aload 0, 157) := by decide +kernel
theorem c_93_157 : aCod 93 157 = some (.getfield 2054, 160) := by decide +kernel
theorem c_93_160 : aCod 93 160 = some (.invokevirtual 7, 163) := by decide +kernel
theorem c_93_163 : aCod 93 163 = some (.iload 3, 164) := by decide +kernel
theorem c_93_164 : aCod 93 164 = some (.if_icmp .ne 184, 167) := by decide +kernel
theorem c_93_167 : aCod 93 167 = some (.iinc 5 1, 170) := by decide +kernel
theorem c_93_170 : aCod 93 170 = some (.iload 6, 172) := by decide +kernel
theorem c_93_172 : aCod 93 172 = some (.iload 8, 174) := by decide +kernel
theorem c_93_174 : aCod 93 174 = some (.iand, 175) := by decide +kernel
theorem c_93_175 : aCod 93 175 = some (.istore 6, 177) := by decide +kernel
theorem c_93_177 : aCod 93 177 = some (.iload 7, 179) := by decide +kernel
theorem c_93_179 : aCod 93 179 = some (.iload 8, 181) := by decide +kernel
theorem c_93_181 : aCod 93 181 = some (.ior, 182) := by decide +kernel
theorem c_93_182 : aCod 93 182 = some (.istore 7, 184) := by decide +kernel
theorem c_93_184 : aCod 93 184 = some (.iinc 8 1, 187) := by decide +kernel
theorem c_93_187 : aCod 93 187 = some (.goto 81, 190) := by decide +kernel
theorem c_93_190 : aCod 93 190 = some (.iload 4, 192) := by decide +kernel
theorem c_93_192 : aCod 93 192 = some (.lookupswitch 235 #[(0, 220), (1, 223)], 220) := by decide +kernel
theorem c_93_220 : aCod 93 220 = some (.iload 5, 222) := by decide +kernel
theorem c_93_222 : aCod 93 222 = some (.ireturn, 223) := by decide +kernel
theorem c_93_223 : aCod 93 223 = some (.iload 5, 225) := by decide +kernel
theorem c_93_225 : aCod 93 225 = some (.ifCond .ne 232, 228) := by decide +kernel
theorem c_93_228 : aCod 93 228 = some (.sipush 0, 229) := by decide +kernel
theorem c_93_229 : aCod 93 229 = some (.goto 234, 232) := by decide +kernel
theorem c_93_232 : aCod 93 232 = some (.iload 6, 234) := by decide +kernel
theorem c_93_234 : aCod 93 234 = some (.ireturn, 235) := by decide +kernel
theorem c_93_235 : aCod 93 235 = some (.iload 7, 237) := by decide +kernel
theorem c_93_237 : aCod 93 237 = some (.ireturn, 238) := by decide +kernel
theorem c_94_0 : aCod 94 0 = some (.aload 0, 1) := by decide +kernel
theorem c_94_1 : aCod 94 1 = some (.invokevirtual 110, 4) := by decide +kernel
theorem c_94_4 : aCod 94 4 = some (.istore 1, 5) := by decide +kernel
theorem c_94_5 : aCod 94 5 = some (.iload 1, 6) := by decide +kernel
theorem c_94_6 : aCod 94 6 = some (.sipush 2, 7) := by decide +kernel
theorem c_94_7 : aCod 94 7 = some (.idiv, 8) := by decide +kernel
theorem c_94_8 : aCod 94 8 = some (.istore 2, 9) := by decide +kernel
theorem c_94_9 : aCod 94 9 = some (.aload 0, 10) := by decide +kernel
theorem c_94_10 : aCod 94 10 = some (.getfield 2051, 13) := by decide +kernel
theorem c_94_13 : aCod 94 13 = some (.getfield 1536, 16) := by decide +kernel
theorem c_94_16 : aCod 94 16 = some (.ifCond .eq 51, 19) := by decide +kernel
theorem c_94_19 : aCod 94 19 = some (.iload 1, 20) := by decide +kernel
theorem c_94_20 : aCod 94 20 = some (.sipush 2, 21) := by decide +kernel
theorem c_94_21 : aCod 94 21 = some (.irem, 22) := by decide +kernel
theorem c_94_22 : aCod 94 22 = some (.ifCond .ne 51, 25) := by decide +kernel
theorem c_94_25 : aCod 94 25 = some (.iload 2, 26) := by decide +kernel
theorem c_94_26 : aCod 94 26 = some (.sipush 1, 27) := by decide +kernel
theorem c_94_27 : aCod 94 27 = some (.if_icmp .lt 51, 30) := by decide +kernel
theorem c_94_30 : aCod 94 30 = some (.iload 2, 31) := by decide +kernel
theorem c_94_31 : aCod 94 31 = some (.sipush 10, 33) := by decide +kernel
theorem c_94_33 : aCod 94 33 = some (.if_icmp .gt 51, 36) := by decide +kernel
theorem c_94_36 : aCod 94 36 = some (.aload 0, 37) := by decide +kernel
theorem c_94_37 : aCod 94 37 = some (.getfield 2053, 40) := by decide +kernel
theorem c_94_40 : aCod 94 40 = some (.getfield 256, 43) := by decide +kernel
theorem c_94_43 : aCod 94 43 = some (.iload 2, 44) := by decide +kernel
theorem c_94_44 : aCod 94 44 = some (.iadd, 45) := by decide +kernel
theorem c_94_45 : aCod 94 45 = some (.sipush 999, 48) := by decide +kernel
theorem c_94_48 : aCod 94 48 = some (.if_icmp .le 57, 51) := by decide +kernel
theorem c_94_51 : aCod 94 51 = some (.aload 0, 52) := by decide +kernel
theorem c_94_52 : aCod 94 52 = some (.sipush 1, 53) := by decide +kernel
theorem c_94_53 : aCod 94 53 = some (.invokevirtual 108, 56) := by decide +kernel
theorem c_94_56 : aCod 94 56 = some (.ireturn, 57) := by decide +kernel
theorem c_94_57 : aCod 94 57 = some (.sipush 0, 58) := by decide +kernel
theorem c_94_58 : aCod 94 58 = some (.istore 3, 59) := by decide +kernel
theorem c_94_59 : aCod 94 59 = some (.aload 0, 60) := by decide +kernel
theorem c_94_60 : aCod 94 60 = some (.sipush (-1), 61) := by decide +kernel
theorem c_94_61 : aCod 94 61 = some (.putfield 2062, 64) := by decide +kernel
theorem c_94_64 : aCod 94 64 = some (.aload 0, 65) := by decide +kernel
theorem c_94_65 : aCod 94 65 = some (.sipush (-1), 66) := by decide +kernel
theorem c_94_66 : aCod 94 66 = some (.putfield 2063, 69) := by decide +kernel
theorem c_94_69 : aCod 94 69 = some (.sipush 0, 70) := by decide +kernel
theorem c_94_70 : aCod 94 70 = some (.istore 4, 72) := by decide +kernel
theorem c_94_72 : aCod 94 72 = some (.iload 4, 74) := by decide +kernel
theorem c_94_74 : aCod 94 74 = some (.sipush 999, 77) := by decide +kernel
theorem c_94_77 : aCod 94 77 = some (.if_icmp .gt 123, 80) := by decide +kernel
theorem c_94_80 : aCod 94 80 = some (.aload 0, 81) := by decide +kernel
theorem c_94_81 : aCod 94 81 = some (.iload 4, 83) := by decide +kernel
theorem c_94_83 : aCod 94 83 = some (.iload 2, 84) := by decide +kernel
theorem c_94_84 : aCod 94 84 = some (.invokevirtual 116, 87) := by decide +kernel
theorem c_94_87 : aCod 94 87 = some (.ifCond .eq 117, 90) := by decide +kernel
theorem c_94_90 : aCod 94 90 = some (.iinc 3 1, 93) := by decide +kernel
theorem c_94_93 : aCod 94 93 = some (.aload 0, 94) := by decide +kernel
theorem c_94_94 : aCod 94 94 = some (.iload 3, 95) := by decide +kernel
theorem c_94_95 : aCod 94 95 = some (.sipush 1, 96) := by decide +kernel
theorem c_94_96 : aCod 94 96 = some (.if_icmp .ne 104, 99) := by decide +kernel
theorem c_94_99 : aCod 94 99 = some (.iload 4, 101) := by decide +kernel
theorem c_94_101 : aCod 94 101 = some (.goto 108, 104) := by decide +kernel
theorem c_94_104 : aCod 94 104 = some (.aload 0, 105) := by decide +kernel
theorem c_94_105 : aCod 94 105 = some (.getfield 2062, 108) := by decide +kernel
theorem c_94_108 : aCod 94 108 = some (.putfield 2062, 111) := by decide +kernel
theorem c_94_111 : aCod 94 111 = some (.aload 0, 112) := by decide +kernel
theorem c_94_112 : aCod 94 112 = some (.iload 4, 114) := by decide +kernel
theorem c_94_114 : aCod 94 114 = some (.putfield 2063, 117) := by decide +kernel
theorem c_94_117 : aCod 94 117 = some (.iinc 4 1, 120) := by decide +kernel
theorem c_94_120 : aCod 94 120 = some (.goto 72, 123) := by decide +kernel
theorem c_94_123 : aCod 94 123 = some (.iload 3, 124) := by decide +kernel
theorem c_94_124 : aCod 94 124 = some (.ireturn, 125) := by decide +kernel
theorem c_95_0 : aCod 95 0 = some (.iload 1, 1) := by decide +kernel
theorem c_95_1 : aCod 95 1 = some (.lookupswitch 38 #[(0, 28), (1, 33)], 28) := by decide +kernel
theorem c_95_28 : aCod 95 28 = some (.aload 0, 29) := by decide +kernel
theorem c_95_29 : aCod 95 29 = some (.getfield 2062, 32) := by decide +kernel
theorem c_95_32 : aCod 95 32 = some (.ireturn, 33) := by decide +kernel
theorem c_95_33 : aCod 95 33 = some (.aload 0, 34) := by decide +kernel
theorem c_95_34 : aCod 95 34 = some (.getfield 2063, 37) := by decide +kernel
theorem c_95_37 : aCod 95 37 = some (.ireturn, 38) := by decide +kernel
theorem c_95_38 : aCod 95 38 = some (.sipush (-1), 39) := by decide +kernel
theorem c_95_39 : aCod 95 39 = some (.ireturn, 40) := by decide +kernel
theorem c_96_0 : aCod 96 0 = some (.aload 0, 1) := by decide +kernel
theorem c_96_1 : aCod 96 1 = some (.iload 1, 2) := by decide +kernel
theorem c_96_2 : aCod 96 2 = some (.invokevirtual 112, 5) := by decide +kernel
theorem c_96_5 : aCod 96 5 = some (.ifCond .ne 10, 8) := by decide +kernel
theorem c_96_8 : aCod 96 8 = some (.sipush (-1), 9) := by decide +kernel
theorem c_96_9 : aCod 96 9 = some (.ireturn, 10) := by decide +kernel
theorem c_96_10 : aCod 96 10 = some (.aload 0, 11) := by decide +kernel
theorem c_96_11 : aCod 96 11 = some (.getfield 2051, 14) := by decide +kernel
theorem c_96_14 : aCod 96 14 = some (.sipush 2, 15) := by decide +kernel
theorem c_96_15 : aCod 96 15 = some (.iload 1, 16) := by decide +kernel
theorem c_96_16 : aCod 96 16 = some (.invokevirtual 69, 19) := by decide +kernel
theorem c_96_19 : aCod 96 19 = some (.istore 2, 20) := by decide +kernel
theorem c_96_20 : aCod 96 20 = some (.sipush 1, 21) := by decide +kernel
theorem c_96_21 : aCod 96 21 = some (.istore 3, 22) := by decide +kernel
theorem c_96_22 : aCod 96 22 = some (.iload 3, 23) := by decide +kernel
theorem c_96_23 : aCod 96 23 = some (.iload 2, 24) := by decide +kernel
theorem c_96_24 : aCod 96 24 = some (.if_icmp .ge 47, 27) := by decide +kernel
theorem c_96_27 : aCod 96 27 = some (.aload 0, 28) := by decide +kernel
theorem c_96_28 : aCod 96 28 = some (.getfield 2051, 31) := by decide +kernel
theorem c_96_31 : aCod 96 31 = some (.iload 1, 32) := by decide +kernel
theorem c_96_32 : aCod 96 32 = some (.iload 3, 33) := by decide +kernel
theorem c_96_33 : aCod 96 33 = some (.invokevirtual 70, 36) := by decide +kernel
theorem c_96_36 : aCod 96 36 = some (.ifCond .eq 41, 39) := by decide +kernel
theorem c_96_39 : aCod 96 39 = some (.iload 3, 40) := by decide +kernel
theorem c_96_40 : aCod 96 40 = some (.ireturn, 41) := by decide +kernel
theorem c_96_41 : aCod 96 41 = some (.iinc 3 1, 44) := by decide +kernel
theorem c_96_44 : aCod 96 44 = some (.goto 22, 47) := by decide +kernel
theorem c_96_47 : aCod 96 47 = some (.iload 2, 48) := by decide +kernel
theorem c_96_48 : aCod 96 48 = some (.ireturn, 49) := by decide +kernel
theorem c_97_0 : aCod 97 0 = some (.aload 0, 1) := by decide +kernel
theorem c_97_1 : aCod 97 1 = some (.iload 1, 2) := by decide +kernel
theorem c_97_2 : aCod 97 2 = some (.invokevirtual 112, 5) := by decide +kernel
theorem c_97_5 : aCod 97 5 = some (.ifCond .eq 23, 8) := by decide +kernel
theorem c_97_8 : aCod 97 8 = some (.aload 0, 9) := by decide +kernel
theorem c_97_9 : aCod 97 9 = some (.getfield 2055, 12) := by decide +kernel
theorem c_97_12 : aCod 97 12 = some (.aload 0, 13) := by decide +kernel
theorem c_97_13 : aCod 97 13 = some (.getfield 2053, 16) := by decide +kernel
theorem c_97_16 : aCod 97 16 = some (.iload 1, 17) := by decide +kernel
theorem c_97_17 : aCod 97 17 = some (.invokevirtual 49, 20) := by decide +kernel
theorem c_97_20 : aCod 97 20 = some (.ifCond .ne 29, 23) := by decide +kernel
theorem c_97_23 : aCod 97 23 = some (.aload 0, 24) := by decide +kernel
theorem c_97_24 : aCod 97 24 = some (.sipush 2, 25) := by decide +kernel
theorem c_97_25 : aCod 97 25 = some (.invokevirtual 108, 28) := by decide +kernel
theorem c_97_28 : aCod 97 28 = some (.ireturn, 29) := by decide +kernel
theorem c_97_29 : aCod 97 29 = some (.aload 0, 30) := by decide +kernel
theorem c_97_30 : aCod 97 30 = some (.getfield 2056, 33) := by decide +kernel
theorem c_97_33 : aCod 97 33 = some (.aload 0, 34) := by decide +kernel
theorem c_97_34 : aCod 97 34 = some (.getfield 2053, 37) := by decide +kernel
theorem c_97_37 : aCod 97 37 = some (.invokevirtual 2, 40) := by decide +kernel
theorem c_97_40 : aCod 97 40 = some (.aload 0, 41) := by decide +kernel
theorem c_97_41 : aCod 97 41 = some (.getfield 2055, 44) := by decide +kernel
theorem c_97_44 : aCod 97 44 = some (.aload 0, 45) := by decide +kernel
theorem c_97_45 : aCod 97 45 = some (.getfield 2053, 48) := by decide +kernel
theorem c_97_48 : aCod 97 48 = some (.iload 1, 49) := by decide +kernel
theorem c_97_49 : aCod 97 49 = some (.invokevirtual 48, 52) := by decide +kernel
theorem c_97_52 : aCod 97 52 = some (.istore 2, 53) := by decide +kernel
theorem c_97_53 : aCod 97 53 = some (.aload 0, 54) := by decide +kernel
theorem c_97_54 : aCod 97 54 = some (.getfield 2053, 57) := by decide +kernel
theorem c_97_57 : aCod 97 57 = some (.iload 1, 58) := by decide +kernel
theorem c_97_58 : aCod 97 58 = some (.iload 2, 59) := by decide +kernel
theorem c_97_59 : aCod 97 59 = some (.invokevirtual 9, 62) := by decide +kernel
theorem c_97_62 : aCod 97 62 = some (.aload 0, 63) := by decide +kernel
theorem c_97_63 : aCod 97 63 = some (.iload 1, 64) := by decide +kernel
theorem c_97_64 : aCod 97 64 = some (.iload 2, 65) := by decide +kernel
theorem c_97_65 : aCod 97 65 = some (.invokevirtual 118, 68) := by decide +kernel
theorem c_97_68 : aCod 97 68 = some (.aload 0, 69) := by decide +kernel
theorem c_97_69 : aCod 97 69 = some (.getfield 2053, 72) := by decide +kernel
theorem c_97_72 : aCod 97 72 = some (.getfield 261, 75) := by decide +kernel
theorem c_97_75 : aCod 97 75 = some (.iload 1, 76) := by decide +kernel
theorem c_97_76 : aCod 97 76 = some (.iaload, 77) := by decide +kernel
theorem c_97_77 : aCod 97 77 = some (.ireturn, 78) := by decide +kernel
theorem c_98_0 : aCod 98 0 = some (.aload 0, 1) := by decide +kernel
theorem c_98_1 : aCod 98 1 = some (.getfield 2051, 4) := by decide +kernel
theorem c_98_4 : aCod 98 4 = some (.getfield 1536, 7) := by decide +kernel
theorem c_98_7 : aCod 98 7 = some (.ifCond .eq 37, 10) := by decide +kernel
theorem c_98_10 : aCod 98 10 = some (.iload 1, 11) := by decide +kernel
theorem c_98_11 : aCod 98 11 = some (.sipush 1, 12) := by decide +kernel
theorem c_98_12 : aCod 98 12 = some (.if_icmp .lt 37, 15) := by decide +kernel
theorem c_98_15 : aCod 98 15 = some (.iload 1, 16) := by decide +kernel
theorem c_98_16 : aCod 98 16 = some (.sipush 999, 19) := by decide +kernel
theorem c_98_19 : aCod 98 19 = some (.if_icmp .gt 37, 22) := by decide +kernel
theorem c_98_22 : aCod 98 22 = some (.aload 0, 23) := by decide +kernel
theorem c_98_23 : aCod 98 23 = some (.getfield 2053, 26) := by decide +kernel
theorem c_98_26 : aCod 98 26 = some (.getfield 258, 29) := by decide +kernel
theorem c_98_29 : aCod 98 29 = some (.iload 1, 30) := by decide +kernel
theorem c_98_30 : aCod 98 30 = some (.iadd, 31) := by decide +kernel
theorem c_98_31 : aCod 98 31 = some (.sipush 9999, 34) := by decide +kernel
theorem c_98_34 : aCod 98 34 = some (.if_icmp .le 43, 37) := by decide +kernel
theorem c_98_37 : aCod 98 37 = some (.aload 0, 38) := by decide +kernel
theorem c_98_38 : aCod 98 38 = some (.sipush 2, 39) := by decide +kernel
theorem c_98_39 : aCod 98 39 = some (.invokevirtual 108, 42) := by decide +kernel
theorem c_98_42 : aCod 98 42 = some (.ireturn, 43) := by decide +kernel
theorem c_98_43 : aCod 98 43 = some (.aload 0, 44) := by decide +kernel
theorem c_98_44 : aCod 98 44 = some (.getfield 2056, 47) := by decide +kernel
theorem c_98_47 : aCod 98 47 = some (.aload 0, 48) := by decide +kernel
theorem c_98_48 : aCod 98 48 = some (.getfield 2053, 51) := by decide +kernel
theorem c_98_51 : aCod 98 51 = some (.invokevirtual 2, 54) := by decide +kernel
theorem c_98_54 : aCod 98 54 = some (.aload 0, 55) := by decide +kernel
theorem c_98_55 : aCod 98 55 = some (.getfield 2053, 58) := by decide +kernel
theorem c_98_58 : aCod 98 58 = some (.dup, 59) := by decide +kernel
theorem c_98_59 : aCod 98 59 = some (.getfield 258, 62) := by decide +kernel
theorem c_98_62 : aCod 98 62 = some (.iload 1, 63) := by decide +kernel
theorem c_98_63 : aCod 98 63 = some (.iadd, 64) := by decide +kernel
theorem c_98_64 : aCod 98 64 = some (.putfield 258, 67) := by decide +kernel
theorem c_98_67 : aCod 98 67 = some (.aload 0, 68) := by decide +kernel
theorem c_98_68 : aCod 98 68 = some (.getfield 2053, 71) := by decide +kernel
theorem c_98_71 : aCod 98 71 = some (.getfield 258, 74) := by decide +kernel
theorem c_98_74 : aCod 98 74 = some (.ireturn, 75) := by decide +kernel
theorem c_99_0 : aCod 99 0 = some (.aload 0, 1) := by decide +kernel
theorem c_99_1 : aCod 99 1 = some (.iload 1, 2) := by decide +kernel
theorem c_99_2 : aCod 99 2 = some (.invokevirtual 115, 5) := by decide +kernel
theorem c_99_5 : aCod 99 5 = some (.ifCond .ne 14, 8) := by decide +kernel
theorem c_99_8 : aCod 99 8 = some (.aload 0, 9) := by decide +kernel
theorem c_99_9 : aCod 99 9 = some (.sipush 3, 10) := by decide +kernel
theorem c_99_10 : aCod 99 10 = some (.invokevirtual 108, 13) := by decide +kernel
theorem c_99_13 : aCod 99 13 = some (.ireturn, 14) := by decide +kernel
theorem c_99_14 : aCod 99 14 = some (.aload 0, 15) := by decide +kernel
theorem c_99_15 : aCod 99 15 = some (.getfield 2056, 18) := by decide +kernel
theorem c_99_18 : aCod 99 18 = some (.aload 0, 19) := by decide +kernel
theorem c_99_19 : aCod 99 19 = some (.getfield 2053, 22) := by decide +kernel
theorem c_99_22 : aCod 99 22 = some (.invokevirtual 2, 25) := by decide +kernel
theorem c_99_25 : aCod 99 25 = some (.sipush 0, 26) := by decide +kernel
theorem c_99_26 : aCod 99 26 = some (.istore 2, 27) := by decide +kernel
theorem c_99_27 : aCod 99 27 = some (.sipush 0, 28) := by decide +kernel
theorem c_99_28 : aCod 99 28 = some (.istore 3, 29) := by decide +kernel
theorem c_99_29 : aCod 99 29 = some (.iload 3, 30) := by decide +kernel
theorem c_99_30 : aCod 99 30 = some (.iload 1, 31) := by decide +kernel
theorem c_99_31 : aCod 99 31 = some (.if_icmp .ge 55, 34) := by decide +kernel
theorem c_99_34 : aCod 99 34 = some (.iload 2, 35) := by decide +kernel
theorem c_99_35 : aCod 99 35 = some (.aload 0, 36) := by decide +kernel
theorem c_99_36 : aCod 99 36 = some (.getfield 2055, 39) := by decide +kernel
theorem c_99_39 : aCod 99 39 = some (.aload 0, 40) := by decide +kernel
theorem c_99_40 : aCod 99 40 = some (.getfield 2053, 43) := by decide +kernel
theorem c_99_43 : aCod 99 43 = some (.sipush 0, 44) := by decide +kernel
theorem c_99_44 : aCod 99 44 = some (.invokevirtual 52, 47) := by decide +kernel
theorem c_99_47 : aCod 99 47 = some (.iadd, 48) := by decide +kernel
theorem c_99_48 : aCod 99 48 = some (.istore 2, 49) := by decide +kernel
theorem c_99_49 : aCod 99 49 = some (.iinc 3 1, 52) := by decide +kernel
theorem c_99_52 : aCod 99 52 = some (.goto 29, 55) := by decide +kernel
theorem c_99_55 : aCod 99 55 = some (.iload 2, 56) := by decide +kernel
theorem c_99_56 : aCod 99 56 = some (.ireturn, 57) := by decide +kernel
theorem c_100_0 : aCod 100 0 = some (.aload 0, 1) := by decide +kernel
theorem c_100_1 : aCod 100 1 = some (.iload 1, 2) := by decide +kernel
theorem c_100_2 : aCod 100 2 = some (.invokevirtual 115, 5) := by decide +kernel
theorem c_100_5 : aCod 100 5 = some (.ifCond .ne 14, 8) := by decide +kernel
theorem c_100_8 : aCod 100 8 = some (.aload 0, 9) := by decide +kernel
theorem c_100_9 : aCod 100 9 = some (.sipush 3, 10) := by decide +kernel
theorem c_100_10 : aCod 100 10 = some (.invokevirtual 108, 13) := by decide +kernel
theorem c_100_13 : aCod 100 13 = some (.ireturn, 14) := by decide +kernel
theorem c_100_14 : aCod 100 14 = some (.aload 0, 15) := by decide +kernel
theorem c_100_15 : aCod 100 15 = some (.getfield 2056, 18) := by decide +kernel
theorem c_100_18 : aCod 100 18 = some (.aload 0, 19) := by decide +kernel
theorem c_100_19 : aCod 100 19 = some (.getfield 2053, 22) := by decide +kernel
theorem c_100_22 : aCod 100 22 = some (.invokevirtual 2, 25) := by decide +kernel
theorem c_100_25 : aCod 100 25 = some (.sipush 0, 26) := by decide +kernel
theorem c_100_26 : aCod 100 26 = some (.istore 2, 27) := by decide +kernel
theorem c_100_27 : aCod 100 27 = some (.sipush 0, 28) := by decide +kernel
theorem c_100_28 : aCod 100 28 = some (.istore 3, 29) := by decide +kernel
theorem c_100_29 : aCod 100 29 = some (.iload 3, 30) := by decide +kernel
theorem c_100_30 : aCod 100 30 = some (.iload 1, 31) := by decide +kernel
theorem c_100_31 : aCod 100 31 = some (.if_icmp .ge 68, 34) := by decide +kernel
theorem c_100_34 : aCod 100 34 = some (.aload 0, 35) := by decide +kernel
theorem c_100_35 : aCod 100 35 = some (.invokevirtual 119, 38) := by decide +kernel
theorem c_100_38 : aCod 100 38 = some (.istore 4, 40) := by decide +kernel
theorem c_100_40 : aCod 100 40 = some (.iload 2, 41) := by decide +kernel
theorem c_100_41 : aCod 100 41 = some (.iload 4, 43) := by decide +kernel
theorem c_100_43 : aCod 100 43 = some (.invokestatic 257, 46) := by decide +kernel
theorem c_100_46 : aCod 100 46 = some (.iadd, 47) := by decide +kernel
theorem c_100_47 : aCod 100 47 = some (.istore 2, 48) := by decide +kernel
theorem c_100_48 : aCod 100 48 = some (.aload 0, 49) := by decide +kernel
theorem c_100_49 : aCod 100 49 = some (.getfield 2055, 52) := by decide +kernel
theorem c_100_52 : aCod 100 52 = some (.aload 0, 53) := by decide +kernel
theorem c_100_53 : aCod 100 53 = some (.getfield 2053, 56) := by decide +kernel
theorem c_100_56 : aCod 100 56 = some (.iload 4, 58) := by decide +kernel
theorem c_100_58 : aCod 100 58 = some (.invokevirtual 52, 61) := by decide +kernel
theorem c_100_61 : aCod 100 61 = some (.pop, 62) := by decide +kernel
theorem c_100_62 : aCod 100 62 = some (.iinc 3 1, 65) := by decide +kernel
theorem c_100_65 : aCod 100 65 = some (.goto 29, 68) := by decide +kernel
theorem c_100_68 : aCod 100 68 = some (.iload 2, 69) := by decide +kernel
theorem c_100_69 : aCod 100 69 = some (.ireturn, 70) := by decide +kernel
theorem c_101_0 : aCod 101 0 = some (.aload 0, 1) := by decide +kernel
theorem c_101_1 : aCod 101 1 = some (.getfield 2056, 4) := by decide +kernel
theorem c_101_4 : aCod 101 4 = some (.getfield 2, 7) := by decide +kernel
theorem c_101_7 : aCod 101 7 = some (.ifCond .ne 18, 10) := by decide +kernel
theorem c_101_10 : aCod 101 10 = some (.aload 0, 11) := by decide +kernel
theorem c_101_11 : aCod 101 11 = some (.sipush 4, 12) := by decide +kernel
theorem c_101_12 : aCod 101 12 = some (.invokevirtual 108, 15) := by decide +kernel
theorem c_101_15 : aCod 101 15 = some (.pop, 16) := by decide +kernel
theorem c_101_16 : aCod 101 16 = some (.sipush 0, 17) := by decide +kernel
theorem c_101_17 : aCod 101 17 = some (.ireturn, 18) := by decide +kernel
theorem c_101_18 : aCod 101 18 = some (.aload 0, 19) := by decide +kernel
theorem c_101_19 : aCod 101 19 = some (.getfield 2056, 22) := by decide +kernel
theorem c_101_22 : aCod 101 22 = some (.aload 0, 23) := by decide +kernel
theorem c_101_23 : aCod 101 23 = some (.getfield 2053, 26) := by decide +kernel
theorem c_101_26 : aCod 101 26 = some (.invokevirtual 3, 29) := by decide +kernel
theorem c_101_29 : aCod 101 29 = some (.sipush 1, 30) := by decide +kernel
theorem c_101_30 : aCod 101 30 = some (.ireturn, 31) := by decide +kernel
theorem c_102_0 : aCod 102 0 = some (.iload 1, 1) := by decide +kernel
theorem c_102_1 : aCod 102 1 = some (.ifCond .ge 12, 4) := by decide +kernel
theorem c_102_4 : aCod 102 4 = some (.aload 0, 5) := by decide +kernel
theorem c_102_5 : aCod 102 5 = some (.sipush 5, 6) := by decide +kernel
theorem c_102_6 : aCod 102 6 = some (.invokevirtual 108, 9) := by decide +kernel
theorem c_102_9 : aCod 102 9 = some (.pop, 10) := by decide +kernel
theorem c_102_10 : aCod 102 10 = some (.sipush 0, 11) := by decide +kernel
theorem c_102_11 : aCod 102 11 = some (.ireturn, 12) := by decide +kernel
theorem c_102_12 : aCod 102 12 = some (.aload 0, 13) := by decide +kernel
theorem c_102_13 : aCod 102 13 = some (.iload 1, 14) := by decide +kernel
theorem c_102_14 : aCod 102 14 = some (.i2l, 15) := by decide +kernel
theorem c_102_15 : aCod 102 15 = some (.putfield 2065, 18) := by decide +kernel
theorem c_102_18 : aCod 102 18 = some (.sipush 1, 19) := by decide +kernel
theorem c_102_19 : aCod 102 19 = some (.ireturn, 20) := by decide +kernel
theorem c_103_0 : aCod 103 0 = some (.aload 0, 1) := by decide +kernel
theorem c_103_1 : aCod 103 1 = some (.invokevirtual 110, 4) := by decide +kernel
theorem c_103_4 : aCod 103 4 = some (.istore 1, 5) := by decide +kernel
theorem c_103_5 : aCod 103 5 = some (.aload 0, 6) := by decide +kernel
theorem c_103_6 : aCod 103 6 = some (.getfield 2051, 9) := by decide +kernel
theorem c_103_9 : aCod 103 9 = some (.getfield 1536, 12) := by decide +kernel
theorem c_103_12 : aCod 103 12 = some (.ifCond .ne 19, 15) := by decide +kernel
theorem c_103_15 : aCod 103 15 = some (.goto_w (-1000000000000000), 18) := by decide +kernel
theorem c_103_18 : aCod 103 18 = some (.lreturn, 19) := by decide +kernel
theorem c_103_19 : aCod 103 19 = some (.aload 0, 20) := by decide +kernel
theorem c_103_20 : aCod 103 20 = some (.getfield 2050, 23) := by decide +kernel
theorem c_103_23 : aCod 103 23 = some (.iload 1, 24) := by decide +kernel
theorem c_103_24 : aCod 103 24 = some (.invokevirtual 20, 27) := by decide +kernel
theorem c_103_27 : aCod 103 27 = some (.aload 0, 28) := by decide +kernel
theorem c_103_28 : aCod 103 28 = some (.getfield 2050, 31) := by decide +kernel
theorem c_103_31 : aCod 103 31 = some (.aload 0, 32) := by decide +kernel
theorem c_103_32 : aCod 103 32 = some (.getfield 2058, 35) := by decide +kernel
theorem c_103_35 : aCod 103 35 = some (.invokevirtual 24, 38) := by decide +kernel
theorem c_103_38 : aCod 103 38 = some (.istore 2, 39) := by decide +kernel
theorem c_103_39 : aCod 103 39 = some (.aload 0, 40) := by decide +kernel
theorem c_103_40 : aCod 103 40 = some (.getfield 2050, 43) := by decide +kernel
theorem c_103_43 : aCod 103 43 = some (.getfield 775, 46) := by decide +kernel
theorem c_103_46 : aCod 103 46 = some (.ifCond .eq 53, 49) := by decide +kernel
theorem c_103_49 : aCod 103 49 = some (.goto_w (-1000000000000000), 52) := by decide +kernel
theorem c_103_52 : aCod 103 52 = some (.lreturn, 53) := by decide +kernel
theorem c_103_53 : aCod 103 53 = some (.iload 2, 54) := by decide +kernel
theorem c_103_54 : aCod 103 54 = some (.tableswitch 86 332 334 #[80, 80, 80], 80) := by decide +kernel
theorem c_103_80 : aCod 103 80 = some (.aload 0, 81) := by decide +kernel
theorem c_103_81 : aCod 103 81 = some (.iload 2, 82) := by decide +kernel
theorem c_103_82 : aCod 103 82 = some (.invokevirtual 122, 85) := by decide +kernel
theorem c_103_85 : aCod 103 85 = some (.lreturn, 86) := by decide +kernel
theorem c_103_86 : aCod 103 86 = some (.aload 0, 87) := by decide +kernel
theorem c_103_87 : aCod 103 87 = some (.iload 2, 88) := by decide +kernel
theorem c_103_88 : aCod 103 88 = some (.invokevirtual 123, 91) := by decide +kernel
theorem c_103_91 : aCod 103 91 = some (.lreturn, 92) := by decide +kernel
theorem c_104_0 : aCod 104 0 = some (.aload 0, 1) := by decide +kernel
theorem c_104_1 : aCod 104 1 = some (.sipush 0, 2) := by decide +kernel
theorem c_104_2 : aCod 104 2 = some (.putfield 2061, 5) := by decide +kernel
theorem c_104_5 : aCod 104 5 = some (.aload 0, 6) := by decide +kernel
theorem c_104_6 : aCod 104 6 = some (.aload 0, 7) := by decide +kernel
theorem c_104_7 : aCod 104 7 = some (.getfield 2053, 10) := by decide +kernel
theorem c_104_10 : aCod 104 10 = some (.getfield 256, 13) := by decide +kernel
theorem c_104_13 : aCod 104 13 = some (.invokevirtual 125, 16) := by decide +kernel
theorem c_104_16 : aCod 104 16 = some (.aload 0, 17) := by decide +kernel
theorem c_104_17 : aCod 104 17 = some (.aload 0, 18) := by decide +kernel
theorem c_104_18 : aCod 104 18 = some (.getfield 2053, 21) := by decide +kernel
theorem c_104_21 : aCod 104 21 = some (.getfield 257, 24) := by decide +kernel
theorem c_104_24 : aCod 104 24 = some (.invokevirtual 125, 27) := by decide +kernel
theorem c_104_27 : aCod 104 27 = some (.aload 0, 28) := by decide +kernel
theorem c_104_28 : aCod 104 28 = some (.aload 0, 29) := by decide +kernel
theorem c_104_29 : aCod 104 29 = some (.getfield 2053, 32) := by decide +kernel
theorem c_104_32 : aCod 104 32 = some (.getfield 258, 35) := by decide +kernel
theorem c_104_35 : aCod 104 35 = some (.invokevirtual 125, 38) := by decide +kernel
theorem c_104_38 : aCod 104 38 = some (.sipush 0, 39) := by decide +kernel
theorem c_104_39 : aCod 104 39 = some (.istore 1, 40) := by decide +kernel
theorem c_104_40 : aCod 104 40 = some (.iload 1, 41) := by decide +kernel
theorem c_104_41 : aCod 104 41 = some (.aload 0, 42) := by decide +kernel
theorem c_104_42 : aCod 104 42 = some (.getfield 2051, 45) := by decide +kernel
theorem c_104_45 : aCod 104 45 = some (.getfield 1540, 48) := by decide +kernel
theorem c_104_48 : aCod 104 48 = some (.sipush 2, 49) := by decide +kernel
theorem c_104_49 : aCod 104 49 = some (.iaload, 50) := by decide +kernel
theorem c_104_50 : aCod 104 50 = some (.if_icmp .ge 105, 53) := by decide +kernel
theorem c_104_53 : aCod 104 53 = some (.aload 0, 54) := by decide +kernel
theorem c_104_54 : aCod 104 54 = some (.aload 0, 55) := by decide +kernel
theorem c_104_55 : aCod 104 55 = some (.getfield 2053, 58) := by decide +kernel
theorem c_104_58 : aCod 104 58 = some (.iload 1, 59) := by decide +kernel
theorem c_104_59 : aCod 104 59 = some (.invokevirtual 8, 62) := by decide +kernel
theorem c_104_62 : aCod 104 62 = some (.ifCond .eq 69, 65) := by decide +kernel
theorem c_104_65 : aCod 104 65 = some (.sipush 1, 66) := by decide +kernel
theorem c_104_66 : aCod 104 66 = some (.goto 70, 69) := by decide +kernel
theorem c_104_69 : aCod 104 69 = some (.sipush 0, 70) := by decide +kernel
theorem c_104_70 : aCod 104 70 = some (.invokevirtual 124, 73) := by decide +kernel
theorem c_104_73 : aCod 104 73 = some (.aload 0, 74) := by decide +kernel
theorem c_104_74 : aCod 104 74 = some (.aload 0, 75) := by decide +kernel
theorem c_104_75 : aCod 104 75 = some (.getfield 2053, 78) := by decide +kernel
theorem c_104_78 : aCod 104 78 = some (.getfield 261, 81) := by decide +kernel
theorem c_104_81 : aCod 104 81 = some (.iload 1, 82) := by decide +kernel
theorem c_104_82 : aCod 104 82 = some (.iaload, 83) := by decide +kernel
theorem c_104_83 : aCod 104 83 = some (.invokevirtual 125, 86) := by decide +kernel
theorem c_104_86 : aCod 104 86 = some (.aload 0, 87) := by decide +kernel
theorem c_104_87 : aCod 104 87 = some (.aload 0, 88) := by decide +kernel
theorem c_104_88 : aCod 104 88 = some (.getfield 2053, 91) := by decide +kernel
theorem c_104_91 : aCod 104 91 = some (.getfield 262, 94) := by decide +kernel
theorem c_104_94 : aCod 104 94 = some (.iload 1, 95) := by decide +kernel
theorem c_104_95 : aCod 104 95 = some (.iaload, 96) := by decide +kernel
theorem c_104_96 : aCod 104 96 = some (.invokevirtual 124, 99) := by decide +kernel
theorem c_104_99 : aCod 104 99 = some (.iinc 1 1, 102) := by decide +kernel
theorem c_104_102 : aCod 104 102 = some (.goto 40, 105) := by decide +kernel
theorem c_104_105 : aCod 104 105 = some (.aload 0, 106) := by decide +kernel
theorem c_104_106 : aCod 104 106 = some (.aload 0, 107) := by decide +kernel
theorem c_104_107 : aCod 104 107 = some (.getfield 2060, 110) := by decide +kernel
theorem c_104_110 : aCod 104 110 = some (.aload 0, 111) := by decide +kernel
theorem c_104_111 : aCod 104 111 = some (.getfield 2061, 114) := by decide +kernel
theorem c_104_114 : aCod 104 114 = some (.invokestatic 126, 117) := by decide +kernel
theorem c_104_117 : aCod 104 117 = some (.invokevirtual 124, 120) := by decide +kernel
theorem c_104_120 : aCod 104 120 = some (.aload 0, 121) := by decide +kernel
theorem c_104_121 : aCod 104 121 = some (.getfield 2061, 124) := by decide +kernel
theorem c_104_124 : aCod 104 124 = some (.ireturn, 125) := by decide +kernel
theorem c_105_0 : aCod 105 0 = some (.iload 1, 1) := by decide +kernel
theorem c_105_1 : aCod 105 1 = some (.ifCond .lt 12, 4) := by decide +kernel
theorem c_105_4 : aCod 105 4 = some (.iload 1, 5) := by decide +kernel
theorem c_105_5 : aCod 105 5 = some (.aload 0, 6) := by decide +kernel
theorem c_105_6 : aCod 105 6 = some (.getfield 2061, 9) := by decide +kernel
theorem c_105_9 : aCod 105 9 = some (.if_icmp .lt 16, 12) := by decide +kernel
theorem c_105_12 : aCod 105 12 = some (.sipush (-1), 13) := by decide +kernel
theorem c_105_13 : aCod 105 13 = some (.goto 22, 16) := by decide +kernel
theorem c_105_16 : aCod 105 16 = some (.aload 0, 17) := by decide +kernel
theorem c_105_17 : aCod 105 17 = some (.getfield 2060, 20) := by decide +kernel
theorem c_105_20 : aCod 105 20 = some (.iload 1, 21) := by decide +kernel
theorem c_105_21 : aCod 105 21 = some (.iaload, 22) := by decide +kernel
theorem c_105_22 : aCod 105 22 = some (.ireturn, 23) := by decide +kernel
theorem c_106_0 : aCod 106 0 = some (.aload 0, 1) := by decide +kernel
theorem c_106_1 : aCod 106 1 = some (.aload 0, 2) := by decide +kernel
theorem c_106_2 : aCod 106 2 = some (.invokevirtual 110, 5) := by decide +kernel
theorem c_106_5 : aCod 106 5 = some (.invokevirtual 127, 8) := by decide +kernel
theorem c_106_8 : aCod 106 8 = some (.ifCond .ne 19, 11) := by decide +kernel
theorem c_106_11 : aCod 106 11 = some (.aload 0, 12) := by decide +kernel
theorem c_106_12 : aCod 106 12 = some (.sipush 5, 13) := by decide +kernel
theorem c_106_13 : aCod 106 13 = some (.invokevirtual 108, 16) := by decide +kernel
theorem c_106_16 : aCod 106 16 = some (.pop, 17) := by decide +kernel
theorem c_106_17 : aCod 106 17 = some (.sipush 0, 18) := by decide +kernel
theorem c_106_18 : aCod 106 18 = some (.ireturn, 19) := by decide +kernel
theorem c_106_19 : aCod 106 19 = some (.aload 0, 20) := by decide +kernel
theorem c_106_20 : aCod 106 20 = some (.getfield 2053, 23) := by decide +kernel
theorem c_106_23 : aCod 106 23 = some (.aload 0, 24) := by decide +kernel
theorem c_106_24 : aCod 106 24 = some (.sipush 2, 25) := by decide +kernel
theorem c_106_25 : aCod 106 25 = some (.invokevirtual 111, 28) := by decide +kernel
theorem c_106_28 : aCod 106 28 = some (.aload 0, 29) := by decide +kernel
theorem c_106_29 : aCod 106 29 = some (.sipush 4, 30) := by decide +kernel
theorem c_106_30 : aCod 106 30 = some (.invokevirtual 111, 33) := by decide +kernel
theorem c_106_33 : aCod 106 33 = some (.invokevirtual 5, 36) := by decide +kernel
theorem c_106_36 : aCod 106 36 = some (.aload 0, 37) := by decide +kernel
theorem c_106_37 : aCod 106 37 = some (.getfield 2053, 40) := by decide +kernel
theorem c_106_40 : aCod 106 40 = some (.aload 0, 41) := by decide +kernel
theorem c_106_41 : aCod 106 41 = some (.sipush 0, 42) := by decide +kernel
theorem c_106_42 : aCod 106 42 = some (.invokevirtual 111, 45) := by decide +kernel
theorem c_106_45 : aCod 106 45 = some (.putfield 256, 48) := by decide +kernel
theorem c_106_48 : aCod 106 48 = some (.sipush 0, 49) := by decide +kernel
theorem c_106_49 : aCod 106 49 = some (.istore 1, 50) := by decide +kernel
theorem c_106_50 : aCod 106 50 = some (.iload 1, 51) := by decide +kernel
theorem c_106_51 : aCod 106 51 = some (.aload 0, 52) := by decide +kernel
theorem c_106_52 : aCod 106 52 = some (.getfield 2051, 55) := by decide +kernel
theorem c_106_55 : aCod 106 55 = some (.getfield 1540, 58) := by decide +kernel
theorem c_106_58 : aCod 106 58 = some (.sipush 2, 59) := by decide +kernel
theorem c_106_59 : aCod 106 59 = some (.iaload, 60) := by decide +kernel
theorem c_106_60 : aCod 106 60 = some (.if_icmp .ge 129, 63) := by decide +kernel
theorem c_106_63 : aCod 106 63 = some (.sipush 6, 65) := by decide +kernel
theorem c_106_65 : aCod 106 65 = some (.sipush 4, 66) := by decide +kernel
theorem c_106_66 : aCod 106 66 = some (.iload 1, 67) := by decide +kernel
theorem c_106_67 : aCod 106 67 = some (.imul, 68) := by decide +kernel
theorem c_106_68 : aCod 106 68 = some (.iadd, 69) := by decide +kernel
theorem c_106_69 : aCod 106 69 = some (.istore 2, 70) := by decide +kernel
theorem c_106_70 : aCod 106 70 = some (.aload 0, 71) := by decide +kernel
theorem c_106_71 : aCod 106 71 = some (.getfield 2053, 74) := by decide +kernel
theorem c_106_74 : aCod 106 74 = some (.dup, 75) := by decide +kernel
theorem c_106_75 : aCod 106 75 = some (.getfield 259, 78) := by decide +kernel
theorem c_106_78 : aCod 106 78 = some (.aload 0, 79) := by decide +kernel
theorem c_106_79 : aCod 106 79 = some (.getfield 2048, 82) := by decide +kernel
theorem c_106_82 : aCod 106 82 = some (.iload 2, 83) := by decide +kernel
theorem c_106_83 : aCod 106 83 = some (.iaload, 84) := by decide +kernel
theorem c_106_84 : aCod 106 84 = some (.iload 1, 85) := by decide +kernel
theorem c_106_85 : aCod 106 85 = some (.ishl, 86) := by decide +kernel
theorem c_106_86 : aCod 106 86 = some (.ior, 87) := by decide +kernel
theorem c_106_87 : aCod 106 87 = some (.putfield 259, 90) := by decide +kernel
theorem c_106_90 : aCod 106 90 = some (.aload 0, 91) := by decide +kernel
theorem c_106_91 : aCod 106 91 = some (.getfield 2053, 94) := by decide +kernel
theorem c_106_94 : aCod 106 94 = some (.getfield 261, 97) := by decide +kernel
theorem c_106_97 : aCod 106 97 = some (.iload 1, 98) := by decide +kernel
theorem c_106_98 : aCod 106 98 = some (.aload 0, 99) := by decide +kernel
theorem c_106_99 : aCod 106 99 = some (.iload 2, 100) := by decide +kernel
theorem c_106_100 : aCod 106 100 = some (.sipush 1, 101) := by decide +kernel
theorem c_106_101 : aCod 106 101 = some (.iadd, 102) := by decide +kernel
theorem c_106_102 : aCod 106 102 = some (.invokevirtual 111, 105) := by decide +kernel
theorem c_106_105 : aCod 106 105 = some (.iastore, 106) := by decide +kernel
theorem c_106_106 : aCod 106 106 = some (.aload 0, 107) := by decide +kernel
theorem c_106_107 : aCod 106 107 = some (.getfield 2053, 110) := by decide +kernel
theorem c_106_110 : aCod 106 110 = some (.getfield 262, 113) := by decide +kernel
theorem c_106_113 : aCod 106 113 = some (.iload 1, 114) := by decide +kernel
theorem c_106_114 : aCod 106 114 = some (.aload 0, 115) := by decide +kernel
theorem c_106_115 : aCod 106 115 = some (.getfield 2048, 118) := by decide +kernel
theorem c_106_118 : aCod 106 118 = some (.iload 2, 119) := by decide +kernel
theorem c_106_119 : aCod 106 119 = some (.sipush 3, 120) := by decide +kernel
theorem c_106_120 : aCod 106 120 = some (.iadd, 121) := by decide +kernel
theorem c_106_121 : aCod 106 121 = some (.iaload, 122) := by decide +kernel
theorem c_106_122 : aCod 106 122 = some (.iastore, 123) := by decide +kernel
theorem c_106_123 : aCod 106 123 = some (.iinc 1 1, 126) := by decide +kernel
theorem c_106_126 : aCod 106 126 = some (.goto 50, 129) := by decide +kernel
theorem c_106_129 : aCod 106 129 = some (.aload 0, 130) := by decide +kernel
theorem c_106_130 : aCod 106 130 = some (.getfield 2056, 133) := by decide +kernel
theorem c_106_133 : aCod 106 133 = some (.invokevirtual 1, 136) := by decide +kernel
theorem c_106_136 : aCod 106 136 = some (.sipush 1, 137) := by decide +kernel
theorem c_106_137 : aCod 106 137 = some (.ireturn, 138) := by decide +kernel
theorem c_107_0 : aCod 107 0 = some (.iload 1, 1) := by decide +kernel
theorem c_107_1 : aCod 107 1 = some (.ifCond .lt 10, 4) := by decide +kernel
theorem c_107_4 : aCod 107 4 = some (.iload 1, 5) := by decide +kernel
theorem c_107_5 : aCod 107 5 = some (.sipush 6, 7) := by decide +kernel
theorem c_107_7 : aCod 107 7 = some (.if_icmp .lt 14, 10) := by decide +kernel
theorem c_107_10 : aCod 107 10 = some (.sipush (-1), 11) := by decide +kernel
theorem c_107_11 : aCod 107 11 = some (.goto 20, 14) := by decide +kernel
theorem c_107_14 : aCod 107 14 = some (.aload 0, 15) := by decide +kernel
theorem c_107_15 : aCod 107 15 = some (.getfield 2064, 18) := by decide +kernel
theorem c_107_18 : aCod 107 18 = some (.iload 1, 19) := by decide +kernel
theorem c_107_19 : aCod 107 19 = some (.iaload, 20) := by decide +kernel
theorem c_107_20 : aCod 107 20 = some (.ireturn, 21) := by decide +kernel
theorem c_108_0 : aCod 108 0 = some (.aload 0, 1) := by decide +kernel
theorem c_108_1 : aCod 108 1 = some (.getfield 2064, 4) := by decide +kernel
theorem c_108_4 : aCod 108 4 = some (.iload 1, 5) := by decide +kernel
theorem c_108_5 : aCod 108 5 = some (.dup2, 6) := by decide +kernel
theorem c_108_6 : aCod 108 6 = some (.iaload, 7) := by decide +kernel
theorem c_108_7 : aCod 108 7 = some (.sipush 1, 8) := by decide +kernel
theorem c_108_8 : aCod 108 8 = some (.iadd, 9) := by decide +kernel
theorem c_108_9 : aCod 108 9 = some (.iastore, 10) := by decide +kernel
theorem c_108_10 : aCod 108 10 = some (.sipush (-1), 11) := by decide +kernel
theorem c_108_11 : aCod 108 11 = some (.ireturn, 12) := by decide +kernel
theorem c_109_0 : aCod 109 0 = some (.sipush 24, 2) := by decide +kernel
theorem c_109_2 : aCod 109 2 = some (.istore 2, 3) := by decide +kernel
theorem c_109_3 : aCod 109 3 = some (.iload 2, 4) := by decide +kernel
theorem c_109_4 : aCod 109 4 = some (.ifCond .lt 39, 7) := by decide +kernel
theorem c_109_7 : aCod 109 7 = some (.aload 0, 8) := by decide +kernel
theorem c_109_8 : aCod 109 8 = some (.getfield 2048, 11) := by decide +kernel
theorem c_109_11 : aCod 109 11 = some (.aload 0, 12) := by decide +kernel
theorem c_109_12 : aCod 109 12 = some (.getfield 2049, 15) := by decide +kernel
theorem c_109_15 : aCod 109 15 = some (.iload 1, 16) := by decide +kernel
theorem c_109_16 : aCod 109 16 = some (.iload 2, 17) := by decide +kernel
theorem c_109_17 : aCod 109 17 = some (.ishr, 18) := by decide +kernel
theorem c_109_18 : aCod 109 18 = some (.sipush 255, 21) := by decide +kernel
theorem c_109_21 : aCod 109 21 = some (.iand, 22) := by decide +kernel
theorem c_109_22 : aCod 109 22 = some (.iastore, 23) := by decide +kernel
theorem c_109_23 : aCod 109 23 = some (.aload 0, 24) := by decide +kernel
theorem c_109_24 : aCod 109 24 = some (.dup, 25) := by decide +kernel
theorem c_109_25 : aCod 109 25 = some (.getfield 2049, 28) := by decide +kernel
theorem c_109_28 : aCod 109 28 = some (.sipush 1, 29) := by decide +kernel
theorem c_109_29 : aCod 109 29 = some (.iadd, 30) := by decide +kernel
theorem c_109_30 : aCod 109 30 = some (.putfield 2049, 33) := by decide +kernel
theorem c_109_33 : aCod 109 33 = some (.iinc 2 (-8), 36) := by decide +kernel
theorem c_109_36 : aCod 109 36 = some (.goto 3, 39) := by decide +kernel
theorem c_109_39 : aCod 109 39 = some (.return_, 40) := by decide +kernel
theorem c_110_0 : aCod 110 0 = some (.aload 0, 1) := by decide +kernel
theorem c_110_1 : aCod 110 1 = some (.getfield 2049, 4) := by decide +kernel
theorem c_110_4 : aCod 110 4 = some (.istore 1, 5) := by decide +kernel
theorem c_110_5 : aCod 110 5 = some (.aload 0, 6) := by decide +kernel
theorem c_110_6 : aCod 110 6 = some (.sipush 0, 7) := by decide +kernel
theorem c_110_7 : aCod 110 7 = some (.putfield 2049, 10) := by decide +kernel
theorem c_110_10 : aCod 110 10 = some (.iload 1, 11) := by decide +kernel
theorem c_110_11 : aCod 110 11 = some (.ireturn, 12) := by decide +kernel
theorem c_111_0 : aCod 111 0 = some (.aload 0, 1) := by decide +kernel
theorem c_111_1 : aCod 111 1 = some (.getfield 2048, 4) := by decide +kernel
theorem c_111_4 : aCod 111 4 = some (.iload 1, 5) := by decide +kernel
theorem c_111_5 : aCod 111 5 = some (.iaload, 6) := by decide +kernel
theorem c_111_6 : aCod 111 6 = some (.sipush 256, 9) := by decide +kernel
theorem c_111_9 : aCod 111 9 = some (.imul, 10) := by decide +kernel
theorem c_111_10 : aCod 111 10 = some (.aload 0, 11) := by decide +kernel
theorem c_111_11 : aCod 111 11 = some (.getfield 2048, 14) := by decide +kernel
theorem c_111_14 : aCod 111 14 = some (.iload 1, 15) := by decide +kernel
theorem c_111_15 : aCod 111 15 = some (.sipush 1, 16) := by decide +kernel
theorem c_111_16 : aCod 111 16 = some (.iadd, 17) := by decide +kernel
theorem c_111_17 : aCod 111 17 = some (.iaload, 18) := by decide +kernel
theorem c_111_18 : aCod 111 18 = some (.iadd, 19) := by decide +kernel
theorem c_111_19 : aCod 111 19 = some (.ireturn, 20) := by decide +kernel
theorem c_112_0 : aCod 112 0 = some (.iload 1, 1) := by decide +kernel
theorem c_112_1 : aCod 112 1 = some (.ifCond .lt 21, 4) := by decide +kernel
theorem c_112_4 : aCod 112 4 = some (.iload 1, 5) := by decide +kernel
theorem c_112_5 : aCod 112 5 = some (.aload 0, 6) := by decide +kernel
theorem c_112_6 : aCod 112 6 = some (.getfield 2051, 9) := by decide +kernel
theorem c_112_9 : aCod 112 9 = some (.getfield 1540, 12) := by decide +kernel
theorem c_112_12 : aCod 112 12 = some (.sipush 2, 13) := by decide +kernel
theorem c_112_13 : aCod 112 13 = some (.iaload, 14) := by decide +kernel
theorem c_112_14 : aCod 112 14 = some (.if_icmp .ge 21, 17) := by decide +kernel
theorem c_112_17 : aCod 112 17 = some (.sipush 1, 18) := by decide +kernel
theorem c_112_18 : aCod 112 18 = some (.goto 22, 21) := by decide +kernel
theorem c_112_21 : aCod 112 21 = some (.sipush 0, 22) := by decide +kernel
theorem c_112_22 : aCod 112 22 = some (.ireturn, 23) := by decide +kernel
theorem c_113_0 : aCod 113 0 = some (.iload 0, 1) := by decide +kernel
theorem c_113_1 : aCod 113 1 = some (.ifCond .lt 11, 4) := by decide +kernel
theorem c_113_4 : aCod 113 4 = some (.iload 0, 5) := by decide +kernel
theorem c_113_5 : aCod 113 5 = some (.sipush 9999, 8) := by decide +kernel
theorem c_113_8 : aCod 113 8 = some (.if_icmp .le 15, 11) := by decide +kernel
theorem c_113_11 : aCod 113 11 = some (.sipush 1, 12) := by decide +kernel
theorem c_113_12 : aCod 113 12 = some (.goto 16, 15) := by decide +kernel
theorem c_113_15 : aCod 113 15 = some (.sipush 0, 16) := by decide +kernel
theorem c_113_16 : aCod 113 16 = some (.ireturn, 17) := by decide +kernel
theorem c_114_0 : aCod 114 0 = some (.sipush 60, 2) := by decide +kernel
theorem c_114_2 : aCod 114 2 = some (.sipush 999, 5) := by decide +kernel
theorem c_114_5 : aCod 114 5 = some (.aload 0, 6) := by decide +kernel
theorem c_114_6 : aCod 114 6 = some (.getfield 2053, 9) := by decide +kernel
theorem c_114_9 : aCod 114 9 = some (.getfield 256, 12) := by decide +kernel
theorem c_114_12 : aCod 114 12 = some (.isub, 13) := by decide +kernel
theorem c_114_13 : aCod 114 13 = some (.invokeinterface 2 0, 16) := by decide +kernel
theorem c_114_16 : aCod 114 16 = some (.ireturn, 17) := by decide +kernel
theorem c_115_0 : aCod 115 0 = some (.aload 0, 1) := by decide +kernel
theorem c_115_1 : aCod 115 1 = some (.getfield 2051, 4) := by decide +kernel
theorem c_115_4 : aCod 115 4 = some (.getfield 1536, 7) := by decide +kernel
theorem c_115_7 : aCod 115 7 = some (.ifCond .eq 40, 10) := by decide +kernel
theorem c_115_10 : aCod 115 10 = some (.iload 1, 11) := by decide +kernel
theorem c_115_11 : aCod 115 11 = some (.sipush 1, 12) := by decide +kernel
theorem c_115_12 : aCod 115 12 = some (.if_icmp .lt 40, 15) := by decide +kernel
theorem c_115_15 : aCod 115 15 = some (.iload 1, 16) := by decide +kernel
theorem c_115_16 : aCod 115 16 = some (.sipush 100, 18) := by decide +kernel
theorem c_115_18 : aCod 115 18 = some (.if_icmp .gt 40, 21) := by decide +kernel
theorem c_115_21 : aCod 115 21 = some (.aload 0, 22) := by decide +kernel
theorem c_115_22 : aCod 115 22 = some (.getfield 2053, 25) := by decide +kernel
theorem c_115_25 : aCod 115 25 = some (.getfield 256, 28) := by decide +kernel
theorem c_115_28 : aCod 115 28 = some (.iload 1, 29) := by decide +kernel
theorem c_115_29 : aCod 115 29 = some (.iadd, 30) := by decide +kernel
theorem c_115_30 : aCod 115 30 = some (.sipush 999, 33) := by decide +kernel
theorem c_115_33 : aCod 115 33 = some (.if_icmp .gt 40, 36) := by decide +kernel
theorem c_115_36 : aCod 115 36 = some (.sipush 1, 37) := by decide +kernel
theorem c_115_37 : aCod 115 37 = some (.goto 41, 40) := by decide +kernel
theorem c_115_40 : aCod 115 40 = some (.sipush 0, 41) := by decide +kernel
theorem c_115_41 : aCod 115 41 = some (.ireturn, 42) := by decide +kernel
theorem c_116_0 : aCod 116 0 = some (.aload 0, 1) := by decide +kernel
theorem c_116_1 : aCod 116 1 = some (.getfield 2054, 4) := by decide +kernel
theorem c_116_4 : aCod 116 4 = some (.aload 0, 5) := by decide +kernel
theorem c_116_5 : aCod 116 5 = some (.getfield 2053, 8) := by decide +kernel
theorem c_116_8 : aCod 116 8 = some (.getfield 257, 11) := by decide +kernel
theorem c_116_11 : aCod 116 11 = some (.putfield 257, 14) := by decide +kernel
theorem c_116_14 : aCod 116 14 = some (.aload 0, 15) := by decide +kernel
theorem c_116_15 : aCod 116 15 = some (.getfield 2054, 18) := by decide +kernel
theorem c_116_18 : aCod 116 18 = some (.aload 0, 19) := by decide +kernel
theorem c_116_19 : aCod 116 19 = some (.getfield 2053, 22) := by decide +kernel
theorem c_116_22 : aCod 116 22 = some (.getfield 258, 25) := by decide +kernel
theorem c_116_25 : aCod 116 25 = some (.putfield 258, 28) := by decide +kernel
theorem c_116_28 : aCod 116 28 = some (.sipush 0, 29) := by decide +kernel
theorem c_116_29 : aCod 116 29 = some (.istore 3, 30) := by decide +kernel
theorem c_116_30 : aCod 116 30 = some (.iload 3, 31) := by decide +kernel
theorem c_116_31 : aCod 116 31 = some (.iload 2, 32) := by decide +kernel
theorem c_116_32 : aCod 116 32 = some (.if_icmp .ge 93, 35) := by decide +kernel
theorem c_116_35 : aCod 116 35 = some (.aload 0, 36) := by decide +kernel
theorem c_116_36 : aCod 116 36 = some (.getfield 2054, 39) := by decide +kernel
theorem c_116_39 : aCod 116 39 = some (.sipush 0, 40) := by decide +kernel
theorem c_116_40 : aCod 116 40 = some (.aload 0, 41) := by decide +kernel
theorem c_116_41 : aCod 116 41 = some (.getfield 2054, 44) := by decide +kernel
theorem c_116_44 : aCod 116 44 = some (.getfield 257, 47) := by decide +kernel
theorem c_116_47 : aCod 116 47 = some (.iload 1, 48) := by decide +kernel
theorem c_116_48 : aCod 116 48 = some (.isub, 49) := by decide +kernel
theorem c_116_49 : aCod 116 49 = some (.invokeinterface 1 0, 52) := by decide +kernel
theorem c_116_52 : aCod 116 52 = some (.putfield 257, 55) := by decide +kernel
theorem c_116_55 : aCod 116 55 = some (.aload 0, 56) := by decide +kernel
theorem c_116_56 : aCod 116 56 = some (.getfield 2055, 59) := by decide +kernel
theorem c_116_59 : aCod 116 59 = some (.aload 0, 60) := by decide +kernel
theorem c_116_60 : aCod 116 60 = some (.getfield 2054, 63) := by decide +kernel
theorem c_116_63 : aCod 116 63 = some (.sipush 0, 64) := by decide +kernel
theorem c_116_64 : aCod 116 64 = some (.invokevirtual 53, 67) := by decide +kernel
theorem c_116_67 : aCod 116 67 = some (.pop, 68) := by decide +kernel
theorem c_116_68 : aCod 116 68 = some (.aload 0, 69) := by decide +kernel
theorem c_116_69 : aCod 116 69 = some (.getfield 2054, 72) := by decide +kernel
theorem c_116_72 : aCod 116 72 = some (.getfield 257, 75) := by decide +kernel
theorem c_116_75 : aCod 116 75 = some (.aload 0, 76) := by decide +kernel
theorem c_116_76 : aCod 116 76 = some (.sipush 2, 77) := by decide +kernel
theorem c_116_77 : aCod 116 77 = some (.iload 3, 78) := by decide +kernel
theorem c_116_78 : aCod 116 78 = some (.imul, 79) := by decide +kernel
theorem c_116_79 : aCod 116 79 = some (.invokevirtual 111, 82) := by decide +kernel
theorem c_116_82 : aCod 116 82 = some (.if_icmp .eq 87, 85) := by decide +kernel
theorem c_116_85 : aCod 116 85 = some (.sipush 0, 86) := by decide +kernel
theorem c_116_86 : aCod 116 86 = some (.ireturn, 87) := by decide +kernel
theorem c_116_87 : aCod 116 87 = some (.iinc 3 1, 90) := by decide +kernel
theorem c_116_90 : aCod 116 90 = some (.goto 30, 93) := by decide +kernel
theorem c_116_93 : aCod 116 93 = some (.sipush 1, 94) := by decide +kernel
theorem c_116_94 : aCod 116 94 = some (.ireturn, 95) := by decide +kernel
theorem c_117_0 : aCod 117 0 = some (.iload 1, 1) := by decide +kernel
theorem c_117_1 : aCod 117 1 = some (.aload 0, 2) := by decide +kernel
theorem c_117_2 : aCod 117 2 = some (.getfield 2051, 5) := by decide +kernel
theorem c_117_5 : aCod 117 5 = some (.getfield 1540, 8) := by decide +kernel
theorem c_117_8 : aCod 117 8 = some (.sipush 2, 9) := by decide +kernel
theorem c_117_9 : aCod 117 9 = some (.iaload, 10) := by decide +kernel
theorem c_117_10 : aCod 117 10 = some (.if_icmp .ge 19, 13) := by decide +kernel
theorem c_117_13 : aCod 117 13 = some (.iload 1, 14) := by decide +kernel
theorem c_117_14 : aCod 117 14 = some (.sipush 8, 16) := by decide +kernel
theorem c_117_16 : aCod 117 16 = some (.if_icmp .lt 27, 19) := by decide +kernel
theorem c_117_19 : aCod 117 19 = some (.aload 0, 20) := by decide +kernel
theorem c_117_20 : aCod 117 20 = some (.getfield 2057, 23) := by decide +kernel
theorem c_117_23 : aCod 117 23 = some (.invokevirtual 62, 26) := by decide +kernel
theorem c_117_26 : aCod 117 26 = some (.return_, 27) := by decide +kernel
theorem c_117_27 : aCod 117 27 = some (.aload 0, 28) := by decide +kernel
theorem c_117_28 : aCod 117 28 = some (.iload 1, 29) := by decide +kernel
theorem c_117_29 : aCod 117 29 = some (.sipush 1, 30) := by decide +kernel
theorem c_117_30 : aCod 117 30 = some (.iadd, 31) := by decide +kernel
theorem c_117_31 : aCod 117 31 = some (.invokevirtual 117, 34) := by decide +kernel
theorem c_117_34 : aCod 117 34 = some (.aload 0, 35) := by decide +kernel
theorem c_117_35 : aCod 117 35 = some (.getfield 2057, 38) := by decide +kernel
theorem c_117_38 : aCod 117 38 = some (.getfield 1280, 41) := by decide +kernel
theorem c_117_41 : aCod 117 41 = some (.astore 2, 42) := by decide +kernel
theorem c_117_42 : aCod 117 42 = some (.aload 0, 43) := by decide +kernel
theorem c_117_43 : aCod 117 43 = some (.getfield 2055, 46) := by decide +kernel
theorem c_117_46 : aCod 117 46 = some (.aload 2, 47) := by decide +kernel
theorem c_117_47 : aCod 117 47 = some (.iload 1, 48) := by decide +kernel
theorem c_117_48 : aCod 117 48 = some (.invokevirtual 49, 51) := by decide +kernel
theorem c_117_51 : aCod 117 51 = some (.ifCond .eq 217, 54) := by decide +kernel
theorem c_117_54 : aCod 117 54 = some (.aload 2, 55) := by decide +kernel
theorem c_117_55 : aCod 117 55 = some (.getfield 257, 58) := by decide +kernel
theorem c_117_58 : aCod 117 58 = some (.istore 3, 59) := by decide +kernel
theorem c_117_59 : aCod 117 59 = some (.aload 2, 60) := by decide +kernel
theorem c_117_60 : aCod 117 60 = some (.getfield 258, 63) := by decide +kernel
theorem c_117_63 : aCod 117 63 = some (.istore 4, 65) := by decide +kernel
theorem c_117_65 : aCod 117 65 = some (.aload 0, 66) := by decide +kernel
theorem c_117_66 : aCod 117 66 = some (.getfield 2055, 69) := by decide +kernel
theorem c_117_69 : aCod 117 69 = some (.aload 2, 70) := by decide +kernel
theorem c_117_70 : aCod 117 70 = some (.iload 1, 71) := by decide +kernel
theorem c_117_71 : aCod 117 71 = some (.invokevirtual 48, 74) := by decide +kernel
theorem c_117_74 : aCod 117 74 = some (.istore 5, 76) := by decide +kernel
theorem c_117_76 : aCod 117 76 = some (.aload 2, 77) := by decide +kernel
theorem c_117_77 : aCod 117 77 = some (.iload 1, 78) := by decide +kernel
theorem c_117_78 : aCod 117 78 = some (.iload 5, 80) := by decide +kernel
theorem c_117_80 : aCod 117 80 = some (.invokevirtual 9, 83) := by decide +kernel
theorem c_117_83 : aCod 117 83 = some (.aload 0, 84) := by decide +kernel
theorem c_117_84 : aCod 117 84 = some (.getfield 2057, 87) := by decide +kernel
theorem c_117_87 : aCod 117 87 = some (.dup, 88) := by decide +kernel
theorem c_117_88 : aCod 117 88 = some (.getfield 1281, 91) := by decide +kernel
theorem c_117_91 : aCod 117 91 = some (.sipush 1, 92) := by decide +kernel
theorem c_117_92 : aCod 117 92 = some (.iload 1, 93) := by decide +kernel
theorem c_117_93 : aCod 117 93 = some (.ishl, 94) := by decide +kernel
theorem c_117_94 : aCod 117 94 = some (.ior, 95) := by decide +kernel
theorem c_117_95 : aCod 117 95 = some (.putfield 1281, 98) := by decide +kernel
theorem c_117_98 : aCod 117 98 = some (.aload 0, 99) := by decide +kernel
theorem c_117_99 : aCod 117 99 = some (.getfield 2057, 102) := by decide +kernel
theorem c_117_102 : aCod 117 102 = some (.dup, 103) := by decide +kernel
theorem c_117_103 : aCod 117 103 = some (.getfield 1282, 106) := by decide +kernel
theorem c_117_106 : aCod 117 106 = some (.aload 0, 107) := by decide +kernel
theorem c_117_107 : aCod 117 107 = some (.getfield 2051, 110) := by decide +kernel
theorem c_117_110 : aCod 117 110 = some (.getfield 1547, 113) := by decide +kernel
theorem c_117_113 : aCod 117 113 = some (.iload 1, 114) := by decide +kernel
theorem c_117_114 : aCod 117 114 = some (.iaload, 115) := by decide +kernel
theorem c_117_115 : aCod 117 115 = some (.iadd, 116) := by decide +kernel
theorem c_117_116 : aCod 117 116 = some (.putfield 1282, 119) := by decide +kernel
theorem c_117_119 : aCod 117 119 = some (.aload 0, 120) := by decide +kernel
theorem c_117_120 : aCod 117 120 = some (.getfield 2057, 123) := by decide +kernel
theorem c_117_123 : aCod 117 123 = some (.dup, 124) := by decide +kernel
theorem c_117_124 : aCod 117 124 = some (.getfield 1283, 127) := by decide +kernel
theorem c_117_127 : aCod 117 127 = some (.iload 5, 129) := by decide +kernel
theorem c_117_129 : aCod 117 129 = some (.iadd, 130) := by decide +kernel
theorem c_117_130 : aCod 117 130 = some (.putfield 1283, 133) := by decide +kernel
theorem c_117_133 : aCod 117 133 = some (.aload 0, 134) := by decide +kernel
theorem c_117_134 : aCod 117 134 = some (.iload 1, 135) := by decide +kernel
theorem c_117_135 : aCod 117 135 = some (.sipush 1, 136) := by decide +kernel
theorem c_117_136 : aCod 117 136 = some (.iadd, 137) := by decide +kernel
theorem c_117_137 : aCod 117 137 = some (.invokevirtual 117, 140) := by decide +kernel
theorem c_117_140 : aCod 117 140 = some (.aload 0, 141) := by decide +kernel
theorem c_117_141 : aCod 117 141 = some (.getfield 2057, 144) := by decide +kernel
theorem c_117_144 : aCod 117 144 = some (.dup, 145) := by decide +kernel
theorem c_117_145 : aCod 117 145 = some (.getfield 1283, 148) := by decide +kernel
theorem c_117_148 : aCod 117 148 = some (.iload 5, 150) := by decide +kernel
theorem c_117_150 : aCod 117 150 = some (.isub, 151) := by decide +kernel
theorem c_117_151 : aCod 117 151 = some (.putfield 1283, 154) := by decide +kernel
theorem c_117_154 : aCod 117 154 = some (.aload 0, 155) := by decide +kernel
theorem c_117_155 : aCod 117 155 = some (.getfield 2057, 158) := by decide +kernel
theorem c_117_158 : aCod 117 158 = some (.dup, 159) := by decide +kernel
theorem c_117_159 : aCod 117 159 = some (.getfield 1282, 162) := by decide +kernel
theorem c_117_162 : aCod 117 162 = some (.aload 0, 163) := by decide +kernel
theorem c_117_163 : aCod 117 163 = some (.getfield 2051, 166) := by decide +kernel
theorem c_117_166 : aCod 117 166 = some (.getfield 1547, 169) := by decide +kernel
theorem c_117_169 : aCod 117 169 = some (.iload 1, 170) := by decide +kernel
theorem c_117_170 : aCod 117 170 = some (.iaload, 171) := by decide +kernel
theorem c_117_171 : aCod 117 171 = some (.isub, 172) := by decide +kernel
theorem c_117_172 : aCod 117 172 = some (.putfield 1282, 175) := by decide +kernel
theorem c_117_175 : aCod 117 175 = some (.aload 0, 176) := by decide +kernel
theorem c_117_176 : aCod 117 176 = some (.getfield 2057, 179) := by decide +kernel
theorem c_117_179 : aCod 117 179 = some (.dup, 180) := by decide +kernel
theorem c_117_180 : aCod 117 180 = some (.getfield 1281, 183) := by decide +kernel
theorem c_117_183 : aCod 117 183 = some (.sipush 1, 184) := by decide +kernel
theorem c_117_184 : aCod 117 184 = some (.iload 1, 185) := by decide +kernel
theorem c_117_185 : aCod 117 185 = some (.ishl, 186) := by decide +kernel
theorem c_117_186 : aCod 117 186 = some (.sipush (-1), 187) := by decide +kernel
theorem c_117_187 : aCod 117 187 = some (.ixor, 188) := by decide +kernel
theorem c_117_188 : aCod 117 188 = some (.iand, 189) := by decide +kernel
theorem c_117_189 : aCod 117 189 = some (.putfield 1281, 192) := by decide +kernel
theorem c_117_192 : aCod 117 192 = some (.aload 2, 193) := by decide +kernel
theorem c_117_193 : aCod 117 193 = some (.dup, 194) := by decide +kernel
theorem c_117_194 : aCod 117 194 = some (.getfield 259, 197) := by decide +kernel
theorem c_117_197 : aCod 117 197 = some (.sipush 1, 198) := by decide +kernel
theorem c_117_198 : aCod 117 198 = some (.iload 1, 199) := by decide +kernel
theorem c_117_199 : aCod 117 199 = some (.ishl, 200) := by decide +kernel
theorem c_117_200 : aCod 117 200 = some (.sipush (-1), 201) := by decide +kernel
theorem c_117_201 : aCod 117 201 = some (.ixor, 202) := by decide +kernel
theorem c_117_202 : aCod 117 202 = some (.iand, 203) := by decide +kernel
theorem c_117_203 : aCod 117 203 = some (.putfield 259, 206) := by decide +kernel
theorem c_117_206 : aCod 117 206 = some (.aload 2, 207) := by decide +kernel
theorem c_117_207 : aCod 117 207 = some (.iload 4, 209) := by decide +kernel
theorem c_117_209 : aCod 117 209 = some (.putfield 258, 212) := by decide +kernel
theorem c_117_212 : aCod 117 212 = some (.aload 2, 213) := by decide +kernel
theorem c_117_213 : aCod 117 213 = some (.iload 3, 214) := by decide +kernel
theorem c_117_214 : aCod 117 214 = some (.putfield 257, 217) := by decide +kernel
theorem c_117_217 : aCod 117 217 = some (.return_, 218) := by decide +kernel
theorem c_118_0 : aCod 118 0 = some (.aload 0, 1) := by decide +kernel
theorem c_118_1 : aCod 118 1 = some (.getfield 2053, 4) := by decide +kernel
theorem c_118_4 : aCod 118 4 = some (.getfield 260, 7) := by decide +kernel
theorem c_118_7 : aCod 118 7 = some (.sipush 40, 9) := by decide +kernel
theorem c_118_9 : aCod 118 9 = some (.if_icmp .ge 68, 12) := by decide +kernel
theorem c_118_12 : aCod 118 12 = some (.aload 0, 13) := by decide +kernel
theorem c_118_13 : aCod 118 13 = some (.getfield 2059, 16) := by decide +kernel
theorem c_118_16 : aCod 118 16 = some (.aload 0, 17) := by decide +kernel
theorem c_118_17 : aCod 118 17 = some (.getfield 2053, 20) := by decide +kernel
theorem c_118_20 : aCod 118 20 = some (.getfield 260, 23) := by decide +kernel
theorem c_118_23 : aCod 118 23 = some (.aaload, 24) := by decide +kernel
theorem c_118_24 : aCod 118 24 = some (.astore 3, 25) := by decide +kernel
theorem c_118_25 : aCod 118 25 = some (.aload 3, 26) := by decide +kernel
theorem c_118_26 : aCod 118 26 = some (.sipush 0, 27) := by decide +kernel
theorem c_118_27 : aCod 118 27 = some (.aload 0, 28) := by decide +kernel
theorem c_118_28 : aCod 118 28 = some (.getfield 2053, 31) := by decide +kernel
theorem c_118_31 : aCod 118 31 = some (.getfield 256, 34) := by decide +kernel
theorem c_118_34 : aCod 118 34 = some (.iastore, 35) := by decide +kernel
theorem c_118_35 : aCod 118 35 = some (.aload 3, 36) := by decide +kernel
theorem c_118_36 : aCod 118 36 = some (.sipush 1, 37) := by decide +kernel
theorem c_118_37 : aCod 118 37 = some (.iload 1, 38) := by decide +kernel
theorem c_118_38 : aCod 118 38 = some (.iastore, 39) := by decide +kernel
theorem c_118_39 : aCod 118 39 = some (.aload 3, 40) := by decide +kernel
theorem c_118_40 : aCod 118 40 = some (.sipush 2, 41) := by decide +kernel
theorem c_118_41 : aCod 118 41 = some (.aload 0, 42) := by decide +kernel
theorem c_118_42 : aCod 118 42 = some (.getfield 2053, 45) := by decide +kernel
theorem c_118_45 : aCod 118 45 = some (.getfield 261, 48) := by decide +kernel
theorem c_118_48 : aCod 118 48 = some (.iload 1, 49) := by decide +kernel
theorem c_118_49 : aCod 118 49 = some (.iaload, 50) := by decide +kernel
theorem c_118_50 : aCod 118 50 = some (.iastore, 51) := by decide +kernel
theorem c_118_51 : aCod 118 51 = some (.aload 3, 52) := by decide +kernel
theorem c_118_52 : aCod 118 52 = some (.sipush 3, 53) := by decide +kernel
theorem c_118_53 : aCod 118 53 = some (.iload 2, 54) := by decide +kernel
theorem c_118_54 : aCod 118 54 = some (.iastore, 55) := by decide +kernel
theorem c_118_55 : aCod 118 55 = some (.aload 0, 56) := by decide +kernel
theorem c_118_56 : aCod 118 56 = some (.getfield 2053, 59) := by decide +kernel
theorem c_118_59 : aCod 118 59 = some (.dup, 60) := by decide +kernel
theorem c_118_60 : aCod 118 60 = some (.getfield 260, 63) := by decide +kernel
theorem c_118_63 : aCod 118 63 = some (.sipush 1, 64) := by decide +kernel
theorem c_118_64 : aCod 118 64 = some (.iadd, 65) := by decide +kernel
theorem c_118_65 : aCod 118 65 = some (.putfield 260, 68) := by decide +kernel
theorem c_118_68 : aCod 118 68 = some (.return_, 69) := by decide +kernel
theorem c_119_0 : aCod 119 0 = some (.sipush 0, 1) := by decide +kernel
theorem c_119_1 : aCod 119 1 = some (.istore 1, 2) := by decide +kernel
theorem c_119_2 : aCod 119 2 = some (.sipush 0, 3) := by decide +kernel
theorem c_119_3 : aCod 119 3 = some (.istore 2, 4) := by decide +kernel
theorem c_119_4 : aCod 119 4 = some (.iload 2, 5) := by decide +kernel
theorem c_119_5 : aCod 119 5 = some (.aload 0, 6) := by decide +kernel
theorem c_119_6 : aCod 119 6 = some (.getfield 2051, 9) := by decide +kernel
theorem c_119_9 : aCod 119 9 = some (.getfield 1540, 12) := by decide +kernel
theorem c_119_12 : aCod 119 12 = some (.sipush 0, 13) := by decide +kernel
theorem c_119_13 : aCod 119 13 = some (.iaload, 14) := by decide +kernel
theorem c_119_14 : aCod 119 14 = some (.if_icmp .ge 43, 17) := by decide +kernel
theorem c_119_17 : aCod 119 17 = some (.aload 0, 18) := by decide +kernel
theorem c_119_18 : aCod 119 18 = some (.invokevirtual 120, 21) := by decide +kernel
theorem c_119_21 : aCod 119 21 = some (.aload 0, 22) := by decide +kernel
theorem c_119_22 : aCod 119 22 = some (.getfield 2051, 25) := by decide +kernel
theorem c_119_25 : aCod 119 25 = some (.getfield 1552, 28) := by decide +kernel
theorem c_119_28 : aCod 119 28 = some (.if_icmp .ge 37, 31) := by decide +kernel
theorem c_119_31 : aCod 119 31 = some (.iload 1, 32) := by decide +kernel
theorem c_119_32 : aCod 119 32 = some (.sipush 1, 33) := by decide +kernel
theorem c_119_33 : aCod 119 33 = some (.iload 2, 34) := by decide +kernel
theorem c_119_34 : aCod 119 34 = some (.ishl, 35) := by decide +kernel
theorem c_119_35 : aCod 119 35 = some (.ior, 36) := by decide +kernel
theorem c_119_36 : aCod 119 36 = some (.istore 1, 37) := by decide +kernel
theorem c_119_37 : aCod 119 37 = some (.iinc 2 1, 40) := by decide +kernel
theorem c_119_40 : aCod 119 40 = some (.goto 4, 43) := by decide +kernel
theorem c_119_43 : aCod 119 43 = some (.iload 1, 44) := by decide +kernel
theorem c_119_44 : aCod 119 44 = some (.ireturn, 45) := by decide +kernel
theorem c_120_0 : aCod 120 0 = some (.aload 0, 1) := by decide +kernel
theorem c_120_1 : aCod 120 1 = some (.goto_w 1103515245, 4) := by decide +kernel
theorem c_120_4 : aCod 120 4 = some (.aload 0, 5) := by decide +kernel
theorem c_120_5 : aCod 120 5 = some (.getfield 2065, 8) := by decide +kernel
theorem c_120_8 : aCod 120 8 = some (.lmul, 9) := by decide +kernel
theorem c_120_9 : aCod 120 9 = some (.goto_w 12345, 12) := by decide +kernel
theorem c_120_12 : aCod 120 12 = some (.ladd, 13) := by decide +kernel
theorem c_120_13 : aCod 120 13 = some (.goto_w 2147483648, 16) := by decide +kernel
theorem c_120_16 : aCod 120 16 = some (.lrem, 17) := by decide +kernel
theorem c_120_17 : aCod 120 17 = some (.putfield 2065, 20) := by decide +kernel
theorem c_120_20 : aCod 120 20 = some (.aload 0, 21) := by decide +kernel
theorem c_120_21 : aCod 120 21 = some (.getfield 2065, 24) := by decide +kernel
theorem c_120_24 : aCod 120 24 = some (.goto_w 64, 27) := by decide +kernel
theorem c_120_27 : aCod 120 27 = some (.ldiv, 28) := by decide +kernel
theorem c_120_28 : aCod 120 28 = some (.goto_w 100, 31) := by decide +kernel
theorem c_120_31 : aCod 120 31 = some (.lrem, 32) := by decide +kernel
theorem c_120_32 : aCod 120 32 = some (.l2i, 33) := by decide +kernel
theorem c_120_33 : aCod 120 33 = some (.ireturn, 34) := by decide +kernel
theorem c_121_0 : aCod 121 0 = some (.aload 0, 1) := by decide +kernel
theorem c_121_1 : aCod 121 1 = some (.getfield 2055, 4) := by decide +kernel
theorem c_121_4 : aCod 121 4 = some (.aload 0, 5) := by decide +kernel
theorem c_121_5 : aCod 121 5 = some (.getfield 2055, 8) := by decide +kernel
theorem c_121_8 : aCod 121 8 = some (.aload 0, 9) := by decide +kernel
theorem c_121_9 : aCod 121 9 = some (.getfield 2053, 12) := by decide +kernel
theorem c_121_12 : aCod 121 12 = some (.iload 1, 13) := by decide +kernel
theorem c_121_13 : aCod 121 13 = some (.invokevirtual 48, 16) := by decide +kernel
theorem c_121_16 : aCod 121 16 = some (.putfield 1025, 19) := by decide +kernel
theorem c_121_19 : aCod 121 19 = some (.aload 0, 20) := by decide +kernel
theorem c_121_20 : aCod 121 20 = some (.getfield 2055, 23) := by decide +kernel
theorem c_121_23 : aCod 121 23 = some (.aload 0, 24) := by decide +kernel
theorem c_121_24 : aCod 121 24 = some (.getfield 2058, 27) := by decide +kernel
theorem c_121_27 : aCod 121 27 = some (.sipush 3, 28) := by decide +kernel
theorem c_121_28 : aCod 121 28 = some (.aload 0, 29) := by decide +kernel
theorem c_121_29 : aCod 121 29 = some (.getfield 2053, 32) := by decide +kernel
theorem c_121_32 : aCod 121 32 = some (.iload 1, 33) := by decide +kernel
theorem c_121_33 : aCod 121 33 = some (.invokevirtual 55, 36) := by decide +kernel
theorem c_121_36 : aCod 121 36 = some (.ireturn, 37) := by decide +kernel
theorem c_122_0 : aCod 122 0 = some (.sipush (-1), 1) := by decide +kernel
theorem c_122_1 : aCod 122 1 = some (.istore 2, 2) := by decide +kernel
theorem c_122_2 : aCod 122 2 = some (.sipush (-1), 3) := by decide +kernel
theorem c_122_3 : aCod 122 3 = some (.istore 3, 4) := by decide +kernel
theorem c_122_4 : aCod 122 4 = some (.sipush 0, 5) := by decide +kernel
theorem c_122_5 : aCod 122 5 = some (.istore 4, 7) := by decide +kernel
theorem c_122_7 : aCod 122 7 = some (.sipush 0, 8) := by decide +kernel
theorem c_122_8 : aCod 122 8 = some (.istore 5, 10) := by decide +kernel
theorem c_122_10 : aCod 122 10 = some (.iload 5, 12) := by decide +kernel
theorem c_122_12 : aCod 122 12 = some (.aload 0, 13) := by decide +kernel
theorem c_122_13 : aCod 122 13 = some (.getfield 2051, 16) := by decide +kernel
theorem c_122_16 : aCod 122 16 = some (.getfield 1540, 19) := by decide +kernel
theorem c_122_19 : aCod 122 19 = some (.sipush 2, 20) := by decide +kernel
theorem c_122_20 : aCod 122 20 = some (.iaload, 21) := by decide +kernel
theorem c_122_21 : aCod 122 21 = some (.if_icmp .ge 57, 24) := by decide +kernel
theorem c_122_24 : aCod 122 24 = some (.aload 0, 25) := by decide +kernel
theorem c_122_25 : aCod 122 25 = some (.iload 5, 27) := by decide +kernel
theorem c_122_27 : aCod 122 27 = some (.invokevirtual 121, 30) := by decide +kernel
theorem c_122_30 : aCod 122 30 = some (.ifCond .eq 51, 33) := by decide +kernel
theorem c_122_33 : aCod 122 33 = some (.iload 4, 35) := by decide +kernel
theorem c_122_35 : aCod 122 35 = some (.ifCond .ne 43, 38) := by decide +kernel
theorem c_122_38 : aCod 122 38 = some (.iload 5, 40) := by decide +kernel
theorem c_122_40 : aCod 122 40 = some (.goto 44, 43) := by decide +kernel
theorem c_122_43 : aCod 122 43 = some (.iload 2, 44) := by decide +kernel
theorem c_122_44 : aCod 122 44 = some (.istore 2, 45) := by decide +kernel
theorem c_122_45 : aCod 122 45 = some (.iload 5, 47) := by decide +kernel
theorem c_122_47 : aCod 122 47 = some (.istore 3, 48) := by decide +kernel
theorem c_122_48 : aCod 122 48 = some (.iinc 4 1, 51) := by decide +kernel
theorem c_122_51 : aCod 122 51 = some (.iinc 5 1, 54) := by decide +kernel
theorem c_122_54 : aCod 122 54 = some (.goto 10, 57) := by decide +kernel
theorem c_122_57 : aCod 122 57 = some (.iload 1, 58) := by decide +kernel
theorem c_122_58 : aCod 122 58 = some (.lookupswitch 90 #[(332, 84), (333, 87)], 84) := by decide +kernel
theorem c_122_84 : aCod 122 84 = some (.iload 2, 85) := by decide +kernel
theorem c_122_85 : aCod 122 85 = some (.i2l, 86) := by decide +kernel
theorem c_122_86 : aCod 122 86 = some (.lreturn, 87) := by decide +kernel
theorem c_122_87 : aCod 122 87 = some (.iload 3, 88) := by decide +kernel
theorem c_122_88 : aCod 122 88 = some (.i2l, 89) := by decide +kernel
theorem c_122_89 : aCod 122 89 = some (.lreturn, 90) := by decide +kernel
theorem c_122_90 : aCod 122 90 = some (.iload 4, 92) := by decide +kernel
theorem c_122_92 : aCod 122 92 = some (.i2l, 93) := by decide +kernel
theorem c_122_93 : aCod 122 93 = some (.lreturn, 94) := by decide +kernel
theorem c_123_0 : aCod 123 0 = some (.goto_w 0, 1) := by decide +kernel
theorem c_123_1 : aCod 123 1 = some (.lstore 2, 2) := by decide +kernel
theorem c_123_2 : aCod 123 2 = some (.sipush 0, 3) := by decide +kernel
theorem c_123_3 : aCod 123 3 = some (.istore 4, 5) := by decide +kernel
theorem c_123_5 : aCod 123 5 = some (.sipush 0, 6) := by decide +kernel
theorem c_123_6 : aCod 123 6 = some (.istore 5, 8) := by decide +kernel
theorem c_123_8 : aCod 123 8 = some (.sipush 0, 9) := by decide +kernel
theorem c_123_9 : aCod 123 9 = some (.istore 6, 11) := by decide +kernel
theorem c_123_11 : aCod 123 11 = some (.iload 6, 13) := by decide +kernel
theorem c_123_13 : aCod 123 13 = some (.aload 0, 14) := by decide +kernel
theorem c_123_14 : aCod 123 14 = some (.getfield 2051, 17) := by decide +kernel
theorem c_123_17 : aCod 123 17 = some (.getfield 1540, 20) := by decide +kernel
theorem c_123_20 : aCod 123 20 = some (.sipush 2, 21) := by decide +kernel
theorem c_123_21 : aCod 123 21 = some (.iaload, 22) := by decide +kernel
theorem c_123_22 : aCod 123 22 = some (.if_icmp .ge 83, 25) := by decide +kernel
theorem c_123_25 : aCod 123 25 = some (.aload 0, 26) := by decide +kernel
theorem c_123_26 : aCod 123 26 = some (.iload 6, 28) := by decide +kernel
theorem c_123_28 : aCod 123 28 = some (.invokevirtual 121, 31) := by decide +kernel
theorem c_123_31 : aCod 123 31 = some (.istore 7, 33) := by decide +kernel
theorem c_123_33 : aCod 123 33 = some (.lload 2, 34) := by decide +kernel
theorem c_123_34 : aCod 123 34 = some (.iload 7, 36) := by decide +kernel
theorem c_123_36 : aCod 123 36 = some (.i2l, 37) := by decide +kernel
theorem c_123_37 : aCod 123 37 = some (.ladd, 38) := by decide +kernel
theorem c_123_38 : aCod 123 38 = some (.lstore 2, 39) := by decide +kernel
theorem c_123_39 : aCod 123 39 = some (.iload 6, 41) := by decide +kernel
theorem c_123_41 : aCod 123 41 = some (.ifCond .ne 49, 44) := by decide +kernel
theorem c_123_44 : aCod 123 44 = some (.iload 7, 46) := by decide +kernel
theorem c_123_46 : aCod 123 46 = some (.goto 56, 49) := by decide +kernel
theorem c_123_49 : aCod 123 49 = some (.iload 4, 51) := by decide +kernel
theorem c_123_51 : aCod 123 51 = some (.iload 7, 53) := by decide +kernel
theorem c_123_53 : aCod 123 53 = some (.invokeinterface 1 0, 56) := by decide +kernel
theorem c_123_56 : aCod 123 56 = some (.istore 4, 58) := by decide +kernel
theorem c_123_58 : aCod 123 58 = some (.iload 6, 60) := by decide +kernel
theorem c_123_60 : aCod 123 60 = some (.ifCond .ne 68, 63) := by decide +kernel
theorem c_123_63 : aCod 123 63 = some (.iload 7, 65) := by decide +kernel
theorem c_123_65 : aCod 123 65 = some (.goto 75, 68) := by decide +kernel
theorem c_123_68 : aCod 123 68 = some (.iload 5, 70) := by decide +kernel
theorem c_123_70 : aCod 123 70 = some (.iload 7, 72) := by decide +kernel
theorem c_123_72 : aCod 123 72 = some (.invokeinterface 2 0, 75) := by decide +kernel
theorem c_123_75 : aCod 123 75 = some (.istore 5, 77) := by decide +kernel
theorem c_123_77 : aCod 123 77 = some (.iinc 6 1, 80) := by decide +kernel
theorem c_123_80 : aCod 123 80 = some (.goto 11, 83) := by decide +kernel
theorem c_123_83 : aCod 123 83 = some (.iload 1, 84) := by decide +kernel
theorem c_123_84 : aCod 123 84 = some (.lookupswitch 118 #[(335, 112), (336, 114)], 112) := by decide +kernel
theorem c_123_112 : aCod 123 112 = some (.lload 2, 113) := by decide +kernel
theorem c_123_113 : aCod 123 113 = some (.lreturn, 114) := by decide +kernel
theorem c_123_114 : aCod 123 114 = some (.iload 4, 116) := by decide +kernel
theorem c_123_116 : aCod 123 116 = some (.i2l, 117) := by decide +kernel
theorem c_123_117 : aCod 123 117 = some (.lreturn, 118) := by decide +kernel
theorem c_123_118 : aCod 123 118 = some (.iload 5, 120) := by decide +kernel
theorem c_123_120 : aCod 123 120 = some (.i2l, 121) := by decide +kernel
theorem c_123_121 : aCod 123 121 = some (.lreturn, 122) := by decide +kernel
theorem c_124_0 : aCod 124 0 = some (.aload 0, 1) := by decide +kernel
theorem c_124_1 : aCod 124 1 = some (.getfield 2061, 4) := by decide +kernel
theorem c_124_4 : aCod 124 4 = some (.sipush 39, 6) := by decide +kernel
theorem c_124_6 : aCod 124 6 = some (.if_icmp .ge 29, 9) := by decide +kernel
theorem c_124_9 : aCod 124 9 = some (.aload 0, 10) := by decide +kernel
theorem c_124_10 : aCod 124 10 = some (.getfield 2060, 13) := by decide +kernel
theorem c_124_13 : aCod 124 13 = some (.aload 0, 14) := by decide +kernel
theorem c_124_14 : aCod 124 14 = some (.getfield 2061, 17) := by decide +kernel
theorem c_124_17 : aCod 124 17 = some (.iload 1, 18) := by decide +kernel
theorem c_124_18 : aCod 124 18 = some (.iastore, 19) := by decide +kernel
theorem c_124_19 : aCod 124 19 = some (.aload 0, 20) := by decide +kernel
theorem c_124_20 : aCod 124 20 = some (.dup, 21) := by decide +kernel
theorem c_124_21 : aCod 124 21 = some (.getfield 2061, 24) := by decide +kernel
theorem c_124_24 : aCod 124 24 = some (.sipush 1, 25) := by decide +kernel
theorem c_124_25 : aCod 124 25 = some (.iadd, 26) := by decide +kernel
theorem c_124_26 : aCod 124 26 = some (.putfield 2061, 29) := by decide +kernel
theorem c_124_29 : aCod 124 29 = some (.return_, 30) := by decide +kernel
theorem c_125_0 : aCod 125 0 = some (.aload 0, 1) := by decide +kernel
theorem c_125_1 : aCod 125 1 = some (.iload 1, 2) := by decide +kernel
theorem c_125_2 : aCod 125 2 = some (.sipush 8, 4) := by decide +kernel
theorem c_125_4 : aCod 125 4 = some (.ishr, 5) := by decide +kernel
theorem c_125_5 : aCod 125 5 = some (.invokevirtual 124, 8) := by decide +kernel
theorem c_125_8 : aCod 125 8 = some (.aload 0, 9) := by decide +kernel
theorem c_125_9 : aCod 125 9 = some (.iload 1, 10) := by decide +kernel
theorem c_125_10 : aCod 125 10 = some (.sipush 255, 13) := by decide +kernel
theorem c_125_13 : aCod 125 13 = some (.iand, 14) := by decide +kernel
theorem c_125_14 : aCod 125 14 = some (.invokevirtual 124, 17) := by decide +kernel
theorem c_125_17 : aCod 125 17 = some (.return_, 18) := by decide +kernel
theorem c_126_0 : aCod 126 0 = some (.sipush 31, 2) := by decide +kernel
theorem c_126_2 : aCod 126 2 = some (.istore 2, 3) := by decide +kernel
theorem c_126_3 : aCod 126 3 = some (.sipush 0, 4) := by decide +kernel
theorem c_126_4 : aCod 126 4 = some (.istore 3, 5) := by decide +kernel
theorem c_126_5 : aCod 126 5 = some (.iload 3, 6) := by decide +kernel
theorem c_126_6 : aCod 126 6 = some (.iload 1, 7) := by decide +kernel
theorem c_126_7 : aCod 126 7 = some (.if_icmp .ge 34, 10) := by decide +kernel
theorem c_126_10 : aCod 126 10 = some (.iload 3, 11) := by decide +kernel
theorem c_126_11 : aCod 126 11 = some (.aload 0, 12) := by decide +kernel
theorem c_126_12 : aCod 126 12 = some (.arraylength, 13) := by decide +kernel
theorem c_126_13 : aCod 126 13 = some (.if_icmp .ge 34, 16) := by decide +kernel
theorem c_126_16 : aCod 126 16 = some (.sipush 3, 17) := by decide +kernel
theorem c_126_17 : aCod 126 17 = some (.iload 2, 18) := by decide +kernel
theorem c_126_18 : aCod 126 18 = some (.imul, 19) := by decide +kernel
theorem c_126_19 : aCod 126 19 = some (.aload 0, 20) := by decide +kernel
theorem c_126_20 : aCod 126 20 = some (.iload 3, 21) := by decide +kernel
theorem c_126_21 : aCod 126 21 = some (.iaload, 22) := by decide +kernel
theorem c_126_22 : aCod 126 22 = some (.iadd, 23) := by decide +kernel
theorem c_126_23 : aCod 126 23 = some (.sipush 251, 26) := by decide +kernel
theorem c_126_26 : aCod 126 26 = some (.irem, 27) := by decide +kernel
theorem c_126_27 : aCod 126 27 = some (.istore 2, 28) := by decide +kernel
theorem c_126_28 : aCod 126 28 = some (.iinc 3 1, 31) := by decide +kernel
theorem c_126_31 : aCod 126 31 = some (.goto 5, 34) := by decide +kernel
theorem c_126_34 : aCod 126 34 = some (.iload 2, 35) := by decide +kernel
theorem c_126_35 : aCod 126 35 = some (.ireturn, 36) := by decide +kernel
theorem c_127_0 : aCod 127 0 = some (.aload 0, 1) := by decide +kernel
theorem c_127_1 : aCod 127 1 = some (.getfield 2051, 4) := by decide +kernel
theorem c_127_4 : aCod 127 4 = some (.getfield 1540, 7) := by decide +kernel
theorem c_127_7 : aCod 127 7 = some (.sipush 2, 8) := by decide +kernel
theorem c_127_8 : aCod 127 8 = some (.iaload, 9) := by decide +kernel
theorem c_127_9 : aCod 127 9 = some (.istore 2, 10) := by decide +kernel
theorem c_127_10 : aCod 127 10 = some (.sipush 6, 12) := by decide +kernel
theorem c_127_12 : aCod 127 12 = some (.sipush 4, 13) := by decide +kernel
theorem c_127_13 : aCod 127 13 = some (.iload 2, 14) := by decide +kernel
theorem c_127_14 : aCod 127 14 = some (.imul, 15) := by decide +kernel
theorem c_127_15 : aCod 127 15 = some (.iadd, 16) := by decide +kernel
theorem c_127_16 : aCod 127 16 = some (.istore 3, 17) := by decide +kernel
theorem c_127_17 : aCod 127 17 = some (.aload 0, 18) := by decide +kernel
theorem c_127_18 : aCod 127 18 = some (.getfield 2051, 21) := by decide +kernel
theorem c_127_21 : aCod 127 21 = some (.getfield 1536, 24) := by decide +kernel
theorem c_127_24 : aCod 127 24 = some (.ifCond .eq 51, 27) := by decide +kernel
theorem c_127_27 : aCod 127 27 = some (.iload 1, 28) := by decide +kernel
theorem c_127_28 : aCod 127 28 = some (.iload 3, 29) := by decide +kernel
theorem c_127_29 : aCod 127 29 = some (.sipush 1, 30) := by decide +kernel
theorem c_127_30 : aCod 127 30 = some (.iadd, 31) := by decide +kernel
theorem c_127_31 : aCod 127 31 = some (.if_icmp .ne 51, 34) := by decide +kernel
theorem c_127_34 : aCod 127 34 = some (.aload 0, 35) := by decide +kernel
theorem c_127_35 : aCod 127 35 = some (.getfield 2048, 38) := by decide +kernel
theorem c_127_38 : aCod 127 38 = some (.iload 3, 39) := by decide +kernel
theorem c_127_39 : aCod 127 39 = some (.iaload, 40) := by decide +kernel
theorem c_127_40 : aCod 127 40 = some (.aload 0, 41) := by decide +kernel
theorem c_127_41 : aCod 127 41 = some (.getfield 2048, 44) := by decide +kernel
theorem c_127_44 : aCod 127 44 = some (.iload 3, 45) := by decide +kernel
theorem c_127_45 : aCod 127 45 = some (.invokestatic 126, 48) := by decide +kernel
theorem c_127_48 : aCod 127 48 = some (.if_icmp .eq 53, 51) := by decide +kernel
theorem c_127_51 : aCod 127 51 = some (.sipush 0, 52) := by decide +kernel
theorem c_127_52 : aCod 127 52 = some (.ireturn, 53) := by decide +kernel
theorem c_127_53 : aCod 127 53 = some (.aload 0, 54) := by decide +kernel
theorem c_127_54 : aCod 127 54 = some (.sipush 0, 55) := by decide +kernel
theorem c_127_55 : aCod 127 55 = some (.invokevirtual 111, 58) := by decide +kernel
theorem c_127_58 : aCod 127 58 = some (.sipush 999, 61) := by decide +kernel
theorem c_127_61 : aCod 127 61 = some (.if_icmp .gt 90, 64) := by decide +kernel
theorem c_127_64 : aCod 127 64 = some (.aload 0, 65) := by decide +kernel
theorem c_127_65 : aCod 127 65 = some (.sipush 2, 66) := by decide +kernel
theorem c_127_66 : aCod 127 66 = some (.invokevirtual 111, 69) := by decide +kernel
theorem c_127_69 : aCod 127 69 = some (.aload 0, 70) := by decide +kernel
theorem c_127_70 : aCod 127 70 = some (.getfield 2051, 73) := by decide +kernel
theorem c_127_73 : aCod 127 73 = some (.getfield 1537, 76) := by decide +kernel
theorem c_127_76 : aCod 127 76 = some (.if_icmp .gt 90, 79) := by decide +kernel
theorem c_127_79 : aCod 127 79 = some (.aload 0, 80) := by decide +kernel
theorem c_127_80 : aCod 127 80 = some (.sipush 4, 81) := by decide +kernel
theorem c_127_81 : aCod 127 81 = some (.invokevirtual 111, 84) := by decide +kernel
theorem c_127_84 : aCod 127 84 = some (.sipush 9999, 87) := by decide +kernel
theorem c_127_87 : aCod 127 87 = some (.if_icmp .le 92, 90) := by decide +kernel
theorem c_127_90 : aCod 127 90 = some (.sipush 0, 91) := by decide +kernel
theorem c_127_91 : aCod 127 91 = some (.ireturn, 92) := by decide +kernel
theorem c_127_92 : aCod 127 92 = some (.sipush 0, 93) := by decide +kernel
theorem c_127_93 : aCod 127 93 = some (.istore 4, 95) := by decide +kernel
theorem c_127_95 : aCod 127 95 = some (.iload 4, 97) := by decide +kernel
theorem c_127_97 : aCod 127 97 = some (.iload 2, 98) := by decide +kernel
theorem c_127_98 : aCod 127 98 = some (.if_icmp .ge 123, 101) := by decide +kernel
theorem c_127_101 : aCod 127 101 = some (.aload 0, 102) := by decide +kernel
theorem c_127_102 : aCod 127 102 = some (.sipush 6, 104) := by decide +kernel
theorem c_127_104 : aCod 127 104 = some (.sipush 4, 105) := by decide +kernel
theorem c_127_105 : aCod 127 105 = some (.iload 4, 107) := by decide +kernel
theorem c_127_107 : aCod 127 107 = some (.imul, 108) := by decide +kernel
theorem c_127_108 : aCod 127 108 = some (.iadd, 109) := by decide +kernel
theorem c_127_109 : aCod 127 109 = some (.invokevirtual 128, 112) := by decide +kernel
theorem c_127_112 : aCod 127 112 = some (.ifCond .ne 117, 115) := by decide +kernel
theorem c_127_115 : aCod 127 115 = some (.sipush 0, 116) := by decide +kernel
theorem c_127_116 : aCod 127 116 = some (.ireturn, 117) := by decide +kernel
theorem c_127_117 : aCod 127 117 = some (.iinc 4 1, 120) := by decide +kernel
theorem c_127_120 : aCod 127 120 = some (.goto 95, 123) := by decide +kernel
theorem c_127_123 : aCod 127 123 = some (.sipush 1, 124) := by decide +kernel
theorem c_127_124 : aCod 127 124 = some (.ireturn, 125) := by decide +kernel
theorem c_128_0 : aCod 128 0 = some (.aload 0, 1) := by decide +kernel
theorem c_128_1 : aCod 128 1 = some (.iload 1, 2) := by decide +kernel
theorem c_128_2 : aCod 128 2 = some (.sipush 1, 3) := by decide +kernel
theorem c_128_3 : aCod 128 3 = some (.iadd, 4) := by decide +kernel
theorem c_128_4 : aCod 128 4 = some (.invokevirtual 111, 7) := by decide +kernel
theorem c_128_7 : aCod 128 7 = some (.istore 2, 8) := by decide +kernel
theorem c_128_8 : aCod 128 8 = some (.aload 0, 9) := by decide +kernel
theorem c_128_9 : aCod 128 9 = some (.getfield 2048, 12) := by decide +kernel
theorem c_128_12 : aCod 128 12 = some (.iload 1, 13) := by decide +kernel
theorem c_128_13 : aCod 128 13 = some (.sipush 3, 14) := by decide +kernel
theorem c_128_14 : aCod 128 14 = some (.iadd, 15) := by decide +kernel
theorem c_128_15 : aCod 128 15 = some (.iaload, 16) := by decide +kernel
theorem c_128_16 : aCod 128 16 = some (.istore 3, 17) := by decide +kernel
theorem c_128_17 : aCod 128 17 = some (.aload 0, 18) := by decide +kernel
theorem c_128_18 : aCod 128 18 = some (.getfield 2048, 21) := by decide +kernel
theorem c_128_21 : aCod 128 21 = some (.iload 1, 22) := by decide +kernel
theorem c_128_22 : aCod 128 22 = some (.iaload, 23) := by decide +kernel
theorem c_128_23 : aCod 128 23 = some (.lookupswitch 83 #[(0, 48), (1, 64)], 48) := by decide +kernel
theorem c_128_48 : aCod 128 48 = some (.iload 2, 49) := by decide +kernel
theorem c_128_49 : aCod 128 49 = some (.ifCond .ne 62, 52) := by decide +kernel
theorem c_128_52 : aCod 128 52 = some (.iload 3, 53) := by decide +kernel
theorem c_128_53 : aCod 128 53 = some (.sipush 99, 55) := by decide +kernel
theorem c_128_55 : aCod 128 55 = some (.if_icmp .ne 62, 58) := by decide +kernel
theorem c_128_58 : aCod 128 58 = some (.sipush 1, 59) := by decide +kernel
theorem c_128_59 : aCod 128 59 = some (.goto 63, 62) := by decide +kernel
theorem c_128_62 : aCod 128 62 = some (.sipush 0, 63) := by decide +kernel
theorem c_128_63 : aCod 128 63 = some (.ireturn, 64) := by decide +kernel
theorem c_128_64 : aCod 128 64 = some (.iload 2, 65) := by decide +kernel
theorem c_128_65 : aCod 128 65 = some (.sipush 9999, 68) := by decide +kernel
theorem c_128_68 : aCod 128 68 = some (.if_icmp .gt 81, 71) := by decide +kernel
theorem c_128_71 : aCod 128 71 = some (.iload 3, 72) := by decide +kernel
theorem c_128_72 : aCod 128 72 = some (.sipush 99, 74) := by decide +kernel
theorem c_128_74 : aCod 128 74 = some (.if_icmp .gt 81, 77) := by decide +kernel
theorem c_128_77 : aCod 128 77 = some (.sipush 1, 78) := by decide +kernel
theorem c_128_78 : aCod 128 78 = some (.goto 82, 81) := by decide +kernel
theorem c_128_81 : aCod 128 81 = some (.sipush 0, 82) := by decide +kernel
theorem c_128_82 : aCod 128 82 = some (.ireturn, 83) := by decide +kernel
theorem c_128_83 : aCod 128 83 = some (.sipush 0, 84) := by decide +kernel
theorem c_128_84 : aCod 128 84 = some (.ireturn, 85) := by decide +kernel
