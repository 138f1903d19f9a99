/-! THE CELLS once both objects are made (gen16.py): class 0.., reference 157..; the shore is sh (8 or 22), the spare 30 - sh -/
def S0 : List aSh := [(none, 8), (some .int, 1600), (none, 3), (none, 2), (some .int, 1601), (some .int, 1601), (some .int, 1601), (some .int, 6), (none, 6), (some .int, 3), (some .int, 120), (some .int, 6), (some .int, 6), (some .int, 6), (some .int, 8), (some .int, 8), (some .int, 8), (some .int, 8), (none, 7), (some .int, 1600), (some .int, 4), (some .int, 4), (none, 6), (some .int, 3), (some .int, 120), (some .int, 6), (some .int, 6), (some .int, 6), (some .int, 8), (some .int, 8), (some .int, 8), (some .int, 8), (none, 7), (some .int, 1600), (some .int, 4), (some .int, 4), (none, 1), (some .int, 8), (some .int, 8), (none, 1), (some .int, 8), (some .int, 8), (none, 4), (some .int, 64), (none, 0), (some (.object RX1), 20), (none, 1), (some .int, 8), (some .int, 8), (none, 1), (some .int, 8), (some .int, 8), (none, 1), (some .int, 8), (some .int, 8), (none, 1), (some .int, 8), (some .int, 8), (none, 1), (some .int, 8), (some .int, 8), (none, 1), (some .int, 8), (some .int, 8), (none, 1), (some .int, 8), (some .int, 8), (none, 1), (some .int, 8), (some .int, 8), (none, 1), (some .int, 8), (some .int, 8), (none, 1), (some .int, 8), (some .int, 8), (none, 1), (some .int, 8), (some .int, 8), (none, 1), (some .int, 8), (some .int, 8), (none, 1), (some .int, 8), (some .int, 8), (none, 1), (some .int, 8), (some .int, 8), (none, 1), (some .int, 8), (some .int, 8), (none, 1), (some .int, 8), (some .int, 8), (none, 1), (some .int, 8), (some .int, 8), (none, 1), (some .int, 8), (some .int, 8), (none, 1), (some .int, 8), (some .int, 8), (none, 1), (some .int, 8), (some .int, 8), (none, 5), (none, 1), (some .int, 8), (some .int, 8), (none, 7), (some .int, 1600), (some .int, 4), (some .int, 4), (some (.array .int), 40), (some .int, 4), (some .int, 4), (some .int, 4), (some .int, 4), (some .int, 4), (some .int, 4), (some .int, 4), (some .int, 4), (some .int, 4), (some .int, 4), (some .int, 4), (some .int, 4), (some .int, 4), (some .int, 4), (some .int, 4), (some .int, 4), (some .int, 4), (some .int, 4), (some .int, 4), (some .int, 4), (some .int, 4), (some .int, 4), (some .int, 4), (some .int, 4), (some .int, 4), (some .int, 4), (some .int, 4), (some .int, 4), (some .int, 4), (some .int, 4), (some .int, 4), (some .int, 4), (some .int, 4), (some .int, 4), (some .int, 4), (some .int, 4), (some .int, 4), (some .int, 4), (some .int, 4), (some .int, 4), (some .int, 39), (some .int, 6), (none, 9), (some .int, 1600), (some .int, 6), (some .char, 4), (some .char, 3), (some .char, 5), (some .char, 5), (some .char, 5), (some .char, 5), (some .char, 7), (some .char, 5), (some .char, 4), (some .char, 2), (some .char, 5), (some .char, 5), (some .char, 2), (some .char, 5), (some .char, 5), (some .char, 3), (some .char, 5), (some .char, 5), (some .char, 7), (some .char, 6), (some .char, 5), (some .char, 4), (some .char, 3), (some .char, 3), (some .char, 6), (some .char, 4), (some .char, 2), (some .char, 3), (some .char, 3), (some .char, 3), (some .char, 3), (some .char, 3), (some .int, 6), (some .long, 48), (some .int, 6), (some .int, 24), (some .int, 12), (some .int, 64), (some .int, 6), (some .int, 6), (some .int, 6), (some .int, 3200), (some .int, 188), (some .int, 188), (some .long, 8), (some .int, 8), (some .int, 10), (some .int, 3760), (some .char, 5), (some .char, 4), (some .char, 5), (some .char, 5), (some .char, 4), (some .char, 5), (some .char, 3), (some .char, 3), (some .char, 2), (some .char, 3), (some .char, 3), (some .char, 3), (some .char, 5), (some .char, 5), (some .char, 5), (some .char, 6), (some .char, 5), (some .char, 4), (some .char, 3), (some .char, 3), (some .char, 6), (some .char, 4), (some .char, 5), (some .char, 2), (some .int, 1700), (some .int, 1700), (some .long, 1700), (some .int, 39)]
def WD : List Int32 := [108, 97, 107, 101, 32, 104, 97, 115, 32, 98, 108, 97, 99, 107, 32, 104, 111, 108, 100, 115, 32, 98, 114, 111, 111, 107, 32, 103, 105, 118, 101, 115, 32, 118, 105, 108, 108, 97, 103, 101, 32, 109, 105, 108, 101, 115, 32, 100, 101, 101, 100, 32, 111, 102, 32, 110, 101, 101, 100, 115, 32, 119, 111, 114, 116, 104, 32, 98, 121, 32, 100, 114, 97, 119, 115, 32, 102, 97, 100, 101, 115, 32, 109, 97, 121, 32, 100, 114, 105, 101, 115, 32, 114, 101, 97, 100, 115, 32, 100, 114, 111, 117, 103, 104, 116, 32, 115, 101, 97, 115, 111, 110, 32, 108, 101, 118, 101, 108, 32, 100, 97, 114, 107, 32, 105, 110, 107, 32, 97, 103, 101, 32, 110, 117, 109, 98, 101, 114, 32, 116, 101, 114, 109, 32, 111, 114, 32, 97, 110, 100, 32, 110, 111, 116, 32, 97, 108, 108, 32, 109, 105, 110, 32, 109, 97, 120, 32, 102, 105, 114, 115, 116, 32, 108, 97, 115, 116, 32, 111, 102, 116, 101, 110, 32, 116, 111, 116, 97, 108, 32, 109, 111, 115, 116, 32, 108, 101, 97, 115, 116, 32]
def aRT (sh : Nat) (su : Option Nat) : Nat → List (Option Nat) := fun q => if q < 50 then (if q = 0 then [some 1, none, some 2, some sh, some (30 - sh), some 36, some 39, some 42, some 44, some 106, some 110, some 114, some 155, none, none, none, some 156] else if q = 2 then [some 1, some 3, some 7, su] else ( if q = 3 then [some 4, some 5, some 6] else ( if q = 8 then [none, none, none, none, some 9, some 10, some 11, some 12, some 13, some 14, some 15, some 16, some 17, some 18] else ( if q = 18 then [some 19, some 20, some 21] else ( if q = 22 then [none, none, none, none, some 23, some 24, some 25, some 26, some 27, some 28, some 29, some 30, some 31, some 32] else ( if q = 32 then [some 33, some 34, some 35] else ( if q = 36 then [none, none, none, none, none, some 37, some 38] else ( if q = 39 then [none, none, none, none, none, some 40, some 41] else ( if q = 42 then [some sh, none, some 43] else ( if q = 44 then [some 45] else ( if q = 45 then [some 46, some 49, some 52, some 55, some 58, some 61, some 64, some 67, some 70, some 73, some 76, some 79, some 82, some 85, some 88, some 91, some 94, some 97, some 100, some 103] else ( if q = 46 then [none, none, none, none, none, some 47, some 48] else ( if q = 49 then [none, none, none, none, none, some 50, some 51] else ( [])))))))))))))) else (if q = 157 then [some 158, none, none, none, none, none, none, none, none, some 159, none, some 160, some 161, some 162, some 163, some 164, some 165, some 166, some 167, some 168, some 169, some 170, some 171, some 172, some 173, some 174, some 175, some 176, some 177, some 178, some 179, some 180, some 181, some 182, some 183, some 184, some 185, some 186, some 187, some 188, some 189, some 190, some 191, none, some 192, some 193, some 194, some 195, some 196, some 197, some 198, some 199, some 200, some 201, none, none, none, none, some 202, some 203, some 204, none, some 205, none, none, none, some 206, none, none, some 207, none, none, none, some 208, some 209, some 210, some 211, some 212, some 213, some 214, some 215, some 216, some 217, some 218, some 219, some 220, some 221, some 222, some 223, some 224, some 225, some 226, some 227, some 228, some 229, some 230, some 231, some 232, none, some 233, none, none, none, some 234, none, none, none, some 235] else if q = 52 then [none, none, none, none, none, some 53, some 54] else ( if q = 55 then [none, none, none, none, none, some 56, some 57] else ( if q = 58 then [none, none, none, none, none, some 59, some 60] else ( if q = 61 then [none, none, none, none, none, some 62, some 63] else ( if q = 64 then [none, none, none, none, none, some 65, some 66] else ( if q = 67 then [none, none, none, none, none, some 68, some 69] else ( if q = 70 then [none, none, none, none, none, some 71, some 72] else ( if q = 73 then [none, none, none, none, none, some 74, some 75] else ( if q = 76 then [none, none, none, none, none, some 77, some 78] else ( if q = 79 then [none, none, none, none, none, some 80, some 81] else ( if q = 82 then [none, none, none, none, none, some 83, some 84] else ( if q = 85 then [none, none, none, none, none, some 86, some 87] else ( if q = 88 then [none, none, none, none, none, some 89, some 90] else ( if q = 91 then [none, none, none, none, none, some 92, some 93] else ( if q = 94 then [none, none, none, none, none, some 95, some 96] else ( if q = 97 then [none, none, none, none, none, some 98, some 99] else ( if q = 100 then [none, none, none, none, none, some 101, some 102] else ( if q = 103 then [none, none, none, none, none, some 104, some 105] else ( if q = 106 then [some 107] else ( if q = 107 then [none, none, none, none, none, some 108, some 109] else ( if q = 110 then [some 111, some 112, some 113] else ( if q = 114 then [some 115, some 116, some 117, some 118, some 119, some 120, some 121, some 122, some 123, some 124, some 125, some 126, some 127, some 128, some 129, some 130, some 131, some 132, some 133, some 134, some 135, some 136, some 137, some 138, some 139, some 140, some 141, some 142, some 143, some 144, some 145, some 146, some 147, some 148, some 149, some 150, some 151, some 152, some 153, some 154] else ( [])))))))))))))))))))))))
def aR (sh : Nat) (su : Option Nat) : Nat → Nat → Option Nat := fun q k => ((aRT sh su q)[k]?).getD none
theorem sp_0 : S0[0]? = some (none, 8) := rfl
theorem sp_1 : S0[1]? = some (some .int, 1600) := rfl
theorem sp_2 : S0[2]? = some (none, 3) := rfl
theorem sp_3 : S0[3]? = some (none, 2) := rfl
theorem sp_4 : S0[4]? = some (some .int, 1601) := rfl
theorem sp_5 : S0[5]? = some (some .int, 1601) := rfl
theorem sp_6 : S0[6]? = some (some .int, 1601) := rfl
theorem sp_7 : S0[7]? = some (some .int, 6) := rfl
theorem sp_8 : S0[8]? = some (none, 6) := rfl
theorem sp_9 : S0[9]? = some (some .int, 3) := rfl
theorem sp_10 : S0[10]? = some (some .int, 120) := rfl
theorem sp_11 : S0[11]? = some (some .int, 6) := rfl
theorem sp_12 : S0[12]? = some (some .int, 6) := rfl
theorem sp_13 : S0[13]? = some (some .int, 6) := rfl
theorem sp_14 : S0[14]? = some (some .int, 8) := rfl
theorem sp_15 : S0[15]? = some (some .int, 8) := rfl
theorem sp_16 : S0[16]? = some (some .int, 8) := rfl
theorem sp_17 : S0[17]? = some (some .int, 8) := rfl
theorem sp_18 : S0[18]? = some (none, 7) := rfl
theorem sp_19 : S0[19]? = some (some .int, 1600) := rfl
theorem sp_20 : S0[20]? = some (some .int, 4) := rfl
theorem sp_21 : S0[21]? = some (some .int, 4) := rfl
theorem sp_22 : S0[22]? = some (none, 6) := rfl
theorem sp_23 : S0[23]? = some (some .int, 3) := rfl
theorem sp_24 : S0[24]? = some (some .int, 120) := rfl
theorem sp_25 : S0[25]? = some (some .int, 6) := rfl
theorem sp_26 : S0[26]? = some (some .int, 6) := rfl
theorem sp_27 : S0[27]? = some (some .int, 6) := rfl
theorem sp_28 : S0[28]? = some (some .int, 8) := rfl
theorem sp_29 : S0[29]? = some (some .int, 8) := rfl
theorem sp_30 : S0[30]? = some (some .int, 8) := rfl
theorem sp_31 : S0[31]? = some (some .int, 8) := rfl
theorem sp_32 : S0[32]? = some (none, 7) := rfl
theorem sp_33 : S0[33]? = some (some .int, 1600) := rfl
theorem sp_34 : S0[34]? = some (some .int, 4) := rfl
theorem sp_35 : S0[35]? = some (some .int, 4) := rfl
theorem sp_36 : S0[36]? = some (none, 1) := rfl
theorem sp_37 : S0[37]? = some (some .int, 8) := rfl
theorem sp_38 : S0[38]? = some (some .int, 8) := rfl
theorem sp_39 : S0[39]? = some (none, 1) := rfl
theorem sp_40 : S0[40]? = some (some .int, 8) := rfl
theorem sp_41 : S0[41]? = some (some .int, 8) := rfl
theorem sp_42 : S0[42]? = some (none, 4) := rfl
theorem sp_43 : S0[43]? = some (some .int, 64) := rfl
theorem sp_44 : S0[44]? = some (none, 0) := rfl
theorem sp_45 : S0[45]? = some (some (.object RX1), 20) := rfl
theorem sp_46 : S0[46]? = some (none, 1) := rfl
theorem sp_47 : S0[47]? = some (some .int, 8) := rfl
theorem sp_48 : S0[48]? = some (some .int, 8) := rfl
theorem sp_49 : S0[49]? = some (none, 1) := rfl
theorem sp_50 : S0[50]? = some (some .int, 8) := rfl
theorem sp_51 : S0[51]? = some (some .int, 8) := rfl
theorem sp_52 : S0[52]? = some (none, 1) := rfl
theorem sp_53 : S0[53]? = some (some .int, 8) := rfl
theorem sp_54 : S0[54]? = some (some .int, 8) := rfl
theorem sp_55 : S0[55]? = some (none, 1) := rfl
theorem sp_56 : S0[56]? = some (some .int, 8) := rfl
theorem sp_57 : S0[57]? = some (some .int, 8) := rfl
theorem sp_58 : S0[58]? = some (none, 1) := rfl
theorem sp_59 : S0[59]? = some (some .int, 8) := rfl
theorem sp_60 : S0[60]? = some (some .int, 8) := rfl
theorem sp_61 : S0[61]? = some (none, 1) := rfl
theorem sp_62 : S0[62]? = some (some .int, 8) := rfl
theorem sp_63 : S0[63]? = some (some .int, 8) := rfl
theorem sp_64 : S0[64]? = some (none, 1) := rfl
theorem sp_65 : S0[65]? = some (some .int, 8) := rfl
theorem sp_66 : S0[66]? = some (some .int, 8) := rfl
theorem sp_67 : S0[67]? = some (none, 1) := rfl
theorem sp_68 : S0[68]? = some (some .int, 8) := rfl
theorem sp_69 : S0[69]? = some (some .int, 8) := rfl
theorem sp_70 : S0[70]? = some (none, 1) := rfl
theorem sp_71 : S0[71]? = some (some .int, 8) := rfl
theorem sp_72 : S0[72]? = some (some .int, 8) := rfl
theorem sp_73 : S0[73]? = some (none, 1) := rfl
theorem sp_74 : S0[74]? = some (some .int, 8) := rfl
theorem sp_75 : S0[75]? = some (some .int, 8) := rfl
theorem sp_76 : S0[76]? = some (none, 1) := rfl
theorem sp_77 : S0[77]? = some (some .int, 8) := rfl
theorem sp_78 : S0[78]? = some (some .int, 8) := rfl
theorem sp_79 : S0[79]? = some (none, 1) := rfl
theorem sp_80 : S0[80]? = some (some .int, 8) := rfl
theorem sp_81 : S0[81]? = some (some .int, 8) := rfl
theorem sp_82 : S0[82]? = some (none, 1) := rfl
theorem sp_83 : S0[83]? = some (some .int, 8) := rfl
theorem sp_84 : S0[84]? = some (some .int, 8) := rfl
theorem sp_85 : S0[85]? = some (none, 1) := rfl
theorem sp_86 : S0[86]? = some (some .int, 8) := rfl
theorem sp_87 : S0[87]? = some (some .int, 8) := rfl
theorem sp_88 : S0[88]? = some (none, 1) := rfl
theorem sp_89 : S0[89]? = some (some .int, 8) := rfl
theorem sp_90 : S0[90]? = some (some .int, 8) := rfl
theorem sp_91 : S0[91]? = some (none, 1) := rfl
theorem sp_92 : S0[92]? = some (some .int, 8) := rfl
theorem sp_93 : S0[93]? = some (some .int, 8) := rfl
theorem sp_94 : S0[94]? = some (none, 1) := rfl
theorem sp_95 : S0[95]? = some (some .int, 8) := rfl
theorem sp_96 : S0[96]? = some (some .int, 8) := rfl
theorem sp_97 : S0[97]? = some (none, 1) := rfl
theorem sp_98 : S0[98]? = some (some .int, 8) := rfl
theorem sp_99 : S0[99]? = some (some .int, 8) := rfl
theorem sp_100 : S0[100]? = some (none, 1) := rfl
theorem sp_101 : S0[101]? = some (some .int, 8) := rfl
theorem sp_102 : S0[102]? = some (some .int, 8) := rfl
theorem sp_103 : S0[103]? = some (none, 1) := rfl
theorem sp_104 : S0[104]? = some (some .int, 8) := rfl
theorem sp_105 : S0[105]? = some (some .int, 8) := rfl
theorem sp_106 : S0[106]? = some (none, 5) := rfl
theorem sp_107 : S0[107]? = some (none, 1) := rfl
theorem sp_108 : S0[108]? = some (some .int, 8) := rfl
theorem sp_109 : S0[109]? = some (some .int, 8) := rfl
theorem sp_110 : S0[110]? = some (none, 7) := rfl
theorem sp_111 : S0[111]? = some (some .int, 1600) := rfl
theorem sp_112 : S0[112]? = some (some .int, 4) := rfl
theorem sp_113 : S0[113]? = some (some .int, 4) := rfl
theorem sp_114 : S0[114]? = some (some (.array .int), 40) := rfl
theorem sp_115 : S0[115]? = some (some .int, 4) := rfl
theorem sp_116 : S0[116]? = some (some .int, 4) := rfl
theorem sp_117 : S0[117]? = some (some .int, 4) := rfl
theorem sp_118 : S0[118]? = some (some .int, 4) := rfl
theorem sp_119 : S0[119]? = some (some .int, 4) := rfl
theorem sp_120 : S0[120]? = some (some .int, 4) := rfl
theorem sp_121 : S0[121]? = some (some .int, 4) := rfl
theorem sp_122 : S0[122]? = some (some .int, 4) := rfl
theorem sp_123 : S0[123]? = some (some .int, 4) := rfl
theorem sp_124 : S0[124]? = some (some .int, 4) := rfl
theorem sp_125 : S0[125]? = some (some .int, 4) := rfl
theorem sp_126 : S0[126]? = some (some .int, 4) := rfl
theorem sp_127 : S0[127]? = some (some .int, 4) := rfl
theorem sp_128 : S0[128]? = some (some .int, 4) := rfl
theorem sp_129 : S0[129]? = some (some .int, 4) := rfl
theorem sp_130 : S0[130]? = some (some .int, 4) := rfl
theorem sp_131 : S0[131]? = some (some .int, 4) := rfl
theorem sp_132 : S0[132]? = some (some .int, 4) := rfl
theorem sp_133 : S0[133]? = some (some .int, 4) := rfl
theorem sp_134 : S0[134]? = some (some .int, 4) := rfl
theorem sp_135 : S0[135]? = some (some .int, 4) := rfl
theorem sp_136 : S0[136]? = some (some .int, 4) := rfl
theorem sp_137 : S0[137]? = some (some .int, 4) := rfl
theorem sp_138 : S0[138]? = some (some .int, 4) := rfl
theorem sp_139 : S0[139]? = some (some .int, 4) := rfl
theorem sp_140 : S0[140]? = some (some .int, 4) := rfl
theorem sp_141 : S0[141]? = some (some .int, 4) := rfl
theorem sp_142 : S0[142]? = some (some .int, 4) := rfl
theorem sp_143 : S0[143]? = some (some .int, 4) := rfl
theorem sp_144 : S0[144]? = some (some .int, 4) := rfl
theorem sp_145 : S0[145]? = some (some .int, 4) := rfl
theorem sp_146 : S0[146]? = some (some .int, 4) := rfl
theorem sp_147 : S0[147]? = some (some .int, 4) := rfl
theorem sp_148 : S0[148]? = some (some .int, 4) := rfl
theorem sp_149 : S0[149]? = some (some .int, 4) := rfl
theorem sp_150 : S0[150]? = some (some .int, 4) := rfl
theorem sp_151 : S0[151]? = some (some .int, 4) := rfl
theorem sp_152 : S0[152]? = some (some .int, 4) := rfl
theorem sp_153 : S0[153]? = some (some .int, 4) := rfl
theorem sp_154 : S0[154]? = some (some .int, 4) := rfl
theorem sp_155 : S0[155]? = some (some .int, 39) := rfl
theorem sp_156 : S0[156]? = some (some .int, 6) := rfl
theorem sp_157 : S0[157]? = some (none, 9) := rfl
theorem sp_158 : S0[158]? = some (some .int, 1600) := rfl
theorem sp_159 : S0[159]? = some (some .int, 6) := rfl
theorem sp_160 : S0[160]? = some (some .char, 4) := rfl
theorem sp_161 : S0[161]? = some (some .char, 3) := rfl
theorem sp_162 : S0[162]? = some (some .char, 5) := rfl
theorem sp_163 : S0[163]? = some (some .char, 5) := rfl
theorem sp_164 : S0[164]? = some (some .char, 5) := rfl
theorem sp_165 : S0[165]? = some (some .char, 5) := rfl
theorem sp_166 : S0[166]? = some (some .char, 7) := rfl
theorem sp_167 : S0[167]? = some (some .char, 5) := rfl
theorem sp_168 : S0[168]? = some (some .char, 4) := rfl
theorem sp_169 : S0[169]? = some (some .char, 2) := rfl
theorem sp_170 : S0[170]? = some (some .char, 5) := rfl
theorem sp_171 : S0[171]? = some (some .char, 5) := rfl
theorem sp_172 : S0[172]? = some (some .char, 2) := rfl
theorem sp_173 : S0[173]? = some (some .char, 5) := rfl
theorem sp_174 : S0[174]? = some (some .char, 5) := rfl
theorem sp_175 : S0[175]? = some (some .char, 3) := rfl
theorem sp_176 : S0[176]? = some (some .char, 5) := rfl
theorem sp_177 : S0[177]? = some (some .char, 5) := rfl
theorem sp_178 : S0[178]? = some (some .char, 7) := rfl
theorem sp_179 : S0[179]? = some (some .char, 6) := rfl
theorem sp_180 : S0[180]? = some (some .char, 5) := rfl
theorem sp_181 : S0[181]? = some (some .char, 4) := rfl
theorem sp_182 : S0[182]? = some (some .char, 3) := rfl
theorem sp_183 : S0[183]? = some (some .char, 3) := rfl
theorem sp_184 : S0[184]? = some (some .char, 6) := rfl
theorem sp_185 : S0[185]? = some (some .char, 4) := rfl
theorem sp_186 : S0[186]? = some (some .char, 2) := rfl
theorem sp_187 : S0[187]? = some (some .char, 3) := rfl
theorem sp_188 : S0[188]? = some (some .char, 3) := rfl
theorem sp_189 : S0[189]? = some (some .char, 3) := rfl
theorem sp_190 : S0[190]? = some (some .char, 3) := rfl
theorem sp_191 : S0[191]? = some (some .char, 3) := rfl
theorem sp_192 : S0[192]? = some (some .int, 6) := rfl
theorem sp_193 : S0[193]? = some (some .long, 48) := rfl
theorem sp_194 : S0[194]? = some (some .int, 6) := rfl
theorem sp_195 : S0[195]? = some (some .int, 24) := rfl
theorem sp_196 : S0[196]? = some (some .int, 12) := rfl
theorem sp_197 : S0[197]? = some (some .int, 64) := rfl
theorem sp_198 : S0[198]? = some (some .int, 6) := rfl
theorem sp_199 : S0[199]? = some (some .int, 6) := rfl
theorem sp_200 : S0[200]? = some (some .int, 6) := rfl
theorem sp_201 : S0[201]? = some (some .int, 3200) := rfl
theorem sp_202 : S0[202]? = some (some .int, 188) := rfl
theorem sp_203 : S0[203]? = some (some .int, 188) := rfl
theorem sp_204 : S0[204]? = some (some .long, 8) := rfl
theorem sp_205 : S0[205]? = some (some .int, 8) := rfl
theorem sp_206 : S0[206]? = some (some .int, 10) := rfl
theorem sp_207 : S0[207]? = some (some .int, 3760) := rfl
theorem sp_208 : S0[208]? = some (some .char, 5) := rfl
theorem sp_209 : S0[209]? = some (some .char, 4) := rfl
theorem sp_210 : S0[210]? = some (some .char, 5) := rfl
theorem sp_211 : S0[211]? = some (some .char, 5) := rfl
theorem sp_212 : S0[212]? = some (some .char, 4) := rfl
theorem sp_213 : S0[213]? = some (some .char, 5) := rfl
theorem sp_214 : S0[214]? = some (some .char, 3) := rfl
theorem sp_215 : S0[215]? = some (some .char, 3) := rfl
theorem sp_216 : S0[216]? = some (some .char, 2) := rfl
theorem sp_217 : S0[217]? = some (some .char, 3) := rfl
theorem sp_218 : S0[218]? = some (some .char, 3) := rfl
theorem sp_219 : S0[219]? = some (some .char, 3) := rfl
theorem sp_220 : S0[220]? = some (some .char, 5) := rfl
theorem sp_221 : S0[221]? = some (some .char, 5) := rfl
theorem sp_222 : S0[222]? = some (some .char, 5) := rfl
theorem sp_223 : S0[223]? = some (some .char, 6) := rfl
theorem sp_224 : S0[224]? = some (some .char, 5) := rfl
theorem sp_225 : S0[225]? = some (some .char, 4) := rfl
theorem sp_226 : S0[226]? = some (some .char, 3) := rfl
theorem sp_227 : S0[227]? = some (some .char, 3) := rfl
theorem sp_228 : S0[228]? = some (some .char, 6) := rfl
theorem sp_229 : S0[229]? = some (some .char, 4) := rfl
theorem sp_230 : S0[230]? = some (some .char, 5) := rfl
theorem sp_231 : S0[231]? = some (some .char, 2) := rfl
theorem sp_232 : S0[232]? = some (some .int, 1700) := rfl
theorem sp_233 : S0[233]? = some (some .int, 1700) := rfl
theorem sp_234 : S0[234]? = some (some .long, 1700) := rfl
theorem sp_235 : S0[235]? = some (some .int, 39) := rfl
theorem pr_0_0 {sh : Nat} {su : Option Nat} : aR sh su 0 0 = some 1 := rfl
theorem pr_0_2 {sh : Nat} {su : Option Nat} : aR sh su 0 2 = some 2 := rfl
theorem pr_0_3 {sh : Nat} {su : Option Nat} : aR sh su 0 3 = some sh := rfl
theorem pr_0_4 {sh : Nat} {su : Option Nat} : aR sh su 0 4 = some (30 - sh) := rfl
theorem pr_0_5 {sh : Nat} {su : Option Nat} : aR sh su 0 5 = some 36 := rfl
theorem pr_0_6 {sh : Nat} {su : Option Nat} : aR sh su 0 6 = some 39 := rfl
theorem pr_0_7 {sh : Nat} {su : Option Nat} : aR sh su 0 7 = some 42 := rfl
theorem pr_0_8 {sh : Nat} {su : Option Nat} : aR sh su 0 8 = some 44 := rfl
theorem pr_0_9 {sh : Nat} {su : Option Nat} : aR sh su 0 9 = some 106 := rfl
theorem pr_0_10 {sh : Nat} {su : Option Nat} : aR sh su 0 10 = some 110 := rfl
theorem pr_0_11 {sh : Nat} {su : Option Nat} : aR sh su 0 11 = some 114 := rfl
theorem pr_0_12 {sh : Nat} {su : Option Nat} : aR sh su 0 12 = some 155 := rfl
theorem pr_0_16 {sh : Nat} {su : Option Nat} : aR sh su 0 16 = some 156 := rfl
theorem pr_2_0 {sh : Nat} {su : Option Nat} : aR sh su 2 0 = some 1 := rfl
theorem pr_2_1 {sh : Nat} {su : Option Nat} : aR sh su 2 1 = some 3 := rfl
theorem pr_2_2 {sh : Nat} {su : Option Nat} : aR sh su 2 2 = some 7 := rfl
theorem pr_3_0 {sh : Nat} {su : Option Nat} : aR sh su 3 0 = some 4 := rfl
theorem pr_3_1 {sh : Nat} {su : Option Nat} : aR sh su 3 1 = some 5 := rfl
theorem pr_3_2 {sh : Nat} {su : Option Nat} : aR sh su 3 2 = some 6 := rfl
theorem pr_8_4 {sh : Nat} {su : Option Nat} : aR sh su 8 4 = some 9 := rfl
theorem pr_8_5 {sh : Nat} {su : Option Nat} : aR sh su 8 5 = some 10 := rfl
theorem pr_8_6 {sh : Nat} {su : Option Nat} : aR sh su 8 6 = some 11 := rfl
theorem pr_8_7 {sh : Nat} {su : Option Nat} : aR sh su 8 7 = some 12 := rfl
theorem pr_8_8 {sh : Nat} {su : Option Nat} : aR sh su 8 8 = some 13 := rfl
theorem pr_8_9 {sh : Nat} {su : Option Nat} : aR sh su 8 9 = some 14 := rfl
theorem pr_8_10 {sh : Nat} {su : Option Nat} : aR sh su 8 10 = some 15 := rfl
theorem pr_8_11 {sh : Nat} {su : Option Nat} : aR sh su 8 11 = some 16 := rfl
theorem pr_8_12 {sh : Nat} {su : Option Nat} : aR sh su 8 12 = some 17 := rfl
theorem pr_8_13 {sh : Nat} {su : Option Nat} : aR sh su 8 13 = some 18 := rfl
theorem pr_18_0 {sh : Nat} {su : Option Nat} : aR sh su 18 0 = some 19 := rfl
theorem pr_18_1 {sh : Nat} {su : Option Nat} : aR sh su 18 1 = some 20 := rfl
theorem pr_18_2 {sh : Nat} {su : Option Nat} : aR sh su 18 2 = some 21 := rfl
theorem pr_22_4 {sh : Nat} {su : Option Nat} : aR sh su 22 4 = some 23 := rfl
theorem pr_22_5 {sh : Nat} {su : Option Nat} : aR sh su 22 5 = some 24 := rfl
theorem pr_22_6 {sh : Nat} {su : Option Nat} : aR sh su 22 6 = some 25 := rfl
theorem pr_22_7 {sh : Nat} {su : Option Nat} : aR sh su 22 7 = some 26 := rfl
theorem pr_22_8 {sh : Nat} {su : Option Nat} : aR sh su 22 8 = some 27 := rfl
theorem pr_22_9 {sh : Nat} {su : Option Nat} : aR sh su 22 9 = some 28 := rfl
theorem pr_22_10 {sh : Nat} {su : Option Nat} : aR sh su 22 10 = some 29 := rfl
theorem pr_22_11 {sh : Nat} {su : Option Nat} : aR sh su 22 11 = some 30 := rfl
theorem pr_22_12 {sh : Nat} {su : Option Nat} : aR sh su 22 12 = some 31 := rfl
theorem pr_22_13 {sh : Nat} {su : Option Nat} : aR sh su 22 13 = some 32 := rfl
theorem pr_32_0 {sh : Nat} {su : Option Nat} : aR sh su 32 0 = some 33 := rfl
theorem pr_32_1 {sh : Nat} {su : Option Nat} : aR sh su 32 1 = some 34 := rfl
theorem pr_32_2 {sh : Nat} {su : Option Nat} : aR sh su 32 2 = some 35 := rfl
theorem pr_36_5 {sh : Nat} {su : Option Nat} : aR sh su 36 5 = some 37 := rfl
theorem pr_36_6 {sh : Nat} {su : Option Nat} : aR sh su 36 6 = some 38 := rfl
theorem pr_39_5 {sh : Nat} {su : Option Nat} : aR sh su 39 5 = some 40 := rfl
theorem pr_39_6 {sh : Nat} {su : Option Nat} : aR sh su 39 6 = some 41 := rfl
theorem pr_42_0 {sh : Nat} {su : Option Nat} : aR sh su 42 0 = some sh := rfl
theorem pr_42_2 {sh : Nat} {su : Option Nat} : aR sh su 42 2 = some 43 := rfl
theorem pr_44_0 {sh : Nat} {su : Option Nat} : aR sh su 44 0 = some 45 := rfl
theorem pr_45_0 {sh : Nat} {su : Option Nat} : aR sh su 45 0 = some 46 := rfl
theorem pr_45_1 {sh : Nat} {su : Option Nat} : aR sh su 45 1 = some 49 := rfl
theorem pr_45_2 {sh : Nat} {su : Option Nat} : aR sh su 45 2 = some 52 := rfl
theorem pr_45_3 {sh : Nat} {su : Option Nat} : aR sh su 45 3 = some 55 := rfl
theorem pr_45_4 {sh : Nat} {su : Option Nat} : aR sh su 45 4 = some 58 := rfl
theorem pr_45_5 {sh : Nat} {su : Option Nat} : aR sh su 45 5 = some 61 := rfl
theorem pr_45_6 {sh : Nat} {su : Option Nat} : aR sh su 45 6 = some 64 := rfl
theorem pr_45_7 {sh : Nat} {su : Option Nat} : aR sh su 45 7 = some 67 := rfl
theorem pr_45_8 {sh : Nat} {su : Option Nat} : aR sh su 45 8 = some 70 := rfl
theorem pr_45_9 {sh : Nat} {su : Option Nat} : aR sh su 45 9 = some 73 := rfl
theorem pr_45_10 {sh : Nat} {su : Option Nat} : aR sh su 45 10 = some 76 := rfl
theorem pr_45_11 {sh : Nat} {su : Option Nat} : aR sh su 45 11 = some 79 := rfl
theorem pr_45_12 {sh : Nat} {su : Option Nat} : aR sh su 45 12 = some 82 := rfl
theorem pr_45_13 {sh : Nat} {su : Option Nat} : aR sh su 45 13 = some 85 := rfl
theorem pr_45_14 {sh : Nat} {su : Option Nat} : aR sh su 45 14 = some 88 := rfl
theorem pr_45_15 {sh : Nat} {su : Option Nat} : aR sh su 45 15 = some 91 := rfl
theorem pr_45_16 {sh : Nat} {su : Option Nat} : aR sh su 45 16 = some 94 := rfl
theorem pr_45_17 {sh : Nat} {su : Option Nat} : aR sh su 45 17 = some 97 := rfl
theorem pr_45_18 {sh : Nat} {su : Option Nat} : aR sh su 45 18 = some 100 := rfl
theorem pr_45_19 {sh : Nat} {su : Option Nat} : aR sh su 45 19 = some 103 := rfl
theorem pr_46_5 {sh : Nat} {su : Option Nat} : aR sh su 46 5 = some 47 := rfl
theorem pr_46_6 {sh : Nat} {su : Option Nat} : aR sh su 46 6 = some 48 := rfl
theorem pr_49_5 {sh : Nat} {su : Option Nat} : aR sh su 49 5 = some 50 := rfl
theorem pr_49_6 {sh : Nat} {su : Option Nat} : aR sh su 49 6 = some 51 := rfl
theorem pr_52_5 {sh : Nat} {su : Option Nat} : aR sh su 52 5 = some 53 := rfl
theorem pr_52_6 {sh : Nat} {su : Option Nat} : aR sh su 52 6 = some 54 := rfl
theorem pr_55_5 {sh : Nat} {su : Option Nat} : aR sh su 55 5 = some 56 := rfl
theorem pr_55_6 {sh : Nat} {su : Option Nat} : aR sh su 55 6 = some 57 := rfl
theorem pr_58_5 {sh : Nat} {su : Option Nat} : aR sh su 58 5 = some 59 := rfl
theorem pr_58_6 {sh : Nat} {su : Option Nat} : aR sh su 58 6 = some 60 := rfl
theorem pr_61_5 {sh : Nat} {su : Option Nat} : aR sh su 61 5 = some 62 := rfl
theorem pr_61_6 {sh : Nat} {su : Option Nat} : aR sh su 61 6 = some 63 := rfl
theorem pr_64_5 {sh : Nat} {su : Option Nat} : aR sh su 64 5 = some 65 := rfl
theorem pr_64_6 {sh : Nat} {su : Option Nat} : aR sh su 64 6 = some 66 := rfl
theorem pr_67_5 {sh : Nat} {su : Option Nat} : aR sh su 67 5 = some 68 := rfl
theorem pr_67_6 {sh : Nat} {su : Option Nat} : aR sh su 67 6 = some 69 := rfl
theorem pr_70_5 {sh : Nat} {su : Option Nat} : aR sh su 70 5 = some 71 := rfl
theorem pr_70_6 {sh : Nat} {su : Option Nat} : aR sh su 70 6 = some 72 := rfl
theorem pr_73_5 {sh : Nat} {su : Option Nat} : aR sh su 73 5 = some 74 := rfl
theorem pr_73_6 {sh : Nat} {su : Option Nat} : aR sh su 73 6 = some 75 := rfl
theorem pr_76_5 {sh : Nat} {su : Option Nat} : aR sh su 76 5 = some 77 := rfl
theorem pr_76_6 {sh : Nat} {su : Option Nat} : aR sh su 76 6 = some 78 := rfl
theorem pr_79_5 {sh : Nat} {su : Option Nat} : aR sh su 79 5 = some 80 := rfl
theorem pr_79_6 {sh : Nat} {su : Option Nat} : aR sh su 79 6 = some 81 := rfl
theorem pr_82_5 {sh : Nat} {su : Option Nat} : aR sh su 82 5 = some 83 := rfl
theorem pr_82_6 {sh : Nat} {su : Option Nat} : aR sh su 82 6 = some 84 := rfl
theorem pr_85_5 {sh : Nat} {su : Option Nat} : aR sh su 85 5 = some 86 := rfl
theorem pr_85_6 {sh : Nat} {su : Option Nat} : aR sh su 85 6 = some 87 := rfl
theorem pr_88_5 {sh : Nat} {su : Option Nat} : aR sh su 88 5 = some 89 := rfl
theorem pr_88_6 {sh : Nat} {su : Option Nat} : aR sh su 88 6 = some 90 := rfl
theorem pr_91_5 {sh : Nat} {su : Option Nat} : aR sh su 91 5 = some 92 := rfl
theorem pr_91_6 {sh : Nat} {su : Option Nat} : aR sh su 91 6 = some 93 := rfl
theorem pr_94_5 {sh : Nat} {su : Option Nat} : aR sh su 94 5 = some 95 := rfl
theorem pr_94_6 {sh : Nat} {su : Option Nat} : aR sh su 94 6 = some 96 := rfl
theorem pr_97_5 {sh : Nat} {su : Option Nat} : aR sh su 97 5 = some 98 := rfl
theorem pr_97_6 {sh : Nat} {su : Option Nat} : aR sh su 97 6 = some 99 := rfl
theorem pr_100_5 {sh : Nat} {su : Option Nat} : aR sh su 100 5 = some 101 := rfl
theorem pr_100_6 {sh : Nat} {su : Option Nat} : aR sh su 100 6 = some 102 := rfl
theorem pr_103_5 {sh : Nat} {su : Option Nat} : aR sh su 103 5 = some 104 := rfl
theorem pr_103_6 {sh : Nat} {su : Option Nat} : aR sh su 103 6 = some 105 := rfl
theorem pr_106_0 {sh : Nat} {su : Option Nat} : aR sh su 106 0 = some 107 := rfl
theorem pr_107_5 {sh : Nat} {su : Option Nat} : aR sh su 107 5 = some 108 := rfl
theorem pr_107_6 {sh : Nat} {su : Option Nat} : aR sh su 107 6 = some 109 := rfl
theorem pr_110_0 {sh : Nat} {su : Option Nat} : aR sh su 110 0 = some 111 := rfl
theorem pr_110_1 {sh : Nat} {su : Option Nat} : aR sh su 110 1 = some 112 := rfl
theorem pr_110_2 {sh : Nat} {su : Option Nat} : aR sh su 110 2 = some 113 := rfl
theorem pr_114_0 {sh : Nat} {su : Option Nat} : aR sh su 114 0 = some 115 := rfl
theorem pr_114_1 {sh : Nat} {su : Option Nat} : aR sh su 114 1 = some 116 := rfl
theorem pr_114_2 {sh : Nat} {su : Option Nat} : aR sh su 114 2 = some 117 := rfl
theorem pr_114_3 {sh : Nat} {su : Option Nat} : aR sh su 114 3 = some 118 := rfl
theorem pr_114_4 {sh : Nat} {su : Option Nat} : aR sh su 114 4 = some 119 := rfl
theorem pr_114_5 {sh : Nat} {su : Option Nat} : aR sh su 114 5 = some 120 := rfl
theorem pr_114_6 {sh : Nat} {su : Option Nat} : aR sh su 114 6 = some 121 := rfl
theorem pr_114_7 {sh : Nat} {su : Option Nat} : aR sh su 114 7 = some 122 := rfl
theorem pr_114_8 {sh : Nat} {su : Option Nat} : aR sh su 114 8 = some 123 := rfl
theorem pr_114_9 {sh : Nat} {su : Option Nat} : aR sh su 114 9 = some 124 := rfl
theorem pr_114_10 {sh : Nat} {su : Option Nat} : aR sh su 114 10 = some 125 := rfl
theorem pr_114_11 {sh : Nat} {su : Option Nat} : aR sh su 114 11 = some 126 := rfl
theorem pr_114_12 {sh : Nat} {su : Option Nat} : aR sh su 114 12 = some 127 := rfl
theorem pr_114_13 {sh : Nat} {su : Option Nat} : aR sh su 114 13 = some 128 := rfl
theorem pr_114_14 {sh : Nat} {su : Option Nat} : aR sh su 114 14 = some 129 := rfl
theorem pr_114_15 {sh : Nat} {su : Option Nat} : aR sh su 114 15 = some 130 := rfl
theorem pr_114_16 {sh : Nat} {su : Option Nat} : aR sh su 114 16 = some 131 := rfl
theorem pr_114_17 {sh : Nat} {su : Option Nat} : aR sh su 114 17 = some 132 := rfl
theorem pr_114_18 {sh : Nat} {su : Option Nat} : aR sh su 114 18 = some 133 := rfl
theorem pr_114_19 {sh : Nat} {su : Option Nat} : aR sh su 114 19 = some 134 := rfl
theorem pr_114_20 {sh : Nat} {su : Option Nat} : aR sh su 114 20 = some 135 := rfl
theorem pr_114_21 {sh : Nat} {su : Option Nat} : aR sh su 114 21 = some 136 := rfl
theorem pr_114_22 {sh : Nat} {su : Option Nat} : aR sh su 114 22 = some 137 := rfl
theorem pr_114_23 {sh : Nat} {su : Option Nat} : aR sh su 114 23 = some 138 := rfl
theorem pr_114_24 {sh : Nat} {su : Option Nat} : aR sh su 114 24 = some 139 := rfl
theorem pr_114_25 {sh : Nat} {su : Option Nat} : aR sh su 114 25 = some 140 := rfl
theorem pr_114_26 {sh : Nat} {su : Option Nat} : aR sh su 114 26 = some 141 := rfl
theorem pr_114_27 {sh : Nat} {su : Option Nat} : aR sh su 114 27 = some 142 := rfl
theorem pr_114_28 {sh : Nat} {su : Option Nat} : aR sh su 114 28 = some 143 := rfl
theorem pr_114_29 {sh : Nat} {su : Option Nat} : aR sh su 114 29 = some 144 := rfl
theorem pr_114_30 {sh : Nat} {su : Option Nat} : aR sh su 114 30 = some 145 := rfl
theorem pr_114_31 {sh : Nat} {su : Option Nat} : aR sh su 114 31 = some 146 := rfl
theorem pr_114_32 {sh : Nat} {su : Option Nat} : aR sh su 114 32 = some 147 := rfl
theorem pr_114_33 {sh : Nat} {su : Option Nat} : aR sh su 114 33 = some 148 := rfl
theorem pr_114_34 {sh : Nat} {su : Option Nat} : aR sh su 114 34 = some 149 := rfl
theorem pr_114_35 {sh : Nat} {su : Option Nat} : aR sh su 114 35 = some 150 := rfl
theorem pr_114_36 {sh : Nat} {su : Option Nat} : aR sh su 114 36 = some 151 := rfl
theorem pr_114_37 {sh : Nat} {su : Option Nat} : aR sh su 114 37 = some 152 := rfl
theorem pr_114_38 {sh : Nat} {su : Option Nat} : aR sh su 114 38 = some 153 := rfl
theorem pr_114_39 {sh : Nat} {su : Option Nat} : aR sh su 114 39 = some 154 := rfl
theorem pr_157_0 {sh : Nat} {su : Option Nat} : aR sh su 157 0 = some 158 := rfl
theorem pr_157_9 {sh : Nat} {su : Option Nat} : aR sh su 157 9 = some 159 := rfl
theorem pr_157_11 {sh : Nat} {su : Option Nat} : aR sh su 157 11 = some 160 := rfl
theorem pr_157_12 {sh : Nat} {su : Option Nat} : aR sh su 157 12 = some 161 := rfl
theorem pr_157_13 {sh : Nat} {su : Option Nat} : aR sh su 157 13 = some 162 := rfl
theorem pr_157_14 {sh : Nat} {su : Option Nat} : aR sh su 157 14 = some 163 := rfl
theorem pr_157_15 {sh : Nat} {su : Option Nat} : aR sh su 157 15 = some 164 := rfl
theorem pr_157_16 {sh : Nat} {su : Option Nat} : aR sh su 157 16 = some 165 := rfl
theorem pr_157_17 {sh : Nat} {su : Option Nat} : aR sh su 157 17 = some 166 := rfl
theorem pr_157_18 {sh : Nat} {su : Option Nat} : aR sh su 157 18 = some 167 := rfl
theorem pr_157_19 {sh : Nat} {su : Option Nat} : aR sh su 157 19 = some 168 := rfl
theorem pr_157_20 {sh : Nat} {su : Option Nat} : aR sh su 157 20 = some 169 := rfl
theorem pr_157_21 {sh : Nat} {su : Option Nat} : aR sh su 157 21 = some 170 := rfl
theorem pr_157_22 {sh : Nat} {su : Option Nat} : aR sh su 157 22 = some 171 := rfl
theorem pr_157_23 {sh : Nat} {su : Option Nat} : aR sh su 157 23 = some 172 := rfl
theorem pr_157_24 {sh : Nat} {su : Option Nat} : aR sh su 157 24 = some 173 := rfl
theorem pr_157_25 {sh : Nat} {su : Option Nat} : aR sh su 157 25 = some 174 := rfl
theorem pr_157_26 {sh : Nat} {su : Option Nat} : aR sh su 157 26 = some 175 := rfl
theorem pr_157_27 {sh : Nat} {su : Option Nat} : aR sh su 157 27 = some 176 := rfl
theorem pr_157_28 {sh : Nat} {su : Option Nat} : aR sh su 157 28 = some 177 := rfl
theorem pr_157_29 {sh : Nat} {su : Option Nat} : aR sh su 157 29 = some 178 := rfl
theorem pr_157_30 {sh : Nat} {su : Option Nat} : aR sh su 157 30 = some 179 := rfl
theorem pr_157_31 {sh : Nat} {su : Option Nat} : aR sh su 157 31 = some 180 := rfl
theorem pr_157_32 {sh : Nat} {su : Option Nat} : aR sh su 157 32 = some 181 := rfl
theorem pr_157_33 {sh : Nat} {su : Option Nat} : aR sh su 157 33 = some 182 := rfl
theorem pr_157_34 {sh : Nat} {su : Option Nat} : aR sh su 157 34 = some 183 := rfl
theorem pr_157_35 {sh : Nat} {su : Option Nat} : aR sh su 157 35 = some 184 := rfl
theorem pr_157_36 {sh : Nat} {su : Option Nat} : aR sh su 157 36 = some 185 := rfl
theorem pr_157_37 {sh : Nat} {su : Option Nat} : aR sh su 157 37 = some 186 := rfl
theorem pr_157_38 {sh : Nat} {su : Option Nat} : aR sh su 157 38 = some 187 := rfl
theorem pr_157_39 {sh : Nat} {su : Option Nat} : aR sh su 157 39 = some 188 := rfl
theorem pr_157_40 {sh : Nat} {su : Option Nat} : aR sh su 157 40 = some 189 := rfl
theorem pr_157_41 {sh : Nat} {su : Option Nat} : aR sh su 157 41 = some 190 := rfl
theorem pr_157_42 {sh : Nat} {su : Option Nat} : aR sh su 157 42 = some 191 := rfl
theorem pr_157_44 {sh : Nat} {su : Option Nat} : aR sh su 157 44 = some 192 := rfl
theorem pr_157_45 {sh : Nat} {su : Option Nat} : aR sh su 157 45 = some 193 := rfl
theorem pr_157_46 {sh : Nat} {su : Option Nat} : aR sh su 157 46 = some 194 := rfl
theorem pr_157_47 {sh : Nat} {su : Option Nat} : aR sh su 157 47 = some 195 := rfl
theorem pr_157_48 {sh : Nat} {su : Option Nat} : aR sh su 157 48 = some 196 := rfl
theorem pr_157_49 {sh : Nat} {su : Option Nat} : aR sh su 157 49 = some 197 := rfl
theorem pr_157_50 {sh : Nat} {su : Option Nat} : aR sh su 157 50 = some 198 := rfl
theorem pr_157_51 {sh : Nat} {su : Option Nat} : aR sh su 157 51 = some 199 := rfl
theorem pr_157_52 {sh : Nat} {su : Option Nat} : aR sh su 157 52 = some 200 := rfl
theorem pr_157_53 {sh : Nat} {su : Option Nat} : aR sh su 157 53 = some 201 := rfl
theorem pr_157_58 {sh : Nat} {su : Option Nat} : aR sh su 157 58 = some 202 := rfl
theorem pr_157_59 {sh : Nat} {su : Option Nat} : aR sh su 157 59 = some 203 := rfl
theorem pr_157_60 {sh : Nat} {su : Option Nat} : aR sh su 157 60 = some 204 := rfl
theorem pr_157_62 {sh : Nat} {su : Option Nat} : aR sh su 157 62 = some 205 := rfl
theorem pr_157_66 {sh : Nat} {su : Option Nat} : aR sh su 157 66 = some 206 := rfl
theorem pr_157_69 {sh : Nat} {su : Option Nat} : aR sh su 157 69 = some 207 := rfl
theorem pr_157_73 {sh : Nat} {su : Option Nat} : aR sh su 157 73 = some 208 := rfl
theorem pr_157_74 {sh : Nat} {su : Option Nat} : aR sh su 157 74 = some 209 := rfl
theorem pr_157_75 {sh : Nat} {su : Option Nat} : aR sh su 157 75 = some 210 := rfl
theorem pr_157_76 {sh : Nat} {su : Option Nat} : aR sh su 157 76 = some 211 := rfl
theorem pr_157_77 {sh : Nat} {su : Option Nat} : aR sh su 157 77 = some 212 := rfl
theorem pr_157_78 {sh : Nat} {su : Option Nat} : aR sh su 157 78 = some 213 := rfl
theorem pr_157_79 {sh : Nat} {su : Option Nat} : aR sh su 157 79 = some 214 := rfl
theorem pr_157_80 {sh : Nat} {su : Option Nat} : aR sh su 157 80 = some 215 := rfl
theorem pr_157_81 {sh : Nat} {su : Option Nat} : aR sh su 157 81 = some 216 := rfl
theorem pr_157_82 {sh : Nat} {su : Option Nat} : aR sh su 157 82 = some 217 := rfl
theorem pr_157_83 {sh : Nat} {su : Option Nat} : aR sh su 157 83 = some 218 := rfl
theorem pr_157_84 {sh : Nat} {su : Option Nat} : aR sh su 157 84 = some 219 := rfl
theorem pr_157_85 {sh : Nat} {su : Option Nat} : aR sh su 157 85 = some 220 := rfl
theorem pr_157_86 {sh : Nat} {su : Option Nat} : aR sh su 157 86 = some 221 := rfl
theorem pr_157_87 {sh : Nat} {su : Option Nat} : aR sh su 157 87 = some 222 := rfl
theorem pr_157_88 {sh : Nat} {su : Option Nat} : aR sh su 157 88 = some 223 := rfl
theorem pr_157_89 {sh : Nat} {su : Option Nat} : aR sh su 157 89 = some 224 := rfl
theorem pr_157_90 {sh : Nat} {su : Option Nat} : aR sh su 157 90 = some 225 := rfl
theorem pr_157_91 {sh : Nat} {su : Option Nat} : aR sh su 157 91 = some 226 := rfl
theorem pr_157_92 {sh : Nat} {su : Option Nat} : aR sh su 157 92 = some 227 := rfl
theorem pr_157_93 {sh : Nat} {su : Option Nat} : aR sh su 157 93 = some 228 := rfl
theorem pr_157_94 {sh : Nat} {su : Option Nat} : aR sh su 157 94 = some 229 := rfl
theorem pr_157_95 {sh : Nat} {su : Option Nat} : aR sh su 157 95 = some 230 := rfl
theorem pr_157_96 {sh : Nat} {su : Option Nat} : aR sh su 157 96 = some 231 := rfl
theorem pr_157_97 {sh : Nat} {su : Option Nat} : aR sh su 157 97 = some 232 := rfl
theorem pr_157_99 {sh : Nat} {su : Option Nat} : aR sh su 157 99 = some 233 := rfl
theorem pr_157_103 {sh : Nat} {su : Option Nat} : aR sh su 157 103 = some 234 := rfl
theorem pr_157_107 {sh : Nat} {su : Option Nat} : aR sh su 157 107 = some 235 := rfl
theorem pr_2_3 {sh : Nat} {su : Option Nat} : aR sh su 2 3 = su := rfl
theorem sps_0 {sh : Nat} (h : sh = 8 ∨ sh = 22) : S0[sh]? = some (none, 6) := by rcases h with rfl | rfl <;> rfl
theorem sps_1 {sh : Nat} (h : sh = 8 ∨ sh = 22) : S0[sh + 1]? = some (some .int, 3) := by rcases h with rfl | rfl <;> rfl
theorem sps_2 {sh : Nat} (h : sh = 8 ∨ sh = 22) : S0[sh + 2]? = some (some .int, 120) := by rcases h with rfl | rfl <;> rfl
theorem sps_3 {sh : Nat} (h : sh = 8 ∨ sh = 22) : S0[sh + 3]? = some (some .int, 6) := by rcases h with rfl | rfl <;> rfl
theorem sps_4 {sh : Nat} (h : sh = 8 ∨ sh = 22) : S0[sh + 4]? = some (some .int, 6) := by rcases h with rfl | rfl <;> rfl
theorem sps_5 {sh : Nat} (h : sh = 8 ∨ sh = 22) : S0[sh + 5]? = some (some .int, 6) := by rcases h with rfl | rfl <;> rfl
theorem sps_6 {sh : Nat} (h : sh = 8 ∨ sh = 22) : S0[sh + 6]? = some (some .int, 8) := by rcases h with rfl | rfl <;> rfl
theorem sps_7 {sh : Nat} (h : sh = 8 ∨ sh = 22) : S0[sh + 7]? = some (some .int, 8) := by rcases h with rfl | rfl <;> rfl
theorem sps_8 {sh : Nat} (h : sh = 8 ∨ sh = 22) : S0[sh + 8]? = some (some .int, 8) := by rcases h with rfl | rfl <;> rfl
theorem sps_9 {sh : Nat} (h : sh = 8 ∨ sh = 22) : S0[sh + 9]? = some (some .int, 8) := by rcases h with rfl | rfl <;> rfl
theorem sps_10 {sh : Nat} (h : sh = 8 ∨ sh = 22) : S0[sh + 10]? = some (none, 7) := by rcases h with rfl | rfl <;> rfl
theorem sps_11 {sh : Nat} (h : sh = 8 ∨ sh = 22) : S0[sh + 11]? = some (some .int, 1600) := by rcases h with rfl | rfl <;> rfl
theorem sps_12 {sh : Nat} (h : sh = 8 ∨ sh = 22) : S0[sh + 12]? = some (some .int, 4) := by rcases h with rfl | rfl <;> rfl
theorem sps_13 {sh : Nat} (h : sh = 8 ∨ sh = 22) : S0[sh + 13]? = some (some .int, 4) := by rcases h with rfl | rfl <;> rfl
theorem prs_4 {sh s2 : Nat} {su : Option Nat} (h : sh = 8 ∨ sh = 22) : aR s2 su sh 4 = some (sh + 1) := by rcases h with rfl | rfl <;> rfl
theorem prs_5 {sh s2 : Nat} {su : Option Nat} (h : sh = 8 ∨ sh = 22) : aR s2 su sh 5 = some (sh + 2) := by rcases h with rfl | rfl <;> rfl
theorem prs_6 {sh s2 : Nat} {su : Option Nat} (h : sh = 8 ∨ sh = 22) : aR s2 su sh 6 = some (sh + 3) := by rcases h with rfl | rfl <;> rfl
theorem prs_7 {sh s2 : Nat} {su : Option Nat} (h : sh = 8 ∨ sh = 22) : aR s2 su sh 7 = some (sh + 4) := by rcases h with rfl | rfl <;> rfl
theorem prs_8 {sh s2 : Nat} {su : Option Nat} (h : sh = 8 ∨ sh = 22) : aR s2 su sh 8 = some (sh + 5) := by rcases h with rfl | rfl <;> rfl
theorem prs_9 {sh s2 : Nat} {su : Option Nat} (h : sh = 8 ∨ sh = 22) : aR s2 su sh 9 = some (sh + 6) := by rcases h with rfl | rfl <;> rfl
theorem prs_10 {sh s2 : Nat} {su : Option Nat} (h : sh = 8 ∨ sh = 22) : aR s2 su sh 10 = some (sh + 7) := by rcases h with rfl | rfl <;> rfl
theorem prs_11 {sh s2 : Nat} {su : Option Nat} (h : sh = 8 ∨ sh = 22) : aR s2 su sh 11 = some (sh + 8) := by rcases h with rfl | rfl <;> rfl
theorem prs_12 {sh s2 : Nat} {su : Option Nat} (h : sh = 8 ∨ sh = 22) : aR s2 su sh 12 = some (sh + 9) := by rcases h with rfl | rfl <;> rfl
theorem prs_13 {sh s2 : Nat} {su : Option Nat} (h : sh = 8 ∨ sh = 22) : aR s2 su sh 13 = some (sh + 10) := by rcases h with rfl | rfl <;> rfl
theorem prss_0 {sh s2 : Nat} {su : Option Nat} (h : sh = 8 ∨ sh = 22) : aR s2 su (sh + 10) 0 = some (sh + 11) := by rcases h with rfl | rfl <;> rfl
theorem prss_1 {sh s2 : Nat} {su : Option Nat} (h : sh = 8 ∨ sh = 22) : aR s2 su (sh + 10) 1 = some (sh + 12) := by rcases h with rfl | rfl <;> rfl
theorem prss_2 {sh s2 : Nat} {su : Option Nat} (h : sh = 8 ∨ sh = 22) : aR s2 su (sh + 10) 2 = some (sh + 13) := by rcases h with rfl | rfl <;> rfl
def aLk0 (q : Nat) : Prop := q = 36 ∨ q = 39 ∨ q = 107 ∨ ∃ k : Nat, k < 20 ∧ q = 46 + 3 * k
theorem aLk_past : (List.range 20).all (fun k => decide (S0[46 + 3 * k]? = some (none, 1)) && decide (S0[46 + 3 * k + 1]? = some (some .int, 8)) && decide (S0[46 + 3 * k + 2]? = some (some .int, 8)) && decide (aR 0 none (46 + 3 * k) 5 = some (46 + 3 * k + 1)) && decide (aR 0 none (46 + 3 * k) 6 = some (46 + 3 * k + 2)) && decide (aR 0 none 45 k = some (46 + 3 * k))) = true := by decide +kernel
theorem aRT_same {q : Nat} (h : q ≠ 0 ∧ q ≠ 2 ∧ q ≠ 42) (sh : Nat) (su : Option Nat) : aRT sh su q = aRT 0 none q := by
  simp only [aRT, if_neg h.1, if_neg h.2.1, if_neg h.2.2]
theorem aR_same {q k : Nat} (h : q ≠ 0 ∧ q ≠ 2 ∧ q ≠ 42) (sh : Nat) (su : Option Nat) : aR sh su q k = aR 0 none q k := by
  simp only [aR, aRT_same h]
theorem aLk_all {q : Nat} (h : aLk0 q) : S0[q]? = some (none, 1) ∧ S0[q + 1]? = some (some .int, 8) ∧ S0[q + 2]? = some (some .int, 8) ∧ ∀ (sh : Nat) (su : Option Nat), aR sh su q 5 = some (q + 1) ∧ aR sh su q 6 = some (q + 2) := by
  rcases h with rfl | rfl | rfl | ⟨k, hk, rfl⟩
  · exact ⟨rfl, rfl, rfl, fun _ _ => ⟨rfl, rfl⟩⟩
  · exact ⟨rfl, rfl, rfl, fun _ _ => ⟨rfl, rfl⟩⟩
  · exact ⟨rfl, rfl, rfl, fun _ _ => ⟨rfl, rfl⟩⟩
  · have h1 := List.all_eq_true.mp aLk_past k (List.mem_range.mpr hk)
    simp only [Bool.and_eq_true, decide_eq_true_eq] at h1
    refine ⟨h1.1.1.1.1.1, h1.1.1.1.1.2, h1.1.1.1.2, fun sh su => ?_⟩
    exact ⟨(aR_same (by omega) sh su).trans h1.1.1.2, (aR_same (by omega) sh su).trans h1.1.2⟩
theorem aR_past {k : Nat} (hk : k < 20) (sh : Nat) (su : Option Nat) : aR sh su 45 k = some (46 + 3 * k) := by
  have h1 := List.all_eq_true.mp aLk_past k (List.mem_range.mpr hk)
  simp only [Bool.and_eq_true, decide_eq_true_eq] at h1
  rw [aR_same (by decide)]
  exact h1.2
