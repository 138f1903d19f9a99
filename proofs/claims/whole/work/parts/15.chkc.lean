theorem lk_130 : aLkA 130 = true := by decide +kernel
theorem lk_131 : aLkA 131 = true := by decide +kernel
theorem lk_132 : aLkA 132 = true := by decide +kernel
theorem lk_133 : aLkA 133 = true := by decide +kernel
theorem lk_134 : aLkA 134 = true := by decide +kernel
theorem lk_135 : aLkA 135 = true := by decide +kernel
theorem lk_136 : aLkA 136 = true := by decide +kernel
theorem lk_137 : aLkA 137 = true := by decide +kernel
theorem lk_138 : aLkA 138 = true := by decide +kernel
theorem lk_139 : aLkA 139 = true := by decide +kernel
theorem lk_140 : aLkA 140 = true := by decide +kernel
theorem lk_141 : aLkA 141 = true := by decide +kernel
theorem lk_142 : aLkA 142 = true := by decide +kernel
theorem lk_143 : aLkA 143 = true := by decide +kernel
theorem lk_144 : aLkA 144 = true := by decide +kernel
theorem lk_145 : aLkA 145 = true := by decide +kernel
theorem lk_146 : aLkA 146 = true := by decide +kernel
theorem lk_147 : aLkA 147 = true := by decide +kernel
theorem lk_148 : aLkA 148 = true := by decide +kernel
theorem lk_149 : aLkA 149 = true := by decide +kernel
theorem lk_150 : aLkA 150 = true := by decide +kernel
theorem lk_151 : aLkA 151 = true := by decide +kernel
theorem lk_152 : aLkA 152 = true := by decide +kernel
theorem lk_153 : aLkA 153 = true := by decide +kernel
theorem lk_154 : aLkA 154 = true := by decide +kernel
theorem lk_155 : aLkA 155 = true := by decide +kernel
theorem lk_156 : aLkA 156 = true := by decide +kernel
theorem lk_157 : aLkA 157 = true := by decide +kernel
theorem lk_158 : aLkA 158 = true := by decide +kernel
theorem lk_159 : aLkA 159 = true := by decide +kernel
theorem lk_160 : aLkA 160 = true := by decide +kernel
theorem lk_161 : aLkA 161 = true := by decide +kernel
theorem lk_162 : aLkA 162 = true := by decide +kernel
theorem lk_163 : aLkA 163 = true := by decide +kernel
theorem lk_164 : aLkA 164 = true := by decide +kernel
theorem lk_165 : aLkA 165 = true := by decide +kernel
theorem lk_166 : aLkA 166 = true := by decide +kernel
theorem lk_167 : aLkA 167 = true := by decide +kernel
theorem lk_168 : aLkA 168 = true := by decide +kernel
theorem lk_169 : aLkA 169 = true := by decide +kernel
theorem lk_170 : aLkA 170 = true := by decide +kernel
theorem lk_171 : aLkA 171 = true := by decide +kernel
theorem lk_172 : aLkA 172 = true := by decide +kernel
theorem lk_173 : aLkA 173 = true := by decide +kernel
theorem lk_174 : aLkA 174 = true := by decide +kernel
theorem lk_175 : aLkA 175 = true := by decide +kernel
theorem lk_176 : aLkA 176 = true := by decide +kernel
theorem lk_177 : aLkA 177 = true := by decide +kernel
theorem lk_178 : aLkA 178 = true := by decide +kernel
theorem lk_179 : aLkA 179 = true := by decide +kernel
theorem lk_180 : aLkA 180 = true := by decide +kernel
theorem lk_181 : aLkA 181 = true := by decide +kernel
theorem lk_182 : aLkA 182 = true := by decide +kernel
theorem lk_183 : aLkA 183 = true := by decide +kernel
theorem lk_184 : aLkA 184 = true := by decide +kernel
theorem lk_185 : aLkA 185 = true := by decide +kernel
theorem lk_186 : aLkA 186 = true := by decide +kernel
theorem lk_187 : aLkA 187 = true := by decide +kernel
theorem lk_188 : aLkA 188 = true := by decide +kernel
theorem lk_189 : aLkA 189 = true := by decide +kernel
theorem lk_190 : aLkA 190 = true := by decide +kernel
theorem lk_191 : aLkA 191 = true := by decide +kernel
theorem lk_192 : aLkA 192 = true := by decide +kernel
theorem lk_193 : aLkA 193 = true := by decide +kernel
theorem lk_194 : aLkA 194 = true := by decide +kernel
theorem lk_195 : aLkA 195 = true := by decide +kernel
theorem lk_196 : aLkA 196 = true := by decide +kernel
theorem lk_197 : aLkA 197 = true := by decide +kernel
theorem lk_198 : aLkA 198 = true := by decide +kernel
theorem lk_199 : aLkA 199 = true := by decide +kernel
theorem lk_200 : aLkA 200 = true := by decide +kernel
theorem lk_201 : aLkA 201 = true := by decide +kernel
theorem lk_202 : aLkA 202 = true := by decide +kernel
theorem lk_203 : aLkA 203 = true := by decide +kernel
theorem lk_204 : aLkA 204 = true := by decide +kernel
theorem lk_205 : aLkA 205 = true := by decide +kernel
theorem lk_206 : aLkA 206 = true := by decide +kernel
theorem lk_207 : aLkA 207 = true := by decide +kernel
theorem lk_208 : aLkA 208 = true := by decide +kernel
theorem lk_209 : aLkA 209 = true := by decide +kernel
theorem lk_210 : aLkA 210 = true := by decide +kernel
theorem lk_211 : aLkA 211 = true := by decide +kernel
theorem lk_212 : aLkA 212 = true := by decide +kernel
theorem lk_213 : aLkA 213 = true := by decide +kernel
theorem lk_214 : aLkA 214 = true := by decide +kernel
theorem lk_215 : aLkA 215 = true := by decide +kernel
theorem lk_216 : aLkA 216 = true := by decide +kernel
theorem lk_217 : aLkA 217 = true := by decide +kernel
theorem lk_218 : aLkA 218 = true := by decide +kernel
theorem lk_219 : aLkA 219 = true := by decide +kernel
theorem lk_220 : aLkA 220 = true := by decide +kernel
theorem lk_221 : aLkA 221 = true := by decide +kernel
theorem lk_222 : aLkA 222 = true := by decide +kernel
theorem lk_223 : aLkA 223 = true := by decide +kernel
theorem lk_224 : aLkA 224 = true := by decide +kernel
theorem lk_225 : aLkA 225 = true := by decide +kernel
theorem lk_226 : aLkA 226 = true := by decide +kernel
theorem lk_227 : aLkA 227 = true := by decide +kernel
theorem lk_228 : aLkA 228 = true := by decide +kernel
theorem lk_229 : aLkA 229 = true := by decide +kernel
theorem lk_230 : aLkA 230 = true := by decide +kernel
theorem lk_231 : aLkA 231 = true := by decide +kernel
theorem lk_232 : aLkA 232 = true := by decide +kernel
theorem lk_233 : aLkA 233 = true := by decide +kernel
theorem lk_234 : aLkA 234 = true := by decide +kernel
theorem lk_235 : aLkA 235 = true := by decide +kernel
theorem lk_236 : aLkA 236 = true := by decide +kernel
theorem lk_237 : aLkA 237 = true := by decide +kernel
theorem lk_238 : aLkA 238 = true := by decide +kernel
theorem lk_239 : aLkA 239 = true := by decide +kernel
theorem lk_240 : aLkA 240 = true := by decide +kernel
theorem lk_241 : aLkA 241 = true := by decide +kernel
theorem lk_242 : aLkA 242 = true := by decide +kernel
theorem lk_243 : aLkA 243 = true := by decide +kernel
theorem lk_244 : aLkA 244 = true := by decide +kernel
theorem lk_245 : aLkA 245 = true := by decide +kernel
theorem lk_246 : aLkA 246 = true := by decide +kernel
theorem lk_247 : aLkA 247 = true := by decide +kernel
theorem lk_248 : aLkA 248 = true := by decide +kernel
theorem lk_249 : aLkA 249 = true := by decide +kernel
theorem lk_250 : aLkA 250 = true := by decide +kernel
theorem lk_251 : aLkA 251 = true := by decide +kernel
theorem lk_252 : aLkA 252 = true := by decide +kernel
theorem lk_253 : aLkA 253 = true := by decide +kernel
theorem lk_254 : aLkA 254 = true := by decide +kernel
theorem lk_255 : aLkA 255 = true := by decide +kernel
theorem lk_256 : aLkA 256 = true := by decide +kernel
theorem lk_257 : aLkA 257 = true := by decide +kernel
theorem lk_258 : aLkA 258 = true := by decide +kernel
theorem lk_259_0 : aC_259_0.all (aLk 259) = true := by decide +kernel
theorem lk_259_1 : aC_259_1.all (aLk 259) = true := by decide +kernel
theorem lk_259_2 : aC_259_2.all (aLk 259) = true := by decide +kernel
theorem lk_259_3 : aC_259_3.all (aLk 259) = true := by decide +kernel
theorem lk_259_4 : aC_259_4.all (aLk 259) = true := by decide +kernel
theorem lk_259 : aLkA 259 = true := by
  show (aC_259_0 ++ (aC_259_1 ++ (aC_259_2 ++ (aC_259_3 ++ (aC_259_4))))).all (aLk 259) = true
  simp only [List.all_append, Bool.and_eq_true]
  exact ⟨lk_259_0, ⟨lk_259_1, ⟨lk_259_2, ⟨lk_259_3, lk_259_4⟩⟩⟩⟩
theorem mk_0 : (List.range 10).all (fun i => aMok (0 + i)) = true := by decide +kernel
theorem mk_10 : (List.range 10).all (fun i => aMok (10 + i)) = true := by decide +kernel
theorem mk_20 : (List.range 10).all (fun i => aMok (20 + i)) = true := by decide +kernel
theorem mk_30 : (List.range 10).all (fun i => aMok (30 + i)) = true := by decide +kernel
theorem mk_40 : (List.range 10).all (fun i => aMok (40 + i)) = true := by decide +kernel
theorem mk_50 : (List.range 10).all (fun i => aMok (50 + i)) = true := by decide +kernel
theorem mk_60 : (List.range 10).all (fun i => aMok (60 + i)) = true := by decide +kernel
theorem mk_70 : (List.range 10).all (fun i => aMok (70 + i)) = true := by decide +kernel
theorem mk_80 : (List.range 10).all (fun i => aMok (80 + i)) = true := by decide +kernel
theorem mk_90 : (List.range 10).all (fun i => aMok (90 + i)) = true := by decide +kernel
theorem mk_100 : (List.range 10).all (fun i => aMok (100 + i)) = true := by decide +kernel
theorem mk_110 : (List.range 10).all (fun i => aMok (110 + i)) = true := by decide +kernel
theorem mk_120 : (List.range 10).all (fun i => aMok (120 + i)) = true := by decide +kernel
theorem mk_130 : (List.range 10).all (fun i => aMok (130 + i)) = true := by decide +kernel
theorem mk_140 : (List.range 10).all (fun i => aMok (140 + i)) = true := by decide +kernel
theorem mk_150 : (List.range 10).all (fun i => aMok (150 + i)) = true := by decide +kernel
theorem mk_160 : (List.range 10).all (fun i => aMok (160 + i)) = true := by decide +kernel
theorem mk_170 : (List.range 10).all (fun i => aMok (170 + i)) = true := by decide +kernel
theorem mk_180 : (List.range 10).all (fun i => aMok (180 + i)) = true := by decide +kernel
theorem mk_190 : (List.range 10).all (fun i => aMok (190 + i)) = true := by decide +kernel
theorem mk_200 : (List.range 10).all (fun i => aMok (200 + i)) = true := by decide +kernel
theorem mk_210 : (List.range 10).all (fun i => aMok (210 + i)) = true := by decide +kernel
theorem mk_220 : (List.range 10).all (fun i => aMok (220 + i)) = true := by decide +kernel
theorem mk_230 : (List.range 10).all (fun i => aMok (230 + i)) = true := by decide +kernel
theorem mk_240 : (List.range 10).all (fun i => aMok (240 + i)) = true := by decide +kernel
theorem mk_250 : (List.range 9).all (fun i => aMok (250 + i)) = true := by decide +kernel
theorem aAll_cons {P : Nat → Prop} {n k : Nat} (h : P n) (r : ∀ y, n + 1 ≤ y → y < k → P y) : ∀ y, n ≤ y → y < k → P y := fun y h1 h2 => (Nat.lt_or_ge n y).elim (fun q => r y q h2) (fun q => (Nat.le_antisymm q h1) ▸ h)
theorem aAll_nil {P : Nat → Prop} {k : Nat} : ∀ y, k ≤ y → y < k → P y := fun y h1 h2 => absurd h2 (by omega)
theorem lkg_0 : ∀ y, 0 ≤ y → y < 20 → aLkA y = true := aAll_cons lk_0 (aAll_cons lk_1 (aAll_cons lk_2 (aAll_cons lk_3 (aAll_cons lk_4 (aAll_cons lk_5 (aAll_cons lk_6 (aAll_cons lk_7 (aAll_cons lk_8 (aAll_cons lk_9 (aAll_cons lk_10 (aAll_cons lk_11 (aAll_cons lk_12 (aAll_cons lk_13 (aAll_cons lk_14 (aAll_cons lk_15 (aAll_cons lk_16 (aAll_cons lk_17 (aAll_cons lk_18 (aAll_cons lk_19 (aAll_nil))))))))))))))))))))
theorem lkg_20 : ∀ y, 20 ≤ y → y < 40 → aLkA y = true := aAll_cons lk_20 (aAll_cons lk_21 (aAll_cons lk_22 (aAll_cons lk_23 (aAll_cons lk_24 (aAll_cons lk_25 (aAll_cons lk_26 (aAll_cons lk_27 (aAll_cons lk_28 (aAll_cons lk_29 (aAll_cons lk_30 (aAll_cons lk_31 (aAll_cons lk_32 (aAll_cons lk_33 (aAll_cons lk_34 (aAll_cons lk_35 (aAll_cons lk_36 (aAll_cons lk_37 (aAll_cons lk_38 (aAll_cons lk_39 (aAll_nil))))))))))))))))))))
theorem lkg_40 : ∀ y, 40 ≤ y → y < 60 → aLkA y = true := aAll_cons lk_40 (aAll_cons lk_41 (aAll_cons lk_42 (aAll_cons lk_43 (aAll_cons lk_44 (aAll_cons lk_45 (aAll_cons lk_46 (aAll_cons lk_47 (aAll_cons lk_48 (aAll_cons lk_49 (aAll_cons lk_50 (aAll_cons lk_51 (aAll_cons lk_52 (aAll_cons lk_53 (aAll_cons lk_54 (aAll_cons lk_55 (aAll_cons lk_56 (aAll_cons lk_57 (aAll_cons lk_58 (aAll_cons lk_59 (aAll_nil))))))))))))))))))))
theorem lkg_60 : ∀ y, 60 ≤ y → y < 80 → aLkA y = true := aAll_cons lk_60 (aAll_cons lk_61 (aAll_cons lk_62 (aAll_cons lk_63 (aAll_cons lk_64 (aAll_cons lk_65 (aAll_cons lk_66 (aAll_cons lk_67 (aAll_cons lk_68 (aAll_cons lk_69 (aAll_cons lk_70 (aAll_cons lk_71 (aAll_cons lk_72 (aAll_cons lk_73 (aAll_cons lk_74 (aAll_cons lk_75 (aAll_cons lk_76 (aAll_cons lk_77 (aAll_cons lk_78 (aAll_cons lk_79 (aAll_nil))))))))))))))))))))
theorem lkg_80 : ∀ y, 80 ≤ y → y < 100 → aLkA y = true := aAll_cons lk_80 (aAll_cons lk_81 (aAll_cons lk_82 (aAll_cons lk_83 (aAll_cons lk_84 (aAll_cons lk_85 (aAll_cons lk_86 (aAll_cons lk_87 (aAll_cons lk_88 (aAll_cons lk_89 (aAll_cons lk_90 (aAll_cons lk_91 (aAll_cons lk_92 (aAll_cons lk_93 (aAll_cons lk_94 (aAll_cons lk_95 (aAll_cons lk_96 (aAll_cons lk_97 (aAll_cons lk_98 (aAll_cons lk_99 (aAll_nil))))))))))))))))))))
theorem lkg_100 : ∀ y, 100 ≤ y → y < 120 → aLkA y = true := aAll_cons lk_100 (aAll_cons lk_101 (aAll_cons lk_102 (aAll_cons lk_103 (aAll_cons lk_104 (aAll_cons lk_105 (aAll_cons lk_106 (aAll_cons lk_107 (aAll_cons lk_108 (aAll_cons lk_109 (aAll_cons lk_110 (aAll_cons lk_111 (aAll_cons lk_112 (aAll_cons lk_113 (aAll_cons lk_114 (aAll_cons lk_115 (aAll_cons lk_116 (aAll_cons lk_117 (aAll_cons lk_118 (aAll_cons lk_119 (aAll_nil))))))))))))))))))))
theorem lkg_120 : ∀ y, 120 ≤ y → y < 140 → aLkA y = true := aAll_cons lk_120 (aAll_cons lk_121 (aAll_cons lk_122 (aAll_cons lk_123 (aAll_cons lk_124 (aAll_cons lk_125 (aAll_cons lk_126 (aAll_cons lk_127 (aAll_cons lk_128 (aAll_cons lk_129 (aAll_cons lk_130 (aAll_cons lk_131 (aAll_cons lk_132 (aAll_cons lk_133 (aAll_cons lk_134 (aAll_cons lk_135 (aAll_cons lk_136 (aAll_cons lk_137 (aAll_cons lk_138 (aAll_cons lk_139 (aAll_nil))))))))))))))))))))
theorem lkg_140 : ∀ y, 140 ≤ y → y < 160 → aLkA y = true := aAll_cons lk_140 (aAll_cons lk_141 (aAll_cons lk_142 (aAll_cons lk_143 (aAll_cons lk_144 (aAll_cons lk_145 (aAll_cons lk_146 (aAll_cons lk_147 (aAll_cons lk_148 (aAll_cons lk_149 (aAll_cons lk_150 (aAll_cons lk_151 (aAll_cons lk_152 (aAll_cons lk_153 (aAll_cons lk_154 (aAll_cons lk_155 (aAll_cons lk_156 (aAll_cons lk_157 (aAll_cons lk_158 (aAll_cons lk_159 (aAll_nil))))))))))))))))))))
theorem lkg_160 : ∀ y, 160 ≤ y → y < 180 → aLkA y = true := aAll_cons lk_160 (aAll_cons lk_161 (aAll_cons lk_162 (aAll_cons lk_163 (aAll_cons lk_164 (aAll_cons lk_165 (aAll_cons lk_166 (aAll_cons lk_167 (aAll_cons lk_168 (aAll_cons lk_169 (aAll_cons lk_170 (aAll_cons lk_171 (aAll_cons lk_172 (aAll_cons lk_173 (aAll_cons lk_174 (aAll_cons lk_175 (aAll_cons lk_176 (aAll_cons lk_177 (aAll_cons lk_178 (aAll_cons lk_179 (aAll_nil))))))))))))))))))))
theorem lkg_180 : ∀ y, 180 ≤ y → y < 200 → aLkA y = true := aAll_cons lk_180 (aAll_cons lk_181 (aAll_cons lk_182 (aAll_cons lk_183 (aAll_cons lk_184 (aAll_cons lk_185 (aAll_cons lk_186 (aAll_cons lk_187 (aAll_cons lk_188 (aAll_cons lk_189 (aAll_cons lk_190 (aAll_cons lk_191 (aAll_cons lk_192 (aAll_cons lk_193 (aAll_cons lk_194 (aAll_cons lk_195 (aAll_cons lk_196 (aAll_cons lk_197 (aAll_cons lk_198 (aAll_cons lk_199 (aAll_nil))))))))))))))))))))
theorem lkg_200 : ∀ y, 200 ≤ y → y < 220 → aLkA y = true := aAll_cons lk_200 (aAll_cons lk_201 (aAll_cons lk_202 (aAll_cons lk_203 (aAll_cons lk_204 (aAll_cons lk_205 (aAll_cons lk_206 (aAll_cons lk_207 (aAll_cons lk_208 (aAll_cons lk_209 (aAll_cons lk_210 (aAll_cons lk_211 (aAll_cons lk_212 (aAll_cons lk_213 (aAll_cons lk_214 (aAll_cons lk_215 (aAll_cons lk_216 (aAll_cons lk_217 (aAll_cons lk_218 (aAll_cons lk_219 (aAll_nil))))))))))))))))))))
theorem lkg_220 : ∀ y, 220 ≤ y → y < 240 → aLkA y = true := aAll_cons lk_220 (aAll_cons lk_221 (aAll_cons lk_222 (aAll_cons lk_223 (aAll_cons lk_224 (aAll_cons lk_225 (aAll_cons lk_226 (aAll_cons lk_227 (aAll_cons lk_228 (aAll_cons lk_229 (aAll_cons lk_230 (aAll_cons lk_231 (aAll_cons lk_232 (aAll_cons lk_233 (aAll_cons lk_234 (aAll_cons lk_235 (aAll_cons lk_236 (aAll_cons lk_237 (aAll_cons lk_238 (aAll_cons lk_239 (aAll_nil))))))))))))))))))))
theorem lkg_240 : ∀ y, 240 ≤ y → y < 259 → aLkA y = true := aAll_cons lk_240 (aAll_cons lk_241 (aAll_cons lk_242 (aAll_cons lk_243 (aAll_cons lk_244 (aAll_cons lk_245 (aAll_cons lk_246 (aAll_cons lk_247 (aAll_cons lk_248 (aAll_cons lk_249 (aAll_cons lk_250 (aAll_cons lk_251 (aAll_cons lk_252 (aAll_cons lk_253 (aAll_cons lk_254 (aAll_cons lk_255 (aAll_cons lk_256 (aAll_cons lk_257 (aAll_cons lk_258 (aAll_nil)))))))))))))))))))
theorem aTab1 (y : Nat) (hy : y < 259) : aLkA y = true := by
  rcases Nat.lt_or_ge y 20 with h0 | h0
  · exact lkg_0 y (Nat.zero_le _) h0
  rcases Nat.lt_or_ge y 40 with h20 | h20
  · exact lkg_20 y h0 h20
  rcases Nat.lt_or_ge y 60 with h40 | h40
  · exact lkg_40 y h20 h40
  rcases Nat.lt_or_ge y 80 with h60 | h60
  · exact lkg_60 y h40 h60
  rcases Nat.lt_or_ge y 100 with h80 | h80
  · exact lkg_80 y h60 h80
  rcases Nat.lt_or_ge y 120 with h100 | h100
  · exact lkg_100 y h80 h100
  rcases Nat.lt_or_ge y 140 with h120 | h120
  · exact lkg_120 y h100 h120
  rcases Nat.lt_or_ge y 160 with h140 | h140
  · exact lkg_140 y h120 h140
  rcases Nat.lt_or_ge y 180 with h160 | h160
  · exact lkg_160 y h140 h160
  rcases Nat.lt_or_ge y 200 with h180 | h180
  · exact lkg_180 y h160 h180
  rcases Nat.lt_or_ge y 220 with h200 | h200
  · exact lkg_200 y h180 h200
  rcases Nat.lt_or_ge y 240 with h220 | h220
  · exact lkg_220 y h200 h220
  rcases Nat.lt_or_ge y 259 with h240 | h240
  · exact lkg_240 y h220 h240
  omega
theorem aTab2 (y : Nat) (hy : y < 259) : aMok y = true := by
  rcases Nat.lt_or_ge y 10 with h0 | h0
  · have := List.all_eq_true.mp mk_0 (y - 0) (List.mem_range.mpr (by omega))
    rwa [show 0 + (y - 0) = y by omega] at this
  rcases Nat.lt_or_ge y 20 with h10 | h10
  · have := List.all_eq_true.mp mk_10 (y - 10) (List.mem_range.mpr (by omega))
    rwa [show 10 + (y - 10) = y by omega] at this
  rcases Nat.lt_or_ge y 30 with h20 | h20
  · have := List.all_eq_true.mp mk_20 (y - 20) (List.mem_range.mpr (by omega))
    rwa [show 20 + (y - 20) = y by omega] at this
  rcases Nat.lt_or_ge y 40 with h30 | h30
  · have := List.all_eq_true.mp mk_30 (y - 30) (List.mem_range.mpr (by omega))
    rwa [show 30 + (y - 30) = y by omega] at this
  rcases Nat.lt_or_ge y 50 with h40 | h40
  · have := List.all_eq_true.mp mk_40 (y - 40) (List.mem_range.mpr (by omega))
    rwa [show 40 + (y - 40) = y by omega] at this
  rcases Nat.lt_or_ge y 60 with h50 | h50
  · have := List.all_eq_true.mp mk_50 (y - 50) (List.mem_range.mpr (by omega))
    rwa [show 50 + (y - 50) = y by omega] at this
  rcases Nat.lt_or_ge y 70 with h60 | h60
  · have := List.all_eq_true.mp mk_60 (y - 60) (List.mem_range.mpr (by omega))
    rwa [show 60 + (y - 60) = y by omega] at this
  rcases Nat.lt_or_ge y 80 with h70 | h70
  · have := List.all_eq_true.mp mk_70 (y - 70) (List.mem_range.mpr (by omega))
    rwa [show 70 + (y - 70) = y by omega] at this
  rcases Nat.lt_or_ge y 90 with h80 | h80
  · have := List.all_eq_true.mp mk_80 (y - 80) (List.mem_range.mpr (by omega))
    rwa [show 80 + (y - 80) = y by omega] at this
  rcases Nat.lt_or_ge y 100 with h90 | h90
  · have := List.all_eq_true.mp mk_90 (y - 90) (List.mem_range.mpr (by omega))
    rwa [show 90 + (y - 90) = y by omega] at this
  rcases Nat.lt_or_ge y 110 with h100 | h100
  · have := List.all_eq_true.mp mk_100 (y - 100) (List.mem_range.mpr (by omega))
    rwa [show 100 + (y - 100) = y by omega] at this
  rcases Nat.lt_or_ge y 120 with h110 | h110
  · have := List.all_eq_true.mp mk_110 (y - 110) (List.mem_range.mpr (by omega))
    rwa [show 110 + (y - 110) = y by omega] at this
  rcases Nat.lt_or_ge y 130 with h120 | h120
  · have := List.all_eq_true.mp mk_120 (y - 120) (List.mem_range.mpr (by omega))
    rwa [show 120 + (y - 120) = y by omega] at this
  rcases Nat.lt_or_ge y 140 with h130 | h130
  · have := List.all_eq_true.mp mk_130 (y - 130) (List.mem_range.mpr (by omega))
    rwa [show 130 + (y - 130) = y by omega] at this
  rcases Nat.lt_or_ge y 150 with h140 | h140
  · have := List.all_eq_true.mp mk_140 (y - 140) (List.mem_range.mpr (by omega))
    rwa [show 140 + (y - 140) = y by omega] at this
  rcases Nat.lt_or_ge y 160 with h150 | h150
  · have := List.all_eq_true.mp mk_150 (y - 150) (List.mem_range.mpr (by omega))
    rwa [show 150 + (y - 150) = y by omega] at this
  rcases Nat.lt_or_ge y 170 with h160 | h160
  · have := List.all_eq_true.mp mk_160 (y - 160) (List.mem_range.mpr (by omega))
    rwa [show 160 + (y - 160) = y by omega] at this
  rcases Nat.lt_or_ge y 180 with h170 | h170
  · have := List.all_eq_true.mp mk_170 (y - 170) (List.mem_range.mpr (by omega))
    rwa [show 170 + (y - 170) = y by omega] at this
  rcases Nat.lt_or_ge y 190 with h180 | h180
  · have := List.all_eq_true.mp mk_180 (y - 180) (List.mem_range.mpr (by omega))
    rwa [show 180 + (y - 180) = y by omega] at this
  rcases Nat.lt_or_ge y 200 with h190 | h190
  · have := List.all_eq_true.mp mk_190 (y - 190) (List.mem_range.mpr (by omega))
    rwa [show 190 + (y - 190) = y by omega] at this
  rcases Nat.lt_or_ge y 210 with h200 | h200
  · have := List.all_eq_true.mp mk_200 (y - 200) (List.mem_range.mpr (by omega))
    rwa [show 200 + (y - 200) = y by omega] at this
  rcases Nat.lt_or_ge y 220 with h210 | h210
  · have := List.all_eq_true.mp mk_210 (y - 210) (List.mem_range.mpr (by omega))
    rwa [show 210 + (y - 210) = y by omega] at this
  rcases Nat.lt_or_ge y 230 with h220 | h220
  · have := List.all_eq_true.mp mk_220 (y - 220) (List.mem_range.mpr (by omega))
    rwa [show 220 + (y - 220) = y by omega] at this
  rcases Nat.lt_or_ge y 240 with h230 | h230
  · have := List.all_eq_true.mp mk_230 (y - 230) (List.mem_range.mpr (by omega))
    rwa [show 230 + (y - 230) = y by omega] at this
  rcases Nat.lt_or_ge y 250 with h240 | h240
  · have := List.all_eq_true.mp mk_240 (y - 240) (List.mem_range.mpr (by omega))
    rwa [show 240 + (y - 240) = y by omega] at this
  rcases Nat.lt_or_ge y 259 with h250 | h250
  · have := List.all_eq_true.mp mk_250 (y - 250) (List.mem_range.mpr (by omega))
    rwa [show 250 + (y - 250) = y by omega] at this
  omega
theorem aTab : aTabOk := by
  intro y hy
  refine ⟨?_, ?_⟩
  · exact aTab1 y hy
  · exact aTab2 y hy
