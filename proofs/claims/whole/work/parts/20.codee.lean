/-! the code, row by row (gen19.py) -/
theorem c_230_0 : aCod 230 0 = some (.aload 0, 1) := by decide +kernel
theorem c_230_1 : aCod 230 1 = some (.getfield 2309, 4) := by decide +kernel
theorem c_230_4 : aCod 230 4 = some (.ifCond .ne 122, 7) := by decide +kernel
theorem c_230_7 : aCod 230 7 = some (.aload 0, 8) := by decide +kernel
theorem c_230_8 : aCod 230 8 = some (.invokevirtual 136, 11) := by decide +kernel
theorem c_230_11 : aCod 230 11 = some (.sipush 41, 13) := by decide +kernel
theorem c_230_13 : aCod 230 13 = some (.if_icmp .ne 122, 16) := by decide +kernel
theorem c_230_16 : aCod 230 16 = some (.aload 0, 17) := by decide +kernel
theorem c_230_17 : aCod 230 17 = some (.invokevirtual 223, 20) := by decide +kernel
theorem c_230_20 : aCod 230 20 = some (.sipush 20, 22) := by decide +kernel
theorem c_230_22 : aCod 230 22 = some (.if_icmp .eq 43, 25) := by decide +kernel
theorem c_230_25 : aCod 230 25 = some (.aload 0, 26) := by decide +kernel
theorem c_230_26 : aCod 230 26 = some (.invokevirtual 223, 29) := by decide +kernel
theorem c_230_29 : aCod 230 29 = some (.sipush 23, 31) := by decide +kernel
theorem c_230_31 : aCod 230 31 = some (.if_icmp .eq 43, 34) := by decide +kernel
theorem c_230_34 : aCod 230 34 = some (.aload 0, 35) := by decide +kernel
theorem c_230_35 : aCod 230 35 = some (.invokevirtual 223, 38) := by decide +kernel
theorem c_230_38 : aCod 230 38 = some (.sipush 24, 40) := by decide +kernel
theorem c_230_40 : aCod 230 40 = some (.if_icmp .ne 122, 43) := by decide +kernel
theorem c_230_43 : aCod 230 43 = some (.aload 0, 44) := by decide +kernel
theorem c_230_44 : aCod 230 44 = some (.dup, 45) := by decide +kernel
theorem c_230_45 : aCod 230 45 = some (.getfield 2306, 48) := by decide +kernel
theorem c_230_48 : aCod 230 48 = some (.sipush 1, 49) := by decide +kernel
theorem c_230_49 : aCod 230 49 = some (.iadd, 50) := by decide +kernel
theorem c_230_50 : aCod 230 50 = some (.putfield 2306, 53) := by decide +kernel
theorem c_230_53 : aCod 230 53 = some (.aload 0, 54) := by decide +kernel
theorem c_230_54 : aCod 230 54 = some (.invokevirtual 224, 57) := by decide +kernel
theorem c_230_57 : aCod 230 57 = some (.aload 0, 58) := by decide +kernel
theorem c_230_58 : aCod 230 58 = some (.dup, 59) := by decide +kernel
theorem c_230_59 : aCod 230 59 = some (.getfield 2404, 62) := by decide +kernel
theorem c_230_62 : aCod 230 62 = some (.sipush 1, 63) := by decide +kernel
theorem c_230_63 : aCod 230 63 = some (.isub, 64) := by decide +kernel
theorem c_230_64 : aCod 230 64 = some (.putfield 2404, 67) := by decide +kernel
theorem c_230_67 : aCod 230 67 = some (.aload 0, 68) := by decide +kernel
theorem c_230_68 : aCod 230 68 = some (.dup, 69) := by decide +kernel
theorem c_230_69 : aCod 230 69 = some (.getfield 2405, 72) := by decide +kernel
theorem c_230_72 : aCod 230 72 = some (.sipush 1, 73) := by decide +kernel
theorem c_230_73 : aCod 230 73 = some (.isub, 74) := by decide +kernel
theorem c_230_74 : aCod 230 74 = some (.putfield 2405, 77) := by decide +kernel
theorem c_230_77 : aCod 230 77 = some (.aload 0, 78) := by decide +kernel
theorem c_230_78 : aCod 230 78 = some (.getfield 2403, 81) := by decide +kernel
theorem c_230_81 : aCod 230 81 = some (.aload 0, 82) := by decide +kernel
theorem c_230_82 : aCod 230 82 = some (.getfield 2404, 85) := by decide +kernel
theorem c_230_85 : aCod 230 85 = some (.iaload, 86) := by decide +kernel
theorem c_230_86 : aCod 230 86 = some (.sipush 20, 88) := by decide +kernel
theorem c_230_88 : aCod 230 88 = some (.if_icmp .eq 115, 91) := by decide +kernel
theorem c_230_91 : aCod 230 91 = some (.aload 0, 92) := by decide +kernel
theorem c_230_92 : aCod 230 92 = some (.aload 0, 93) := by decide +kernel
theorem c_230_93 : aCod 230 93 = some (.getfield 2403, 96) := by decide +kernel
theorem c_230_96 : aCod 230 96 = some (.aload 0, 97) := by decide +kernel
theorem c_230_97 : aCod 230 97 = some (.getfield 2404, 100) := by decide +kernel
theorem c_230_100 : aCod 230 100 = some (.iaload, 101) := by decide +kernel
theorem c_230_101 : aCod 230 101 = some (.sipush 23, 103) := by decide +kernel
theorem c_230_103 : aCod 230 103 = some (.if_icmp .ne 110, 106) := by decide +kernel
theorem c_230_106 : aCod 230 106 = some (.sipush 5, 107) := by decide +kernel
theorem c_230_107 : aCod 230 107 = some (.goto 112, 110) := by decide +kernel
theorem c_230_110 : aCod 230 110 = some (.sipush 6, 112) := by decide +kernel
theorem c_230_112 : aCod 230 112 = some (.invokevirtual 218, 115) := by decide +kernel
theorem c_230_115 : aCod 230 115 = some (.aload 0, 116) := by decide +kernel
theorem c_230_116 : aCod 230 116 = some (.invokevirtual 228, 119) := by decide +kernel
theorem c_230_119 : aCod 230 119 = some (.goto 0, 122) := by decide +kernel
theorem c_230_122 : aCod 230 122 = some (.aload 0, 123) := by decide +kernel
theorem c_230_123 : aCod 230 123 = some (.sipush 42, 125) := by decide +kernel
theorem c_230_125 : aCod 230 125 = some (.invokevirtual 140, 128) := by decide +kernel
theorem c_230_128 : aCod 230 128 = some (.ifCond .ne 140, 131) := by decide +kernel
theorem c_230_131 : aCod 230 131 = some (.aload 0, 132) := by decide +kernel
theorem c_230_132 : aCod 230 132 = some (.sipush 47, 134) := by decide +kernel
theorem c_230_134 : aCod 230 134 = some (.invokevirtual 140, 137) := by decide +kernel
theorem c_230_137 : aCod 230 137 = some (.ifCond .eq 207, 140) := by decide +kernel
theorem c_230_140 : aCod 230 140 = some (.aload 0, 141) := by decide +kernel
theorem c_230_141 : aCod 230 141 = some (.getfield 2304, 144) := by decide +kernel
theorem c_230_144 : aCod 230 144 = some (.aload 0, 145) := by decide +kernel
theorem c_230_145 : aCod 230 145 = some (.getfield 2306, 148) := by decide +kernel
theorem c_230_148 : aCod 230 148 = some (.sipush 1, 149) := by decide +kernel
theorem c_230_149 : aCod 230 149 = some (.isub, 150) := by decide +kernel
theorem c_230_150 : aCod 230 150 = some (.iaload, 151) := by decide +kernel
theorem c_230_151 : aCod 230 151 = some (.sipush 42, 153) := by decide +kernel
theorem c_230_153 : aCod 230 153 = some (.if_icmp .ne 160, 156) := by decide +kernel
theorem c_230_156 : aCod 230 156 = some (.sipush 3, 157) := by decide +kernel
theorem c_230_157 : aCod 230 157 = some (.goto 161, 160) := by decide +kernel
theorem c_230_160 : aCod 230 160 = some (.sipush 4, 161) := by decide +kernel
theorem c_230_161 : aCod 230 161 = some (.istore 1, 162) := by decide +kernel
theorem c_230_162 : aCod 230 162 = some (.aload 0, 163) := by decide +kernel
theorem c_230_163 : aCod 230 163 = some (.sipush 3, 164) := by decide +kernel
theorem c_230_164 : aCod 230 164 = some (.invokevirtual 220, 167) := by decide +kernel
theorem c_230_167 : aCod 230 167 = some (.ifCond .ne 178, 170) := by decide +kernel
theorem c_230_170 : aCod 230 170 = some (.aload 0, 171) := by decide +kernel
theorem c_230_171 : aCod 230 171 = some (.sipush 4, 172) := by decide +kernel
theorem c_230_172 : aCod 230 172 = some (.invokevirtual 220, 175) := by decide +kernel
theorem c_230_175 : aCod 230 175 = some (.ifCond .eq 185, 178) := by decide +kernel
theorem c_230_178 : aCod 230 178 = some (.aload 0, 179) := by decide +kernel
theorem c_230_179 : aCod 230 179 = some (.invokevirtual 221, 182) := by decide +kernel
theorem c_230_182 : aCod 230 182 = some (.goto 162, 185) := by decide +kernel
theorem c_230_185 : aCod 230 185 = some (.aload 0, 186) := by decide +kernel
theorem c_230_186 : aCod 230 186 = some (.getfield 2403, 189) := by decide +kernel
theorem c_230_189 : aCod 230 189 = some (.aload 0, 190) := by decide +kernel
theorem c_230_190 : aCod 230 190 = some (.getfield 2404, 193) := by decide +kernel
theorem c_230_193 : aCod 230 193 = some (.iload 1, 194) := by decide +kernel
theorem c_230_194 : aCod 230 194 = some (.iastore, 195) := by decide +kernel
theorem c_230_195 : aCod 230 195 = some (.aload 0, 196) := by decide +kernel
theorem c_230_196 : aCod 230 196 = some (.dup, 197) := by decide +kernel
theorem c_230_197 : aCod 230 197 = some (.getfield 2404, 200) := by decide +kernel
theorem c_230_200 : aCod 230 200 = some (.sipush 1, 201) := by decide +kernel
theorem c_230_201 : aCod 230 201 = some (.iadd, 202) := by decide +kernel
theorem c_230_202 : aCod 230 202 = some (.putfield 2404, 205) := by decide +kernel
theorem c_230_205 : aCod 230 205 = some (.sipush 1, 206) := by decide +kernel
theorem c_230_206 : aCod 230 206 = some (.ireturn, 207) := by decide +kernel
theorem c_230_207 : aCod 230 207 = some (.aload 0, 208) := by decide +kernel
theorem c_230_208 : aCod 230 208 = some (.sipush 43, 210) := by decide +kernel
theorem c_230_210 : aCod 230 210 = some (.invokevirtual 140, 213) := by decide +kernel
theorem c_230_213 : aCod 230 213 = some (.ifCond .ne 225, 216) := by decide +kernel
theorem c_230_216 : aCod 230 216 = some (.aload 0, 217) := by decide +kernel
theorem c_230_217 : aCod 230 217 = some (.sipush 45, 219) := by decide +kernel
theorem c_230_219 : aCod 230 219 = some (.invokevirtual 140, 222) := by decide +kernel
theorem c_230_222 : aCod 230 222 = some (.ifCond .eq 308, 225) := by decide +kernel
theorem c_230_225 : aCod 230 225 = some (.aload 0, 226) := by decide +kernel
theorem c_230_226 : aCod 230 226 = some (.getfield 2304, 229) := by decide +kernel
theorem c_230_229 : aCod 230 229 = some (.aload 0, 230) := by decide +kernel
theorem c_230_230 : aCod 230 230 = some (.getfield 2306, 233) := by decide +kernel
theorem c_230_233 : aCod 230 233 = some (.sipush 1, 234) := by decide +kernel
theorem c_230_234 : aCod 230 234 = some (.isub, 235) := by decide +kernel
theorem c_230_235 : aCod 230 235 = some (.iaload, 236) := by decide +kernel
theorem c_230_236 : aCod 230 236 = some (.sipush 43, 238) := by decide +kernel
theorem c_230_238 : aCod 230 238 = some (.if_icmp .ne 245, 241) := by decide +kernel
theorem c_230_241 : aCod 230 241 = some (.sipush 1, 242) := by decide +kernel
theorem c_230_242 : aCod 230 242 = some (.goto 246, 245) := by decide +kernel
theorem c_230_245 : aCod 230 245 = some (.sipush 2, 246) := by decide +kernel
theorem c_230_246 : aCod 230 246 = some (.istore 1, 247) := by decide +kernel
theorem c_230_247 : aCod 230 247 = some (.aload 0, 248) := by decide +kernel
theorem c_230_248 : aCod 230 248 = some (.sipush 3, 249) := by decide +kernel
theorem c_230_249 : aCod 230 249 = some (.invokevirtual 220, 252) := by decide +kernel
theorem c_230_252 : aCod 230 252 = some (.ifCond .ne 279, 255) := by decide +kernel
theorem c_230_255 : aCod 230 255 = some (.aload 0, 256) := by decide +kernel
theorem c_230_256 : aCod 230 256 = some (.sipush 4, 257) := by decide +kernel
theorem c_230_257 : aCod 230 257 = some (.invokevirtual 220, 260) := by decide +kernel
theorem c_230_260 : aCod 230 260 = some (.ifCond .ne 279, 263) := by decide +kernel
theorem c_230_263 : aCod 230 263 = some (.aload 0, 264) := by decide +kernel
theorem c_230_264 : aCod 230 264 = some (.sipush 1, 265) := by decide +kernel
theorem c_230_265 : aCod 230 265 = some (.invokevirtual 220, 268) := by decide +kernel
theorem c_230_268 : aCod 230 268 = some (.ifCond .ne 279, 271) := by decide +kernel
theorem c_230_271 : aCod 230 271 = some (.aload 0, 272) := by decide +kernel
theorem c_230_272 : aCod 230 272 = some (.sipush 2, 273) := by decide +kernel
theorem c_230_273 : aCod 230 273 = some (.invokevirtual 220, 276) := by decide +kernel
theorem c_230_276 : aCod 230 276 = some (.ifCond .eq 286, 279) := by decide +kernel
theorem c_230_279 : aCod 230 279 = some (.aload 0, 280) := by decide +kernel
theorem c_230_280 : aCod 230 280 = some (.invokevirtual 221, 283) := by decide +kernel
theorem c_230_283 : aCod 230 283 = some (.goto 247, 286) := by decide +kernel
theorem c_230_286 : aCod 230 286 = some (.aload 0, 287) := by decide +kernel
theorem c_230_287 : aCod 230 287 = some (.getfield 2403, 290) := by decide +kernel
theorem c_230_290 : aCod 230 290 = some (.aload 0, 291) := by decide +kernel
theorem c_230_291 : aCod 230 291 = some (.getfield 2404, 294) := by decide +kernel
theorem c_230_294 : aCod 230 294 = some (.iload 1, 295) := by decide +kernel
theorem c_230_295 : aCod 230 295 = some (.iastore, 296) := by decide +kernel
theorem c_230_296 : aCod 230 296 = some (.aload 0, 297) := by decide +kernel
theorem c_230_297 : aCod 230 297 = some (.dup, 298) := by decide +kernel
theorem c_230_298 : aCod 230 298 = some (.getfield 2404, 301) := by decide +kernel
theorem c_230_301 : aCod 230 301 = some (.sipush 1, 302) := by decide +kernel
theorem c_230_302 : aCod 230 302 = some (.iadd, 303) := by decide +kernel
theorem c_230_303 : aCod 230 303 = some (.putfield 2404, 306) := by decide +kernel
theorem c_230_306 : aCod 230 306 = some (.sipush 1, 307) := by decide +kernel
theorem c_230_307 : aCod 230 307 = some (.ireturn, 308) := by decide +kernel
theorem c_230_308 : aCod 230 308 = some (.aload 0, 309) := by decide +kernel
theorem c_230_309 : aCod 230 309 = some (.invokevirtual 223, 312) := by decide +kernel
theorem c_230_312 : aCod 230 312 = some (.sipush 21, 314) := by decide +kernel
theorem c_230_314 : aCod 230 314 = some (.if_icmp .eq 326, 317) := by decide +kernel
theorem c_230_317 : aCod 230 317 = some (.aload 0, 318) := by decide +kernel
theorem c_230_318 : aCod 230 318 = some (.invokevirtual 223, 321) := by decide +kernel
theorem c_230_321 : aCod 230 321 = some (.sipush 22, 323) := by decide +kernel
theorem c_230_323 : aCod 230 323 = some (.if_icmp .ne 362, 326) := by decide +kernel
theorem c_230_326 : aCod 230 326 = some (.aload 0, 327) := by decide +kernel
theorem c_230_327 : aCod 230 327 = some (.sipush 44, 329) := by decide +kernel
theorem c_230_329 : aCod 230 329 = some (.invokevirtual 141, 332) := by decide +kernel
theorem c_230_332 : aCod 230 332 = some (.aload 0, 333) := by decide +kernel
theorem c_230_333 : aCod 230 333 = some (.getfield 2309, 336) := by decide +kernel
theorem c_230_336 : aCod 230 336 = some (.ifCond .eq 341, 339) := by decide +kernel
theorem c_230_339 : aCod 230 339 = some (.sipush 0, 340) := by decide +kernel
theorem c_230_340 : aCod 230 340 = some (.ireturn, 341) := by decide +kernel
theorem c_230_341 : aCod 230 341 = some (.aload 0, 342) := by decide +kernel
theorem c_230_342 : aCod 230 342 = some (.invokevirtual 224, 345) := by decide +kernel
theorem c_230_345 : aCod 230 345 = some (.aload 0, 346) := by decide +kernel
theorem c_230_346 : aCod 230 346 = some (.getfield 2403, 349) := by decide +kernel
theorem c_230_349 : aCod 230 349 = some (.aload 0, 350) := by decide +kernel
theorem c_230_350 : aCod 230 350 = some (.getfield 2404, 353) := by decide +kernel
theorem c_230_353 : aCod 230 353 = some (.sipush 1, 354) := by decide +kernel
theorem c_230_354 : aCod 230 354 = some (.isub, 355) := by decide +kernel
theorem c_230_355 : aCod 230 355 = some (.dup2, 356) := by decide +kernel
theorem c_230_356 : aCod 230 356 = some (.iaload, 357) := by decide +kernel
theorem c_230_357 : aCod 230 357 = some (.sipush 2, 358) := by decide +kernel
theorem c_230_358 : aCod 230 358 = some (.iadd, 359) := by decide +kernel
theorem c_230_359 : aCod 230 359 = some (.iastore, 360) := by decide +kernel
theorem c_230_360 : aCod 230 360 = some (.sipush 1, 361) := by decide +kernel
theorem c_230_361 : aCod 230 361 = some (.ireturn, 362) := by decide +kernel
theorem c_230_362 : aCod 230 362 = some (.aload 0, 363) := by decide +kernel
theorem c_230_363 : aCod 230 363 = some (.invokevirtual 223, 366) := by decide +kernel
theorem c_230_366 : aCod 230 366 = some (.sipush (-1), 367) := by decide +kernel
theorem c_230_367 : aCod 230 367 = some (.if_icmp .eq 386, 370) := by decide +kernel
theorem c_230_370 : aCod 230 370 = some (.aload 0, 371) := by decide +kernel
theorem c_230_371 : aCod 230 371 = some (.getfield 2309, 374) := by decide +kernel
theorem c_230_374 : aCod 230 374 = some (.ifCond .ne 386, 377) := by decide +kernel
theorem c_230_377 : aCod 230 377 = some (.aload 0, 378) := by decide +kernel
theorem c_230_378 : aCod 230 378 = some (.sipush 1, 379) := by decide +kernel
theorem c_230_379 : aCod 230 379 = some (.aload 0, 380) := by decide +kernel
theorem c_230_380 : aCod 230 380 = some (.getfield 2306, 383) := by decide +kernel
theorem c_230_383 : aCod 230 383 = some (.invokevirtual 133, 386) := by decide +kernel
theorem c_230_386 : aCod 230 386 = some (.sipush 0, 387) := by decide +kernel
theorem c_230_387 : aCod 230 387 = some (.ireturn, 388) := by decide +kernel
theorem c_231_0 : aCod 231 0 = some (.aload 0, 1) := by decide +kernel
theorem c_231_1 : aCod 231 1 = some (.getfield 2406, 4) := by decide +kernel
theorem c_231_4 : aCod 231 4 = some (.istore 1, 5) := by decide +kernel
theorem c_231_5 : aCod 231 5 = some (.aload 0, 6) := by decide +kernel
theorem c_231_6 : aCod 231 6 = some (.aload 0, 7) := by decide +kernel
theorem c_231_7 : aCod 231 7 = some (.getfield 2404, 10) := by decide +kernel
theorem c_231_10 : aCod 231 10 = some (.putfield 2406, 13) := by decide +kernel
theorem c_231_13 : aCod 231 13 = some (.sipush 1, 14) := by decide +kernel
theorem c_231_14 : aCod 231 14 = some (.istore 2, 15) := by decide +kernel
theorem c_231_15 : aCod 231 15 = some (.iload 2, 16) := by decide +kernel
theorem c_231_16 : aCod 231 16 = some (.ifCond .eq 53, 19) := by decide +kernel
theorem c_231_19 : aCod 231 19 = some (.aload 0, 20) := by decide +kernel
theorem c_231_20 : aCod 231 20 = some (.getfield 2309, 23) := by decide +kernel
theorem c_231_23 : aCod 231 23 = some (.ifCond .ne 53, 26) := by decide +kernel
theorem c_231_26 : aCod 231 26 = some (.aload 0, 27) := by decide +kernel
theorem c_231_27 : aCod 231 27 = some (.invokevirtual 229, 30) := by decide +kernel
theorem c_231_30 : aCod 231 30 = some (.aload 0, 31) := by decide +kernel
theorem c_231_31 : aCod 231 31 = some (.getfield 2309, 34) := by decide +kernel
theorem c_231_34 : aCod 231 34 = some (.ifCond .ne 48, 37) := by decide +kernel
theorem c_231_37 : aCod 231 37 = some (.aload 0, 38) := by decide +kernel
theorem c_231_38 : aCod 231 38 = some (.invokevirtual 230, 41) := by decide +kernel
theorem c_231_41 : aCod 231 41 = some (.ifCond .eq 48, 44) := by decide +kernel
theorem c_231_44 : aCod 231 44 = some (.sipush 1, 45) := by decide +kernel
theorem c_231_45 : aCod 231 45 = some (.goto 49, 48) := by decide +kernel
theorem c_231_48 : aCod 231 48 = some (.sipush 0, 49) := by decide +kernel
theorem c_231_49 : aCod 231 49 = some (.istore 2, 50) := by decide +kernel
theorem c_231_50 : aCod 231 50 = some (.goto 15, 53) := by decide +kernel
theorem c_231_53 : aCod 231 53 = some (.aload 0, 54) := by decide +kernel
theorem c_231_54 : aCod 231 54 = some (.getfield 2309, 57) := by decide +kernel
theorem c_231_57 : aCod 231 57 = some (.ifCond .ne 78, 60) := by decide +kernel
theorem c_231_60 : aCod 231 60 = some (.aload 0, 61) := by decide +kernel
theorem c_231_61 : aCod 231 61 = some (.getfield 2404, 64) := by decide +kernel
theorem c_231_64 : aCod 231 64 = some (.aload 0, 65) := by decide +kernel
theorem c_231_65 : aCod 231 65 = some (.getfield 2406, 68) := by decide +kernel
theorem c_231_68 : aCod 231 68 = some (.if_icmp .le 78, 71) := by decide +kernel
theorem c_231_71 : aCod 231 71 = some (.aload 0, 72) := by decide +kernel
theorem c_231_72 : aCod 231 72 = some (.invokevirtual 221, 75) := by decide +kernel
theorem c_231_75 : aCod 231 75 = some (.goto 53, 78) := by decide +kernel
theorem c_231_78 : aCod 231 78 = some (.aload 0, 79) := by decide +kernel
theorem c_231_79 : aCod 231 79 = some (.iload 1, 80) := by decide +kernel
theorem c_231_80 : aCod 231 80 = some (.putfield 2406, 83) := by decide +kernel
theorem c_231_83 : aCod 231 83 = some (.return_, 84) := by decide +kernel
theorem c_232_0 : aCod 232 0 = some (.aload 0, 1) := by decide +kernel
theorem c_232_1 : aCod 232 1 = some (.aload 0, 2) := by decide +kernel
theorem c_232_2 : aCod 232 2 = some (.getfield 2386, 5) := by decide +kernel
theorem c_232_5 : aCod 232 5 = some (.invokevirtual 138, 8) := by decide +kernel
theorem c_232_8 : aCod 232 8 = some (.ifCond .eq 18, 11) := by decide +kernel
theorem c_232_11 : aCod 232 11 = some (.aload 0, 12) := by decide +kernel
theorem c_232_12 : aCod 232 12 = some (.sipush 13, 14) := by decide +kernel
theorem c_232_14 : aCod 232 14 = some (.invokevirtual 218, 17) := by decide +kernel
theorem c_232_17 : aCod 232 17 = some (.return_, 18) := by decide +kernel
theorem c_232_18 : aCod 232 18 = some (.aload 0, 19) := by decide +kernel
theorem c_232_19 : aCod 232 19 = some (.invokevirtual 231, 22) := by decide +kernel
theorem c_232_22 : aCod 232 22 = some (.aload 0, 23) := by decide +kernel
theorem c_232_23 : aCod 232 23 = some (.getfield 2309, 26) := by decide +kernel
theorem c_232_26 : aCod 232 26 = some (.ifCond .eq 30, 29) := by decide +kernel
theorem c_232_29 : aCod 232 29 = some (.return_, 30) := by decide +kernel
theorem c_232_30 : aCod 232 30 = some (.aload 0, 31) := by decide +kernel
theorem c_232_31 : aCod 232 31 = some (.invokevirtual 136, 34) := by decide +kernel
theorem c_232_34 : aCod 232 34 = some (.istore 1, 35) := by decide +kernel
theorem c_232_35 : aCod 232 35 = some (.iload 1, 36) := by decide +kernel
theorem c_232_36 : aCod 232 36 = some (.sipush 60, 38) := by decide +kernel
theorem c_232_38 : aCod 232 38 = some (.if_icmp .eq 63, 41) := by decide +kernel
theorem c_232_41 : aCod 232 41 = some (.iload 1, 42) := by decide +kernel
theorem c_232_42 : aCod 232 42 = some (.sipush 62, 44) := by decide +kernel
theorem c_232_44 : aCod 232 44 = some (.if_icmp .eq 63, 47) := by decide +kernel
theorem c_232_47 : aCod 232 47 = some (.iload 1, 48) := by decide +kernel
theorem c_232_48 : aCod 232 48 = some (.sipush 61, 50) := by decide +kernel
theorem c_232_50 : aCod 232 50 = some (.if_icmp .eq 63, 53) := by decide +kernel
theorem c_232_53 : aCod 232 53 = some (.aload 0, 54) := by decide +kernel
theorem c_232_54 : aCod 232 54 = some (.sipush 1, 55) := by decide +kernel
theorem c_232_55 : aCod 232 55 = some (.aload 0, 56) := by decide +kernel
theorem c_232_56 : aCod 232 56 = some (.getfield 2306, 59) := by decide +kernel
theorem c_232_59 : aCod 232 59 = some (.invokevirtual 133, 62) := by decide +kernel
theorem c_232_62 : aCod 232 62 = some (.return_, 63) := by decide +kernel
theorem c_232_63 : aCod 232 63 = some (.aload 0, 64) := by decide +kernel
theorem c_232_64 : aCod 232 64 = some (.dup, 65) := by decide +kernel
theorem c_232_65 : aCod 232 65 = some (.getfield 2306, 68) := by decide +kernel
theorem c_232_68 : aCod 232 68 = some (.sipush 1, 69) := by decide +kernel
theorem c_232_69 : aCod 232 69 = some (.iadd, 70) := by decide +kernel
theorem c_232_70 : aCod 232 70 = some (.putfield 2306, 73) := by decide +kernel
theorem c_232_73 : aCod 232 73 = some (.aload 0, 74) := by decide +kernel
theorem c_232_74 : aCod 232 74 = some (.invokevirtual 231, 77) := by decide +kernel
theorem c_232_77 : aCod 232 77 = some (.aload 0, 78) := by decide +kernel
theorem c_232_78 : aCod 232 78 = some (.iload 1, 79) := by decide +kernel
theorem c_232_79 : aCod 232 79 = some (.sipush 60, 81) := by decide +kernel
theorem c_232_81 : aCod 232 81 = some (.if_icmp .ne 89, 84) := by decide +kernel
theorem c_232_84 : aCod 232 84 = some (.sipush 7, 86) := by decide +kernel
theorem c_232_86 : aCod 232 86 = some (.goto 102, 89) := by decide +kernel
theorem c_232_89 : aCod 232 89 = some (.iload 1, 90) := by decide +kernel
theorem c_232_90 : aCod 232 90 = some (.sipush 62, 92) := by decide +kernel
theorem c_232_92 : aCod 232 92 = some (.if_icmp .ne 100, 95) := by decide +kernel
theorem c_232_95 : aCod 232 95 = some (.sipush 8, 97) := by decide +kernel
theorem c_232_97 : aCod 232 97 = some (.goto 102, 100) := by decide +kernel
theorem c_232_100 : aCod 232 100 = some (.sipush 9, 102) := by decide +kernel
theorem c_232_102 : aCod 232 102 = some (.invokevirtual 218, 105) := by decide +kernel
theorem c_232_105 : aCod 232 105 = some (.return_, 106) := by decide +kernel
theorem c_233_0 : aCod 233 0 = some (.sipush 0, 1) := by decide +kernel
theorem c_233_1 : aCod 233 1 = some (.istore 1, 2) := by decide +kernel
theorem c_233_2 : aCod 233 2 = some (.iload 1, 3) := by decide +kernel
theorem c_233_3 : aCod 233 3 = some (.aload 0, 4) := by decide +kernel
theorem c_233_4 : aCod 233 4 = some (.getfield 2404, 7) := by decide +kernel
theorem c_233_7 : aCod 233 7 = some (.if_icmp .ge 29, 10) := by decide +kernel
theorem c_233_10 : aCod 233 10 = some (.aload 0, 11) := by decide +kernel
theorem c_233_11 : aCod 233 11 = some (.getfield 2403, 14) := by decide +kernel
theorem c_233_14 : aCod 233 14 = some (.iload 1, 15) := by decide +kernel
theorem c_233_15 : aCod 233 15 = some (.iaload, 16) := by decide +kernel
theorem c_233_16 : aCod 233 16 = some (.sipush 25, 18) := by decide +kernel
theorem c_233_18 : aCod 233 18 = some (.if_icmp .ne 23, 21) := by decide +kernel
theorem c_233_21 : aCod 233 21 = some (.sipush 1, 22) := by decide +kernel
theorem c_233_22 : aCod 233 22 = some (.ireturn, 23) := by decide +kernel
theorem c_233_23 : aCod 233 23 = some (.iinc 1 1, 26) := by decide +kernel
theorem c_233_26 : aCod 233 26 = some (.goto 2, 29) := by decide +kernel
theorem c_233_29 : aCod 233 29 = some (.sipush 0, 30) := by decide +kernel
theorem c_233_30 : aCod 233 30 = some (.ireturn, 31) := by decide +kernel
theorem c_234_0 : aCod 234 0 = some (.aload 0, 1) := by decide +kernel
theorem c_234_1 : aCod 234 1 = some (.getfield 2309, 4) := by decide +kernel
theorem c_234_4 : aCod 234 4 = some (.ifCond .ne 33, 7) := by decide +kernel
theorem c_234_7 : aCod 234 7 = some (.aload 0, 8) := by decide +kernel
theorem c_234_8 : aCod 234 8 = some (.sipush 12, 10) := by decide +kernel
theorem c_234_10 : aCod 234 10 = some (.invokevirtual 220, 13) := by decide +kernel
theorem c_234_13 : aCod 234 13 = some (.ifCond .eq 33, 16) := by decide +kernel
theorem c_234_16 : aCod 234 16 = some (.aload 0, 17) := by decide +kernel
theorem c_234_17 : aCod 234 17 = some (.dup, 18) := by decide +kernel
theorem c_234_18 : aCod 234 18 = some (.getfield 2405, 21) := by decide +kernel
theorem c_234_21 : aCod 234 21 = some (.sipush 1, 22) := by decide +kernel
theorem c_234_22 : aCod 234 22 = some (.isub, 23) := by decide +kernel
theorem c_234_23 : aCod 234 23 = some (.putfield 2405, 26) := by decide +kernel
theorem c_234_26 : aCod 234 26 = some (.aload 0, 27) := by decide +kernel
theorem c_234_27 : aCod 234 27 = some (.invokevirtual 221, 30) := by decide +kernel
theorem c_234_30 : aCod 234 30 = some (.goto 0, 33) := by decide +kernel
theorem c_234_33 : aCod 234 33 = some (.return_, 34) := by decide +kernel
theorem c_235_0 : aCod 235 0 = some (.sipush 1, 1) := by decide +kernel
theorem c_235_1 : aCod 235 1 = some (.istore 1, 2) := by decide +kernel
theorem c_235_2 : aCod 235 2 = some (.iload 1, 3) := by decide +kernel
theorem c_235_3 : aCod 235 3 = some (.ifCond .eq 110, 6) := by decide +kernel
theorem c_235_6 : aCod 235 6 = some (.aload 0, 7) := by decide +kernel
theorem c_235_7 : aCod 235 7 = some (.getfield 2309, 10) := by decide +kernel
theorem c_235_10 : aCod 235 10 = some (.ifCond .ne 110, 13) := by decide +kernel
theorem c_235_13 : aCod 235 13 = some (.aload 0, 14) := by decide +kernel
theorem c_235_14 : aCod 235 14 = some (.invokevirtual 136, 17) := by decide +kernel
theorem c_235_17 : aCod 235 17 = some (.istore 2, 18) := by decide +kernel
theorem c_235_18 : aCod 235 18 = some (.iload 2, 19) := by decide +kernel
theorem c_235_19 : aCod 235 19 = some (.sipush 91, 21) := by decide +kernel
theorem c_235_21 : aCod 235 21 = some (.if_icmp .ne 47, 24) := by decide +kernel
theorem c_235_24 : aCod 235 24 = some (.aload 0, 25) := by decide +kernel
theorem c_235_25 : aCod 235 25 = some (.sipush 25, 27) := by decide +kernel
theorem c_235_27 : aCod 235 27 = some (.aload 0, 28) := by decide +kernel
theorem c_235_28 : aCod 235 28 = some (.getfield 2306, 31) := by decide +kernel
theorem c_235_31 : aCod 235 31 = some (.invokevirtual 219, 34) := by decide +kernel
theorem c_235_34 : aCod 235 34 = some (.aload 0, 35) := by decide +kernel
theorem c_235_35 : aCod 235 35 = some (.dup, 36) := by decide +kernel
theorem c_235_36 : aCod 235 36 = some (.getfield 2306, 39) := by decide +kernel
theorem c_235_39 : aCod 235 39 = some (.sipush 1, 40) := by decide +kernel
theorem c_235_40 : aCod 235 40 = some (.iadd, 41) := by decide +kernel
theorem c_235_41 : aCod 235 41 = some (.putfield 2306, 44) := by decide +kernel
theorem c_235_44 : aCod 235 44 = some (.goto 2, 47) := by decide +kernel
theorem c_235_47 : aCod 235 47 = some (.aload 0, 48) := by decide +kernel
theorem c_235_48 : aCod 235 48 = some (.aload 0, 49) := by decide +kernel
theorem c_235_49 : aCod 235 49 = some (.getfield 2383, 52) := by decide +kernel
theorem c_235_52 : aCod 235 52 = some (.invokevirtual 137, 55) := by decide +kernel
theorem c_235_55 : aCod 235 55 = some (.ifCond .eq 79, 58) := by decide +kernel
theorem c_235_58 : aCod 235 58 = some (.aload 0, 59) := by decide +kernel
theorem c_235_59 : aCod 235 59 = some (.sipush 12, 61) := by decide +kernel
theorem c_235_61 : aCod 235 61 = some (.aload 0, 62) := by decide +kernel
theorem c_235_62 : aCod 235 62 = some (.getfield 2306, 65) := by decide +kernel
theorem c_235_65 : aCod 235 65 = some (.invokevirtual 219, 68) := by decide +kernel
theorem c_235_68 : aCod 235 68 = some (.aload 0, 69) := by decide +kernel
theorem c_235_69 : aCod 235 69 = some (.aload 0, 70) := by decide +kernel
theorem c_235_70 : aCod 235 70 = some (.getfield 2383, 73) := by decide +kernel
theorem c_235_73 : aCod 235 73 = some (.invokevirtual 139, 76) := by decide +kernel
theorem c_235_76 : aCod 235 76 = some (.goto 2, 79) := by decide +kernel
theorem c_235_79 : aCod 235 79 = some (.aload 0, 80) := by decide +kernel
theorem c_235_80 : aCod 235 80 = some (.invokevirtual 232, 83) := by decide +kernel
theorem c_235_83 : aCod 235 83 = some (.aload 0, 84) := by decide +kernel
theorem c_235_84 : aCod 235 84 = some (.invokevirtual 234, 87) := by decide +kernel
theorem c_235_87 : aCod 235 87 = some (.aload 0, 88) := by decide +kernel
theorem c_235_88 : aCod 235 88 = some (.getfield 2309, 91) := by decide +kernel
theorem c_235_91 : aCod 235 91 = some (.ifCond .ne 105, 94) := by decide +kernel
theorem c_235_94 : aCod 235 94 = some (.aload 0, 95) := by decide +kernel
theorem c_235_95 : aCod 235 95 = some (.invokevirtual 236, 98) := by decide +kernel
theorem c_235_98 : aCod 235 98 = some (.ifCond .eq 105, 101) := by decide +kernel
theorem c_235_101 : aCod 235 101 = some (.sipush 1, 102) := by decide +kernel
theorem c_235_102 : aCod 235 102 = some (.goto 106, 105) := by decide +kernel
theorem c_235_105 : aCod 235 105 = some (.sipush 0, 106) := by decide +kernel
theorem c_235_106 : aCod 235 106 = some (.istore 1, 107) := by decide +kernel
theorem c_235_107 : aCod 235 107 = some (.goto 2, 110) := by decide +kernel
theorem c_235_110 : aCod 235 110 = some (.aload 0, 111) := by decide +kernel
theorem c_235_111 : aCod 235 111 = some (.getfield 2309, 114) := by decide +kernel
theorem c_235_114 : aCod 235 114 = some (.ifCond .ne 131, 117) := by decide +kernel
theorem c_235_117 : aCod 235 117 = some (.aload 0, 118) := by decide +kernel
theorem c_235_118 : aCod 235 118 = some (.getfield 2404, 121) := by decide +kernel
theorem c_235_121 : aCod 235 121 = some (.ifCond .le 131, 124) := by decide +kernel
theorem c_235_124 : aCod 235 124 = some (.aload 0, 125) := by decide +kernel
theorem c_235_125 : aCod 235 125 = some (.invokevirtual 221, 128) := by decide +kernel
theorem c_235_128 : aCod 235 128 = some (.goto 110, 131) := by decide +kernel
theorem c_235_131 : aCod 235 131 = some (.return_, 132) := by decide +kernel
theorem c_236_0 : aCod 236 0 = some (.aload 0, 1) := by decide +kernel
theorem c_236_1 : aCod 236 1 = some (.getfield 2309, 4) := by decide +kernel
theorem c_236_4 : aCod 236 4 = some (.ifCond .ne 76, 7) := by decide +kernel
theorem c_236_7 : aCod 236 7 = some (.aload 0, 8) := by decide +kernel
theorem c_236_8 : aCod 236 8 = some (.invokevirtual 136, 11) := by decide +kernel
theorem c_236_11 : aCod 236 11 = some (.sipush 93, 13) := by decide +kernel
theorem c_236_13 : aCod 236 13 = some (.if_icmp .ne 76, 16) := by decide +kernel
theorem c_236_16 : aCod 236 16 = some (.aload 0, 17) := by decide +kernel
theorem c_236_17 : aCod 236 17 = some (.invokevirtual 233, 20) := by decide +kernel
theorem c_236_20 : aCod 236 20 = some (.ifCond .eq 76, 23) := by decide +kernel
theorem c_236_23 : aCod 236 23 = some (.aload 0, 24) := by decide +kernel
theorem c_236_24 : aCod 236 24 = some (.dup, 25) := by decide +kernel
theorem c_236_25 : aCod 236 25 = some (.getfield 2306, 28) := by decide +kernel
theorem c_236_28 : aCod 236 28 = some (.sipush 1, 29) := by decide +kernel
theorem c_236_29 : aCod 236 29 = some (.iadd, 30) := by decide +kernel
theorem c_236_30 : aCod 236 30 = some (.putfield 2306, 33) := by decide +kernel
theorem c_236_33 : aCod 236 33 = some (.aload 0, 34) := by decide +kernel
theorem c_236_34 : aCod 236 34 = some (.sipush 25, 36) := by decide +kernel
theorem c_236_36 : aCod 236 36 = some (.invokevirtual 220, 39) := by decide +kernel
theorem c_236_39 : aCod 236 39 = some (.ifCond .ne 49, 42) := by decide +kernel
theorem c_236_42 : aCod 236 42 = some (.aload 0, 43) := by decide +kernel
theorem c_236_43 : aCod 236 43 = some (.invokevirtual 221, 46) := by decide +kernel
theorem c_236_46 : aCod 236 46 = some (.goto 33, 49) := by decide +kernel
theorem c_236_49 : aCod 236 49 = some (.aload 0, 50) := by decide +kernel
theorem c_236_50 : aCod 236 50 = some (.dup, 51) := by decide +kernel
theorem c_236_51 : aCod 236 51 = some (.getfield 2404, 54) := by decide +kernel
theorem c_236_54 : aCod 236 54 = some (.sipush 1, 55) := by decide +kernel
theorem c_236_55 : aCod 236 55 = some (.isub, 56) := by decide +kernel
theorem c_236_56 : aCod 236 56 = some (.putfield 2404, 59) := by decide +kernel
theorem c_236_59 : aCod 236 59 = some (.aload 0, 60) := by decide +kernel
theorem c_236_60 : aCod 236 60 = some (.dup, 61) := by decide +kernel
theorem c_236_61 : aCod 236 61 = some (.getfield 2405, 64) := by decide +kernel
theorem c_236_64 : aCod 236 64 = some (.sipush 1, 65) := by decide +kernel
theorem c_236_65 : aCod 236 65 = some (.isub, 66) := by decide +kernel
theorem c_236_66 : aCod 236 66 = some (.putfield 2405, 69) := by decide +kernel
theorem c_236_69 : aCod 236 69 = some (.aload 0, 70) := by decide +kernel
theorem c_236_70 : aCod 236 70 = some (.invokevirtual 234, 73) := by decide +kernel
theorem c_236_73 : aCod 236 73 = some (.goto 0, 76) := by decide +kernel
theorem c_236_76 : aCod 236 76 = some (.aload 0, 77) := by decide +kernel
theorem c_236_77 : aCod 236 77 = some (.aload 0, 78) := by decide +kernel
theorem c_236_78 : aCod 236 78 = some (.getfield 2384, 81) := by decide +kernel
theorem c_236_81 : aCod 236 81 = some (.invokevirtual 138, 84) := by decide +kernel
theorem c_236_84 : aCod 236 84 = some (.ifCond .eq 126, 87) := by decide +kernel
theorem c_236_87 : aCod 236 87 = some (.aload 0, 88) := by decide +kernel
theorem c_236_88 : aCod 236 88 = some (.sipush 10, 90) := by decide +kernel
theorem c_236_90 : aCod 236 90 = some (.invokevirtual 220, 93) := by decide +kernel
theorem c_236_93 : aCod 236 93 = some (.ifCond .eq 103, 96) := by decide +kernel
theorem c_236_96 : aCod 236 96 = some (.aload 0, 97) := by decide +kernel
theorem c_236_97 : aCod 236 97 = some (.invokevirtual 221, 100) := by decide +kernel
theorem c_236_100 : aCod 236 100 = some (.goto 87, 103) := by decide +kernel
theorem c_236_103 : aCod 236 103 = some (.aload 0, 104) := by decide +kernel
theorem c_236_104 : aCod 236 104 = some (.getfield 2403, 107) := by decide +kernel
theorem c_236_107 : aCod 236 107 = some (.aload 0, 108) := by decide +kernel
theorem c_236_108 : aCod 236 108 = some (.getfield 2404, 111) := by decide +kernel
theorem c_236_111 : aCod 236 111 = some (.sipush 10, 113) := by decide +kernel
theorem c_236_113 : aCod 236 113 = some (.iastore, 114) := by decide +kernel
theorem c_236_114 : aCod 236 114 = some (.aload 0, 115) := by decide +kernel
theorem c_236_115 : aCod 236 115 = some (.dup, 116) := by decide +kernel
theorem c_236_116 : aCod 236 116 = some (.getfield 2404, 119) := by decide +kernel
theorem c_236_119 : aCod 236 119 = some (.sipush 1, 120) := by decide +kernel
theorem c_236_120 : aCod 236 120 = some (.iadd, 121) := by decide +kernel
theorem c_236_121 : aCod 236 121 = some (.putfield 2404, 124) := by decide +kernel
theorem c_236_124 : aCod 236 124 = some (.sipush 1, 125) := by decide +kernel
theorem c_236_125 : aCod 236 125 = some (.ireturn, 126) := by decide +kernel
theorem c_236_126 : aCod 236 126 = some (.aload 0, 127) := by decide +kernel
theorem c_236_127 : aCod 236 127 = some (.aload 0, 128) := by decide +kernel
theorem c_236_128 : aCod 236 128 = some (.getfield 2385, 131) := by decide +kernel
theorem c_236_131 : aCod 236 131 = some (.invokevirtual 138, 134) := by decide +kernel
theorem c_236_134 : aCod 236 134 = some (.ifCond .eq 185, 137) := by decide +kernel
theorem c_236_137 : aCod 236 137 = some (.aload 0, 138) := by decide +kernel
theorem c_236_138 : aCod 236 138 = some (.sipush 10, 140) := by decide +kernel
theorem c_236_140 : aCod 236 140 = some (.invokevirtual 220, 143) := by decide +kernel
theorem c_236_143 : aCod 236 143 = some (.ifCond .ne 155, 146) := by decide +kernel
theorem c_236_146 : aCod 236 146 = some (.aload 0, 147) := by decide +kernel
theorem c_236_147 : aCod 236 147 = some (.sipush 11, 149) := by decide +kernel
theorem c_236_149 : aCod 236 149 = some (.invokevirtual 220, 152) := by decide +kernel
theorem c_236_152 : aCod 236 152 = some (.ifCond .eq 162, 155) := by decide +kernel
theorem c_236_155 : aCod 236 155 = some (.aload 0, 156) := by decide +kernel
theorem c_236_156 : aCod 236 156 = some (.invokevirtual 221, 159) := by decide +kernel
theorem c_236_159 : aCod 236 159 = some (.goto 137, 162) := by decide +kernel
theorem c_236_162 : aCod 236 162 = some (.aload 0, 163) := by decide +kernel
theorem c_236_163 : aCod 236 163 = some (.getfield 2403, 166) := by decide +kernel
theorem c_236_166 : aCod 236 166 = some (.aload 0, 167) := by decide +kernel
theorem c_236_167 : aCod 236 167 = some (.getfield 2404, 170) := by decide +kernel
theorem c_236_170 : aCod 236 170 = some (.sipush 11, 172) := by decide +kernel
theorem c_236_172 : aCod 236 172 = some (.iastore, 173) := by decide +kernel
theorem c_236_173 : aCod 236 173 = some (.aload 0, 174) := by decide +kernel
theorem c_236_174 : aCod 236 174 = some (.dup, 175) := by decide +kernel
theorem c_236_175 : aCod 236 175 = some (.getfield 2404, 178) := by decide +kernel
theorem c_236_178 : aCod 236 178 = some (.sipush 1, 179) := by decide +kernel
theorem c_236_179 : aCod 236 179 = some (.iadd, 180) := by decide +kernel
theorem c_236_180 : aCod 236 180 = some (.putfield 2404, 183) := by decide +kernel
theorem c_236_183 : aCod 236 183 = some (.sipush 1, 184) := by decide +kernel
theorem c_236_184 : aCod 236 184 = some (.ireturn, 185) := by decide +kernel
theorem c_236_185 : aCod 236 185 = some (.aload 0, 186) := by decide +kernel
theorem c_236_186 : aCod 236 186 = some (.getfield 2309, 189) := by decide +kernel
theorem c_236_189 : aCod 236 189 = some (.ifCond .ne 208, 192) := by decide +kernel
theorem c_236_192 : aCod 236 192 = some (.aload 0, 193) := by decide +kernel
theorem c_236_193 : aCod 236 193 = some (.invokevirtual 233, 196) := by decide +kernel
theorem c_236_196 : aCod 236 196 = some (.ifCond .eq 208, 199) := by decide +kernel
theorem c_236_199 : aCod 236 199 = some (.aload 0, 200) := by decide +kernel
theorem c_236_200 : aCod 236 200 = some (.sipush 1, 201) := by decide +kernel
theorem c_236_201 : aCod 236 201 = some (.aload 0, 202) := by decide +kernel
theorem c_236_202 : aCod 236 202 = some (.getfield 2306, 205) := by decide +kernel
theorem c_236_205 : aCod 236 205 = some (.invokevirtual 133, 208) := by decide +kernel
theorem c_236_208 : aCod 236 208 = some (.sipush 0, 209) := by decide +kernel
theorem c_236_209 : aCod 236 209 = some (.ireturn, 210) := by decide +kernel
theorem c_237_0 : aCod 237 0 = some (.lload 0, 1) := by decide +kernel
theorem c_237_1 : aCod 237 1 = some (.goto_w 1000000, 4) := by decide +kernel
theorem c_237_4 : aCod 237 4 = some (.lcmp, 5) := by decide +kernel
theorem c_237_5 : aCod 237 5 = some (.ifCond .le 14, 8) := by decide +kernel
theorem c_237_8 : aCod 237 8 = some (.goto_w 1000000, 11) := by decide +kernel
theorem c_237_11 : aCod 237 11 = some (.goto 29, 14) := by decide +kernel
theorem c_237_14 : aCod 237 14 = some (.lload 0, 15) := by decide +kernel
theorem c_237_15 : aCod 237 15 = some (.goto_w (-1000000), 18) := by decide +kernel
theorem c_237_18 : aCod 237 18 = some (.lcmp, 19) := by decide +kernel
theorem c_237_19 : aCod 237 19 = some (.ifCond .ge 28, 22) := by decide +kernel
theorem c_237_22 : aCod 237 22 = some (.goto_w (-1000000), 25) := by decide +kernel
theorem c_237_25 : aCod 237 25 = some (.goto 29, 28) := by decide +kernel
theorem c_237_28 : aCod 237 28 = some (.lload 0, 29) := by decide +kernel
theorem c_237_29 : aCod 237 29 = some (.lreturn, 30) := by decide +kernel
theorem c_238_0 : aCod 238 0 = some (.lload 2, 1) := by decide +kernel
theorem c_238_1 : aCod 238 1 = some (.goto_w 0, 2) := by decide +kernel
theorem c_238_2 : aCod 238 2 = some (.lcmp, 3) := by decide +kernel
theorem c_238_3 : aCod 238 3 = some (.ifCond .ne 8, 6) := by decide +kernel
theorem c_238_6 : aCod 238 6 = some (.goto_w 0, 7) := by decide +kernel
theorem c_238_7 : aCod 238 7 = some (.lreturn, 8) := by decide +kernel
theorem c_238_8 : aCod 238 8 = some (.lload 0, 9) := by decide +kernel
theorem c_238_9 : aCod 238 9 = some (.lload 2, 10) := by decide +kernel
theorem c_238_10 : aCod 238 10 = some (.ldiv, 11) := by decide +kernel
theorem c_238_11 : aCod 238 11 = some (.lstore 4, 13) := by decide +kernel
theorem c_238_13 : aCod 238 13 = some (.lload 0, 14) := by decide +kernel
theorem c_238_14 : aCod 238 14 = some (.lload 2, 15) := by decide +kernel
theorem c_238_15 : aCod 238 15 = some (.lrem, 16) := by decide +kernel
theorem c_238_16 : aCod 238 16 = some (.goto_w 0, 17) := by decide +kernel
theorem c_238_17 : aCod 238 17 = some (.lcmp, 18) := by decide +kernel
theorem c_238_18 : aCod 238 18 = some (.ifCond .eq 53, 21) := by decide +kernel
theorem c_238_21 : aCod 238 21 = some (.lload 0, 22) := by decide +kernel
theorem c_238_22 : aCod 238 22 = some (.goto_w 0, 23) := by decide +kernel
theorem c_238_23 : aCod 238 23 = some (.lcmp, 24) := by decide +kernel
theorem c_238_24 : aCod 238 24 = some (.ifCond .ge 31, 27) := by decide +kernel
theorem c_238_27 : aCod 238 27 = some (.sipush 1, 28) := by decide +kernel
theorem c_238_28 : aCod 238 28 = some (.goto 32, 31) := by decide +kernel
theorem c_238_31 : aCod 238 31 = some (.sipush 0, 32) := by decide +kernel
theorem c_238_32 : aCod 238 32 = some (.lload 2, 33) := by decide +kernel
theorem c_238_33 : aCod 238 33 = some (.goto_w 0, 34) := by decide +kernel
theorem c_238_34 : aCod 238 34 = some (.lcmp, 35) := by decide +kernel
theorem c_238_35 : aCod 238 35 = some (.ifCond .ge 42, 38) := by decide +kernel
theorem c_238_38 : aCod 238 38 = some (.sipush 1, 39) := by decide +kernel
theorem c_238_39 : aCod 238 39 = some (.goto 43, 42) := by decide +kernel
theorem c_238_42 : aCod 238 42 = some (.sipush 0, 43) := by decide +kernel
theorem c_238_43 : aCod 238 43 = some (.if_icmp .eq 53, 46) := by decide +kernel
theorem c_238_46 : aCod 238 46 = some (.lload 4, 48) := by decide +kernel
theorem c_238_48 : aCod 238 48 = some (.goto_w 1, 49) := by decide +kernel
theorem c_238_49 : aCod 238 49 = some (.lsub, 50) := by decide +kernel
theorem c_238_50 : aCod 238 50 = some (.goto 55, 53) := by decide +kernel
theorem c_238_53 : aCod 238 53 = some (.lload 4, 55) := by decide +kernel
theorem c_238_55 : aCod 238 55 = some (.lreturn, 56) := by decide +kernel
theorem c_239_0 : aCod 239 0 = some (.aload 0, 1) := by decide +kernel
theorem c_239_1 : aCod 239 1 = some (.getfield 2407, 4) := by decide +kernel
theorem c_239_4 : aCod 239 4 = some (.aload 0, 5) := by decide +kernel
theorem c_239_5 : aCod 239 5 = some (.getfield 2408, 8) := by decide +kernel
theorem c_239_8 : aCod 239 8 = some (.lload 1, 9) := by decide +kernel
theorem c_239_9 : aCod 239 9 = some (.lastore, 10) := by decide +kernel
theorem c_239_10 : aCod 239 10 = some (.aload 0, 11) := by decide +kernel
theorem c_239_11 : aCod 239 11 = some (.dup, 12) := by decide +kernel
theorem c_239_12 : aCod 239 12 = some (.getfield 2408, 15) := by decide +kernel
theorem c_239_15 : aCod 239 15 = some (.sipush 1, 16) := by decide +kernel
theorem c_239_16 : aCod 239 16 = some (.iadd, 17) := by decide +kernel
theorem c_239_17 : aCod 239 17 = some (.putfield 2408, 20) := by decide +kernel
theorem c_239_20 : aCod 239 20 = some (.return_, 21) := by decide +kernel
theorem c_240_0 : aCod 240 0 = some (.aload 0, 1) := by decide +kernel
theorem c_240_1 : aCod 240 1 = some (.getfield 2407, 4) := by decide +kernel
theorem c_240_4 : aCod 240 4 = some (.aload 0, 5) := by decide +kernel
theorem c_240_5 : aCod 240 5 = some (.getfield 2408, 8) := by decide +kernel
theorem c_240_8 : aCod 240 8 = some (.sipush 1, 9) := by decide +kernel
theorem c_240_9 : aCod 240 9 = some (.isub, 10) := by decide +kernel
theorem c_240_10 : aCod 240 10 = some (.laload, 11) := by decide +kernel
theorem c_240_11 : aCod 240 11 = some (.lstore 2, 12) := by decide +kernel
theorem c_240_12 : aCod 240 12 = some (.aload 0, 13) := by decide +kernel
theorem c_240_13 : aCod 240 13 = some (.getfield 2407, 16) := by decide +kernel
theorem c_240_16 : aCod 240 16 = some (.aload 0, 17) := by decide +kernel
theorem c_240_17 : aCod 240 17 = some (.getfield 2408, 20) := by decide +kernel
theorem c_240_20 : aCod 240 20 = some (.sipush 2, 21) := by decide +kernel
theorem c_240_21 : aCod 240 21 = some (.isub, 22) := by decide +kernel
theorem c_240_22 : aCod 240 22 = some (.laload, 23) := by decide +kernel
theorem c_240_23 : aCod 240 23 = some (.lstore 4, 25) := by decide +kernel
theorem c_240_25 : aCod 240 25 = some (.aload 0, 26) := by decide +kernel
theorem c_240_26 : aCod 240 26 = some (.dup, 27) := by decide +kernel
theorem c_240_27 : aCod 240 27 = some (.getfield 2408, 30) := by decide +kernel
theorem c_240_30 : aCod 240 30 = some (.sipush 2, 31) := by decide +kernel
theorem c_240_31 : aCod 240 31 = some (.isub, 32) := by decide +kernel
theorem c_240_32 : aCod 240 32 = some (.putfield 2408, 35) := by decide +kernel
theorem c_240_35 : aCod 240 35 = some (.iload 1, 36) := by decide +kernel
theorem c_240_36 : aCod 240 36 = some (.tableswitch 255 1 10 #[92, 106, 120, 134, 147, 167, 187, 206, 225, 244], 92) := by decide +kernel
theorem c_240_92 : aCod 240 92 = some (.aload 0, 93) := by decide +kernel
theorem c_240_93 : aCod 240 93 = some (.lload 4, 95) := by decide +kernel
theorem c_240_95 : aCod 240 95 = some (.lload 2, 96) := by decide +kernel
theorem c_240_96 : aCod 240 96 = some (.ladd, 97) := by decide +kernel
theorem c_240_97 : aCod 240 97 = some (.invokestatic 237, 100) := by decide +kernel
theorem c_240_100 : aCod 240 100 = some (.invokevirtual 239, 103) := by decide +kernel
theorem c_240_103 : aCod 240 103 = some (.goto 273, 106) := by decide +kernel
theorem c_240_106 : aCod 240 106 = some (.aload 0, 107) := by decide +kernel
theorem c_240_107 : aCod 240 107 = some (.lload 4, 109) := by decide +kernel
theorem c_240_109 : aCod 240 109 = some (.lload 2, 110) := by decide +kernel
theorem c_240_110 : aCod 240 110 = some (.lsub, 111) := by decide +kernel
theorem c_240_111 : aCod 240 111 = some (.invokestatic 237, 114) := by decide +kernel
theorem c_240_114 : aCod 240 114 = some (.invokevirtual 239, 117) := by decide +kernel
theorem c_240_117 : aCod 240 117 = some (.goto 273, 120) := by decide +kernel
theorem c_240_120 : aCod 240 120 = some (.aload 0, 121) := by decide +kernel
theorem c_240_121 : aCod 240 121 = some (.lload 4, 123) := by decide +kernel
theorem c_240_123 : aCod 240 123 = some (.lload 2, 124) := by decide +kernel
theorem c_240_124 : aCod 240 124 = some (.lmul, 125) := by decide +kernel
theorem c_240_125 : aCod 240 125 = some (.invokestatic 237, 128) := by decide +kernel
theorem c_240_128 : aCod 240 128 = some (.invokevirtual 239, 131) := by decide +kernel
theorem c_240_131 : aCod 240 131 = some (.goto 273, 134) := by decide +kernel
theorem c_240_134 : aCod 240 134 = some (.aload 0, 135) := by decide +kernel
theorem c_240_135 : aCod 240 135 = some (.lload 4, 137) := by decide +kernel
theorem c_240_137 : aCod 240 137 = some (.lload 2, 138) := by decide +kernel
theorem c_240_138 : aCod 240 138 = some (.invokestatic 238, 141) := by decide +kernel
theorem c_240_141 : aCod 240 141 = some (.invokevirtual 239, 144) := by decide +kernel
theorem c_240_144 : aCod 240 144 = some (.goto 273, 147) := by decide +kernel
theorem c_240_147 : aCod 240 147 = some (.aload 0, 148) := by decide +kernel
theorem c_240_148 : aCod 240 148 = some (.lload 4, 150) := by decide +kernel
theorem c_240_150 : aCod 240 150 = some (.lload 2, 151) := by decide +kernel
theorem c_240_151 : aCod 240 151 = some (.lcmp, 152) := by decide +kernel
theorem c_240_152 : aCod 240 152 = some (.ifCond .ge 160, 155) := by decide +kernel
theorem c_240_155 : aCod 240 155 = some (.lload 4, 157) := by decide +kernel
theorem c_240_157 : aCod 240 157 = some (.goto 161, 160) := by decide +kernel
theorem c_240_160 : aCod 240 160 = some (.lload 2, 161) := by decide +kernel
theorem c_240_161 : aCod 240 161 = some (.invokevirtual 239, 164) := by decide +kernel
theorem c_240_164 : aCod 240 164 = some (.goto 273, 167) := by decide +kernel
theorem c_240_167 : aCod 240 167 = some (.aload 0, 168) := by decide +kernel
theorem c_240_168 : aCod 240 168 = some (.lload 4, 170) := by decide +kernel
theorem c_240_170 : aCod 240 170 = some (.lload 2, 171) := by decide +kernel
theorem c_240_171 : aCod 240 171 = some (.lcmp, 172) := by decide +kernel
theorem c_240_172 : aCod 240 172 = some (.ifCond .le 180, 175) := by decide +kernel
theorem c_240_175 : aCod 240 175 = some (.lload 4, 177) := by decide +kernel
theorem c_240_177 : aCod 240 177 = some (.goto 181, 180) := by decide +kernel
theorem c_240_180 : aCod 240 180 = some (.lload 2, 181) := by decide +kernel
theorem c_240_181 : aCod 240 181 = some (.invokevirtual 239, 184) := by decide +kernel
theorem c_240_184 : aCod 240 184 = some (.goto 273, 187) := by decide +kernel
theorem c_240_187 : aCod 240 187 = some (.aload 0, 188) := by decide +kernel
theorem c_240_188 : aCod 240 188 = some (.lload 4, 190) := by decide +kernel
theorem c_240_190 : aCod 240 190 = some (.lload 2, 191) := by decide +kernel
theorem c_240_191 : aCod 240 191 = some (.lcmp, 192) := by decide +kernel
theorem c_240_192 : aCod 240 192 = some (.ifCond .ge 199, 195) := by decide +kernel
theorem c_240_195 : aCod 240 195 = some (.goto_w 1, 196) := by decide +kernel
theorem c_240_196 : aCod 240 196 = some (.goto 200, 199) := by decide +kernel
theorem c_240_199 : aCod 240 199 = some (.goto_w 0, 200) := by decide +kernel
theorem c_240_200 : aCod 240 200 = some (.invokevirtual 239, 203) := by decide +kernel
theorem c_240_203 : aCod 240 203 = some (.goto 273, 206) := by decide +kernel
theorem c_240_206 : aCod 240 206 = some (.aload 0, 207) := by decide +kernel
theorem c_240_207 : aCod 240 207 = some (.lload 4, 209) := by decide +kernel
theorem c_240_209 : aCod 240 209 = some (.lload 2, 210) := by decide +kernel
theorem c_240_210 : aCod 240 210 = some (.lcmp, 211) := by decide +kernel
theorem c_240_211 : aCod 240 211 = some (.ifCond .le 218, 214) := by decide +kernel
theorem c_240_214 : aCod 240 214 = some (.goto_w 1, 215) := by decide +kernel
theorem c_240_215 : aCod 240 215 = some (.goto 219, 218) := by decide +kernel
theorem c_240_218 : aCod 240 218 = some (.goto_w 0, 219) := by decide +kernel
theorem c_240_219 : aCod 240 219 = some (.invokevirtual 239, 222) := by decide +kernel
theorem c_240_222 : aCod 240 222 = some (.goto 273, 225) := by decide +kernel
theorem c_240_225 : aCod 240 225 = some (.aload 0, 226) := by decide +kernel
theorem c_240_226 : aCod 240 226 = some (.lload 4, 228) := by decide +kernel
theorem c_240_228 : aCod 240 228 = some (.lload 2, 229) := by decide +kernel
theorem c_240_229 : aCod 240 229 = some (.lcmp, 230) := by decide +kernel
theorem c_240_230 : aCod 240 230 = some (.ifCond .ne 237, 233) := by decide +kernel
theorem c_240_233 : aCod 240 233 = some (.goto_w 1, 234) := by decide +kernel
theorem c_240_234 : aCod 240 234 = some (.goto 238, 237) := by decide +kernel
theorem c_240_237 : aCod 240 237 = some (.goto_w 0, 238) := by decide +kernel
theorem c_240_238 : aCod 240 238 = some (.invokevirtual 239, 241) := by decide +kernel
theorem c_240_241 : aCod 240 241 = some (.goto 273, 244) := by decide +kernel
theorem c_240_244 : aCod 240 244 = some (.aload 0, 245) := by decide +kernel
theorem c_240_245 : aCod 240 245 = some (.lload 4, 247) := by decide +kernel
theorem c_240_247 : aCod 240 247 = some (.lload 2, 248) := by decide +kernel
theorem c_240_248 : aCod 240 248 = some (.lmul, 249) := by decide +kernel
theorem c_240_249 : aCod 240 249 = some (.invokevirtual 239, 252) := by decide +kernel
theorem c_240_252 : aCod 240 252 = some (.goto 273, 255) := by decide +kernel
theorem c_240_255 : aCod 240 255 = some (.aload 0, 256) := by decide +kernel
theorem c_240_256 : aCod 240 256 = some (.lload 4, 258) := by decide +kernel
theorem c_240_258 : aCod 240 258 = some (.lload 2, 259) := by decide +kernel
theorem c_240_259 : aCod 240 259 = some (.ladd, 260) := by decide +kernel
theorem c_240_260 : aCod 240 260 = some (.goto_w 0, 261) := by decide +kernel
theorem c_240_261 : aCod 240 261 = some (.lcmp, 262) := by decide +kernel
theorem c_240_262 : aCod 240 262 = some (.ifCond .le 269, 265) := by decide +kernel
theorem c_240_265 : aCod 240 265 = some (.goto_w 1, 266) := by decide +kernel
theorem c_240_266 : aCod 240 266 = some (.goto 270, 269) := by decide +kernel
theorem c_240_269 : aCod 240 269 = some (.goto_w 0, 270) := by decide +kernel
theorem c_240_270 : aCod 240 270 = some (.invokevirtual 239, 273) := by decide +kernel
theorem c_240_273 : aCod 240 273 = some (.return_, 274) := by decide +kernel
theorem c_241_0 : aCod 241 0 = some (.iload 1, 1) := by decide +kernel
theorem c_241_1 : aCod 241 1 = some (.tableswitch 153 0 9 #[56, 71, 86, 107, 115, 123, 129, 136, 143, 146], 56) := by decide +kernel
theorem c_241_56 : aCod 241 56 = some (.aload 0, 57) := by decide +kernel
theorem c_241_57 : aCod 241 57 = some (.getfield 2353, 60) := by decide +kernel
theorem c_241_60 : aCod 241 60 = some (.sipush 32, 62) := by decide +kernel
theorem c_241_62 : aCod 241 62 = some (.sipush 4, 63) := by decide +kernel
theorem c_241_63 : aCod 241 63 = some (.iload 2, 64) := by decide +kernel
theorem c_241_64 : aCod 241 64 = some (.imul, 65) := by decide +kernel
theorem c_241_65 : aCod 241 65 = some (.iadd, 66) := by decide +kernel
theorem c_241_66 : aCod 241 66 = some (.sipush 1, 67) := by decide +kernel
theorem c_241_67 : aCod 241 67 = some (.iadd, 68) := by decide +kernel
theorem c_241_68 : aCod 241 68 = some (.iaload, 69) := by decide +kernel
theorem c_241_69 : aCod 241 69 = some (.i2l, 70) := by decide +kernel
theorem c_241_70 : aCod 241 70 = some (.lreturn, 71) := by decide +kernel
theorem c_241_71 : aCod 241 71 = some (.aload 0, 72) := by decide +kernel
theorem c_241_72 : aCod 241 72 = some (.getfield 2353, 75) := by decide +kernel
theorem c_241_75 : aCod 241 75 = some (.sipush 32, 77) := by decide +kernel
theorem c_241_77 : aCod 241 77 = some (.sipush 4, 78) := by decide +kernel
theorem c_241_78 : aCod 241 78 = some (.iload 2, 79) := by decide +kernel
theorem c_241_79 : aCod 241 79 = some (.imul, 80) := by decide +kernel
theorem c_241_80 : aCod 241 80 = some (.iadd, 81) := by decide +kernel
theorem c_241_81 : aCod 241 81 = some (.sipush 2, 82) := by decide +kernel
theorem c_241_82 : aCod 241 82 = some (.iadd, 83) := by decide +kernel
theorem c_241_83 : aCod 241 83 = some (.iaload, 84) := by decide +kernel
theorem c_241_84 : aCod 241 84 = some (.i2l, 85) := by decide +kernel
theorem c_241_85 : aCod 241 85 = some (.lreturn, 86) := by decide +kernel
theorem c_241_86 : aCod 241 86 = some (.aload 0, 87) := by decide +kernel
theorem c_241_87 : aCod 241 87 = some (.getfield 2352, 90) := by decide +kernel
theorem c_241_90 : aCod 241 90 = some (.sipush 6, 92) := by decide +kernel
theorem c_241_92 : aCod 241 92 = some (.aload 0, 93) := by decide +kernel
theorem c_241_93 : aCod 241 93 = some (.getfield 2353, 96) := by decide +kernel
theorem c_241_96 : aCod 241 96 = some (.sipush 32, 98) := by decide +kernel
theorem c_241_98 : aCod 241 98 = some (.sipush 4, 99) := by decide +kernel
theorem c_241_99 : aCod 241 99 = some (.iload 2, 100) := by decide +kernel
theorem c_241_100 : aCod 241 100 = some (.imul, 101) := by decide +kernel
theorem c_241_101 : aCod 241 101 = some (.iadd, 102) := by decide +kernel
theorem c_241_102 : aCod 241 102 = some (.iaload, 103) := by decide +kernel
theorem c_241_103 : aCod 241 103 = some (.iadd, 104) := by decide +kernel
theorem c_241_104 : aCod 241 104 = some (.iaload, 105) := by decide +kernel
theorem c_241_105 : aCod 241 105 = some (.i2l, 106) := by decide +kernel
theorem c_241_106 : aCod 241 106 = some (.lreturn, 107) := by decide +kernel
theorem c_241_107 : aCod 241 107 = some (.aload 0, 108) := by decide +kernel
theorem c_241_108 : aCod 241 108 = some (.getfield 2362, 111) := by decide +kernel
theorem c_241_111 : aCod 241 111 = some (.sipush 0, 112) := by decide +kernel
theorem c_241_112 : aCod 241 112 = some (.iaload, 113) := by decide +kernel
theorem c_241_113 : aCod 241 113 = some (.i2l, 114) := by decide +kernel
theorem c_241_114 : aCod 241 114 = some (.lreturn, 115) := by decide +kernel
theorem c_241_115 : aCod 241 115 = some (.aload 0, 116) := by decide +kernel
theorem c_241_116 : aCod 241 116 = some (.getfield 2362, 119) := by decide +kernel
theorem c_241_119 : aCod 241 119 = some (.sipush 1, 120) := by decide +kernel
theorem c_241_120 : aCod 241 120 = some (.iaload, 121) := by decide +kernel
theorem c_241_121 : aCod 241 121 = some (.i2l, 122) := by decide +kernel
theorem c_241_122 : aCod 241 122 = some (.lreturn, 123) := by decide +kernel
theorem c_241_123 : aCod 241 123 = some (.aload 0, 124) := by decide +kernel
theorem c_241_124 : aCod 241 124 = some (.invokevirtual 169, 127) := by decide +kernel
theorem c_241_127 : aCod 241 127 = some (.i2l, 128) := by decide +kernel
theorem c_241_128 : aCod 241 128 = some (.lreturn, 129) := by decide +kernel
theorem c_241_129 : aCod 241 129 = some (.aload 0, 130) := by decide +kernel
theorem c_241_130 : aCod 241 130 = some (.iload 2, 131) := by decide +kernel
theorem c_241_131 : aCod 241 131 = some (.invokevirtual 164, 134) := by decide +kernel
theorem c_241_134 : aCod 241 134 = some (.i2l, 135) := by decide +kernel
theorem c_241_135 : aCod 241 135 = some (.lreturn, 136) := by decide +kernel
theorem c_241_136 : aCod 241 136 = some (.aload 0, 137) := by decide +kernel
theorem c_241_137 : aCod 241 137 = some (.iload 2, 138) := by decide +kernel
theorem c_241_138 : aCod 241 138 = some (.invokevirtual 165, 141) := by decide +kernel
theorem c_241_141 : aCod 241 141 = some (.i2l, 142) := by decide +kernel
theorem c_241_142 : aCod 241 142 = some (.lreturn, 143) := by decide +kernel
theorem c_241_143 : aCod 241 143 = some (.iload 2, 144) := by decide +kernel
theorem c_241_144 : aCod 241 144 = some (.i2l, 145) := by decide +kernel
theorem c_241_145 : aCod 241 145 = some (.lreturn, 146) := by decide +kernel
theorem c_241_146 : aCod 241 146 = some (.aload 0, 147) := by decide +kernel
theorem c_241_147 : aCod 241 147 = some (.iload 2, 148) := by decide +kernel
theorem c_241_148 : aCod 241 148 = some (.invokevirtual 166, 151) := by decide +kernel
theorem c_241_151 : aCod 241 151 = some (.i2l, 152) := by decide +kernel
theorem c_241_152 : aCod 241 152 = some (.lreturn, 153) := by decide +kernel
theorem c_241_153 : aCod 241 153 = some (.aload 0, 154) := by decide +kernel
theorem c_241_154 : aCod 241 154 = some (.getfield 2364, 157) := by decide +kernel
theorem c_241_157 : aCod 241 157 = some (.iload 2, 158) := by decide +kernel
theorem c_241_158 : aCod 241 158 = some (.laload, 159) := by decide +kernel
theorem c_241_159 : aCod 241 159 = some (.lreturn, 160) := by decide +kernel
theorem c_242_0 : aCod 242 0 = some (.iload 1, 1) := by decide +kernel
theorem c_242_1 : aCod 242 1 = some (.lookupswitch 12 #[], 12) := by decide +kernel
theorem c_242_12 : aCod 242 12 = some (.lload 2, 13) := by decide +kernel
theorem c_242_13 : aCod 242 13 = some (.aload 0, 14) := by decide +kernel
theorem c_242_14 : aCod 242 14 = some (.getfield 2353, 17) := by decide +kernel
theorem c_242_17 : aCod 242 17 = some (.sipush 32, 19) := by decide +kernel
theorem c_242_19 : aCod 242 19 = some (.sipush 4, 20) := by decide +kernel
theorem c_242_20 : aCod 242 20 = some (.iload 4, 22) := by decide +kernel
theorem c_242_22 : aCod 242 22 = some (.imul, 23) := by decide +kernel
theorem c_242_23 : aCod 242 23 = some (.iadd, 24) := by decide +kernel
theorem c_242_24 : aCod 242 24 = some (.iaload, 25) := by decide +kernel
theorem c_242_25 : aCod 242 25 = some (.i2l, 26) := by decide +kernel
theorem c_242_26 : aCod 242 26 = some (.lcmp, 27) := by decide +kernel
theorem c_242_27 : aCod 242 27 = some (.ifCond .ne 34, 30) := by decide +kernel
theorem c_242_30 : aCod 242 30 = some (.goto_w 1, 31) := by decide +kernel
theorem c_242_31 : aCod 242 31 = some (.goto 35, 34) := by decide +kernel
theorem c_242_34 : aCod 242 34 = some (.goto_w 0, 35) := by decide +kernel
theorem c_242_35 : aCod 242 35 = some (.lreturn, 36) := by decide +kernel
theorem c_243_0 : aCod 243 0 = some (.aload 0, 1) := by decide +kernel
theorem c_243_1 : aCod 243 1 = some (.sipush 0, 2) := by decide +kernel
theorem c_243_2 : aCod 243 2 = some (.putfield 2408, 5) := by decide +kernel
theorem c_243_5 : aCod 243 5 = some (.sipush 0, 6) := by decide +kernel
theorem c_243_6 : aCod 243 6 = some (.istore 2, 7) := by decide +kernel
theorem c_243_7 : aCod 243 7 = some (.iload 2, 8) := by decide +kernel
theorem c_243_8 : aCod 243 8 = some (.aload 0, 9) := by decide +kernel
theorem c_243_9 : aCod 243 9 = some (.getfield 2402, 12) := by decide +kernel
theorem c_243_12 : aCod 243 12 = some (.if_icmp .ge 168, 15) := by decide +kernel
theorem c_243_15 : aCod 243 15 = some (.aload 0, 16) := by decide +kernel
theorem c_243_16 : aCod 243 16 = some (.getfield 2401, 19) := by decide +kernel
theorem c_243_19 : aCod 243 19 = some (.iload 2, 20) := by decide +kernel
theorem c_243_20 : aCod 243 20 = some (.iaload, 21) := by decide +kernel
theorem c_243_21 : aCod 243 21 = some (.istore 3, 22) := by decide +kernel
theorem c_243_22 : aCod 243 22 = some (.iload 3, 23) := by decide +kernel
theorem c_243_23 : aCod 243 23 = some (.sipush 1000, 26) := by decide +kernel
theorem c_243_26 : aCod 243 26 = some (.if_icmp .lt 42, 29) := by decide +kernel
theorem c_243_29 : aCod 243 29 = some (.aload 0, 30) := by decide +kernel
theorem c_243_30 : aCod 243 30 = some (.iload 3, 31) := by decide +kernel
theorem c_243_31 : aCod 243 31 = some (.sipush 1000, 34) := by decide +kernel
theorem c_243_34 : aCod 243 34 = some (.isub, 35) := by decide +kernel
theorem c_243_35 : aCod 243 35 = some (.i2l, 36) := by decide +kernel
theorem c_243_36 : aCod 243 36 = some (.invokevirtual 239, 39) := by decide +kernel
theorem c_243_39 : aCod 243 39 = some (.goto 162, 42) := by decide +kernel
theorem c_243_42 : aCod 243 42 = some (.iload 3, 43) := by decide +kernel
theorem c_243_43 : aCod 243 43 = some (.sipush 60, 45) := by decide +kernel
theorem c_243_45 : aCod 243 45 = some (.if_icmp .lt 85, 48) := by decide +kernel
theorem c_243_48 : aCod 243 48 = some (.aload 0, 49) := by decide +kernel
theorem c_243_49 : aCod 243 49 = some (.getfield 2407, 52) := by decide +kernel
theorem c_243_52 : aCod 243 52 = some (.aload 0, 53) := by decide +kernel
theorem c_243_53 : aCod 243 53 = some (.getfield 2408, 56) := by decide +kernel
theorem c_243_56 : aCod 243 56 = some (.sipush 1, 57) := by decide +kernel
theorem c_243_57 : aCod 243 57 = some (.isub, 58) := by decide +kernel
theorem c_243_58 : aCod 243 58 = some (.aload 0, 59) := by decide +kernel
theorem c_243_59 : aCod 243 59 = some (.iload 3, 60) := by decide +kernel
theorem c_243_60 : aCod 243 60 = some (.sipush 60, 62) := by decide +kernel
theorem c_243_62 : aCod 243 62 = some (.isub, 63) := by decide +kernel
theorem c_243_63 : aCod 243 63 = some (.aload 0, 64) := by decide +kernel
theorem c_243_64 : aCod 243 64 = some (.getfield 2407, 67) := by decide +kernel
theorem c_243_67 : aCod 243 67 = some (.aload 0, 68) := by decide +kernel
theorem c_243_68 : aCod 243 68 = some (.getfield 2408, 71) := by decide +kernel
theorem c_243_71 : aCod 243 71 = some (.sipush 1, 72) := by decide +kernel
theorem c_243_72 : aCod 243 72 = some (.isub, 73) := by decide +kernel
theorem c_243_73 : aCod 243 73 = some (.laload, 74) := by decide +kernel
theorem c_243_74 : aCod 243 74 = some (.iload 1, 75) := by decide +kernel
theorem c_243_75 : aCod 243 75 = some (.invokevirtual 242, 78) := by decide +kernel
theorem c_243_78 : aCod 243 78 = some (.invokestatic 237, 81) := by decide +kernel
theorem c_243_81 : aCod 243 81 = some (.lastore, 82) := by decide +kernel
theorem c_243_82 : aCod 243 82 = some (.goto 162, 85) := by decide +kernel
theorem c_243_85 : aCod 243 85 = some (.iload 3, 86) := by decide +kernel
theorem c_243_86 : aCod 243 86 = some (.sipush 40, 88) := by decide +kernel
theorem c_243_88 : aCod 243 88 = some (.if_icmp .lt 110, 91) := by decide +kernel
theorem c_243_91 : aCod 243 91 = some (.aload 0, 92) := by decide +kernel
theorem c_243_92 : aCod 243 92 = some (.aload 0, 93) := by decide +kernel
theorem c_243_93 : aCod 243 93 = some (.iload 3, 94) := by decide +kernel
theorem c_243_94 : aCod 243 94 = some (.sipush 40, 96) := by decide +kernel
theorem c_243_96 : aCod 243 96 = some (.isub, 97) := by decide +kernel
theorem c_243_97 : aCod 243 97 = some (.iload 1, 98) := by decide +kernel
theorem c_243_98 : aCod 243 98 = some (.invokevirtual 241, 101) := by decide +kernel
theorem c_243_101 : aCod 243 101 = some (.invokestatic 237, 104) := by decide +kernel
theorem c_243_104 : aCod 243 104 = some (.invokevirtual 239, 107) := by decide +kernel
theorem c_243_107 : aCod 243 107 = some (.goto 162, 110) := by decide +kernel
theorem c_243_110 : aCod 243 110 = some (.iload 3, 111) := by decide +kernel
theorem c_243_111 : aCod 243 111 = some (.sipush 13, 113) := by decide +kernel
theorem c_243_113 : aCod 243 113 = some (.if_icmp .ne 124, 116) := by decide +kernel
theorem c_243_116 : aCod 243 116 = some (.aload 0, 117) := by decide +kernel
theorem c_243_117 : aCod 243 117 = some (.goto_w 1, 118) := by decide +kernel
theorem c_243_118 : aCod 243 118 = some (.invokevirtual 239, 121) := by decide +kernel
theorem c_243_121 : aCod 243 121 = some (.goto 162, 124) := by decide +kernel
theorem c_243_124 : aCod 243 124 = some (.iload 3, 125) := by decide +kernel
theorem c_243_125 : aCod 243 125 = some (.sipush 12, 127) := by decide +kernel
theorem c_243_127 : aCod 243 127 = some (.if_icmp .ne 157, 130) := by decide +kernel
theorem c_243_130 : aCod 243 130 = some (.aload 0, 131) := by decide +kernel
theorem c_243_131 : aCod 243 131 = some (.getfield 2407, 134) := by decide +kernel
theorem c_243_134 : aCod 243 134 = some (.aload 0, 135) := by decide +kernel
theorem c_243_135 : aCod 243 135 = some (.getfield 2408, 138) := by decide +kernel
theorem c_243_138 : aCod 243 138 = some (.sipush 1, 139) := by decide +kernel
theorem c_243_139 : aCod 243 139 = some (.isub, 140) := by decide +kernel
theorem c_243_140 : aCod 243 140 = some (.goto_w 1, 141) := by decide +kernel
theorem c_243_141 : aCod 243 141 = some (.aload 0, 142) := by decide +kernel
theorem c_243_142 : aCod 243 142 = some (.getfield 2407, 145) := by decide +kernel
theorem c_243_145 : aCod 243 145 = some (.aload 0, 146) := by decide +kernel
theorem c_243_146 : aCod 243 146 = some (.getfield 2408, 149) := by decide +kernel
theorem c_243_149 : aCod 243 149 = some (.sipush 1, 150) := by decide +kernel
theorem c_243_150 : aCod 243 150 = some (.isub, 151) := by decide +kernel
theorem c_243_151 : aCod 243 151 = some (.laload, 152) := by decide +kernel
theorem c_243_152 : aCod 243 152 = some (.lsub, 153) := by decide +kernel
theorem c_243_153 : aCod 243 153 = some (.lastore, 154) := by decide +kernel
theorem c_243_154 : aCod 243 154 = some (.goto 162, 157) := by decide +kernel
theorem c_243_157 : aCod 243 157 = some (.aload 0, 158) := by decide +kernel
theorem c_243_158 : aCod 243 158 = some (.iload 3, 159) := by decide +kernel
theorem c_243_159 : aCod 243 159 = some (.invokevirtual 240, 162) := by decide +kernel
theorem c_243_162 : aCod 243 162 = some (.iinc 2 1, 165) := by decide +kernel
theorem c_243_165 : aCod 243 165 = some (.goto 7, 168) := by decide +kernel
theorem c_243_168 : aCod 243 168 = some (.aload 0, 169) := by decide +kernel
theorem c_243_169 : aCod 243 169 = some (.getfield 2407, 172) := by decide +kernel
theorem c_243_172 : aCod 243 172 = some (.sipush 0, 173) := by decide +kernel
theorem c_243_173 : aCod 243 173 = some (.laload, 174) := by decide +kernel
theorem c_243_174 : aCod 243 174 = some (.lreturn, 175) := by decide +kernel
theorem c_244_0 : aCod 244 0 = some (.aload 0, 1) := by decide +kernel
theorem c_244_1 : aCod 244 1 = some (.aload 0, 2) := by decide +kernel
theorem c_244_2 : aCod 244 2 = some (.getfield 2377, 5) := by decide +kernel
theorem c_244_5 : aCod 244 5 = some (.invokevirtual 138, 8) := by decide +kernel
theorem c_244_8 : aCod 244 8 = some (.ifCond .eq 15, 11) := by decide +kernel
theorem c_244_11 : aCod 244 11 = some (.sipush 0, 12) := by decide +kernel
theorem c_244_12 : aCod 244 12 = some (.goto 76, 15) := by decide +kernel
theorem c_244_15 : aCod 244 15 = some (.aload 0, 16) := by decide +kernel
theorem c_244_16 : aCod 244 16 = some (.aload 0, 17) := by decide +kernel
theorem c_244_17 : aCod 244 17 = some (.getfield 2378, 20) := by decide +kernel
theorem c_244_20 : aCod 244 20 = some (.invokevirtual 138, 23) := by decide +kernel
theorem c_244_23 : aCod 244 23 = some (.ifCond .eq 30, 26) := by decide +kernel
theorem c_244_26 : aCod 244 26 = some (.sipush 1, 27) := by decide +kernel
theorem c_244_27 : aCod 244 27 = some (.goto 76, 30) := by decide +kernel
theorem c_244_30 : aCod 244 30 = some (.aload 0, 31) := by decide +kernel
theorem c_244_31 : aCod 244 31 = some (.aload 0, 32) := by decide +kernel
theorem c_244_32 : aCod 244 32 = some (.getfield 2379, 35) := by decide +kernel
theorem c_244_35 : aCod 244 35 = some (.invokevirtual 138, 38) := by decide +kernel
theorem c_244_38 : aCod 244 38 = some (.ifCond .eq 45, 41) := by decide +kernel
theorem c_244_41 : aCod 244 41 = some (.sipush 2, 42) := by decide +kernel
theorem c_244_42 : aCod 244 42 = some (.goto 76, 45) := by decide +kernel
theorem c_244_45 : aCod 244 45 = some (.aload 0, 46) := by decide +kernel
theorem c_244_46 : aCod 244 46 = some (.aload 0, 47) := by decide +kernel
theorem c_244_47 : aCod 244 47 = some (.getfield 2380, 50) := by decide +kernel
theorem c_244_50 : aCod 244 50 = some (.invokevirtual 138, 53) := by decide +kernel
theorem c_244_53 : aCod 244 53 = some (.ifCond .eq 60, 56) := by decide +kernel
theorem c_244_56 : aCod 244 56 = some (.sipush 3, 57) := by decide +kernel
theorem c_244_57 : aCod 244 57 = some (.goto 76, 60) := by decide +kernel
theorem c_244_60 : aCod 244 60 = some (.aload 0, 61) := by decide +kernel
theorem c_244_61 : aCod 244 61 = some (.aload 0, 62) := by decide +kernel
theorem c_244_62 : aCod 244 62 = some (.getfield 2381, 65) := by decide +kernel
theorem c_244_65 : aCod 244 65 = some (.invokevirtual 138, 68) := by decide +kernel
theorem c_244_68 : aCod 244 68 = some (.ifCond .eq 75, 71) := by decide +kernel
theorem c_244_71 : aCod 244 71 = some (.sipush 4, 72) := by decide +kernel
theorem c_244_72 : aCod 244 72 = some (.goto 76, 75) := by decide +kernel
theorem c_244_75 : aCod 244 75 = some (.sipush 5, 76) := by decide +kernel
theorem c_244_76 : aCod 244 76 = some (.istore 1, 77) := by decide +kernel
theorem c_244_77 : aCod 244 77 = some (.iload 1, 78) := by decide +kernel
theorem c_244_78 : aCod 244 78 = some (.sipush 5, 79) := by decide +kernel
theorem c_244_79 : aCod 244 79 = some (.if_icmp .ne 90, 82) := by decide +kernel
theorem c_244_82 : aCod 244 82 = some (.aload 0, 83) := by decide +kernel
theorem c_244_83 : aCod 244 83 = some (.aload 0, 84) := by decide +kernel
theorem c_244_84 : aCod 244 84 = some (.getfield 2382, 87) := by decide +kernel
theorem c_244_87 : aCod 244 87 = some (.invokevirtual 139, 90) := by decide +kernel
theorem c_244_90 : aCod 244 90 = some (.iload 1, 91) := by decide +kernel
theorem c_244_91 : aCod 244 91 = some (.ireturn, 92) := by decide +kernel
theorem c_245_0 : aCod 245 0 = some (.iload 1, 1) := by decide +kernel
theorem c_245_1 : aCod 245 1 = some (.sipush 3, 2) := by decide +kernel
theorem c_245_2 : aCod 245 2 = some (.if_icmp .ge 15, 5) := by decide +kernel
theorem c_245_5 : aCod 245 5 = some (.lload 2, 6) := by decide +kernel
theorem c_245_6 : aCod 245 6 = some (.goto_w 1, 7) := by decide +kernel
theorem c_245_7 : aCod 245 7 = some (.lcmp, 8) := by decide +kernel
theorem c_245_8 : aCod 245 8 = some (.ifCond .ne 15, 11) := by decide +kernel
theorem c_245_11 : aCod 245 11 = some (.sipush 1, 12) := by decide +kernel
theorem c_245_12 : aCod 245 12 = some (.goto 16, 15) := by decide +kernel
theorem c_245_15 : aCod 245 15 = some (.sipush 0, 16) := by decide +kernel
theorem c_245_16 : aCod 245 16 = some (.istore 5, 18) := by decide +kernel
theorem c_245_18 : aCod 245 18 = some (.iload 1, 19) := by decide +kernel
theorem c_245_19 : aCod 245 19 = some (.ifCond .ne 38, 22) := by decide +kernel
theorem c_245_22 : aCod 245 22 = some (.iload 5, 24) := by decide +kernel
theorem c_245_24 : aCod 245 24 = some (.ifCond .eq 38, 27) := by decide +kernel
theorem c_245_27 : aCod 245 27 = some (.aload 0, 28) := by decide +kernel
theorem c_245_28 : aCod 245 28 = some (.getfield 2409, 31) := by decide +kernel
theorem c_245_31 : aCod 245 31 = some (.goto_w (-1), 34) := by decide +kernel
theorem c_245_34 : aCod 245 34 = some (.lcmp, 35) := by decide +kernel
theorem c_245_35 : aCod 245 35 = some (.ifCond .eq 48, 38) := by decide +kernel
theorem c_245_38 : aCod 245 38 = some (.iload 1, 39) := by decide +kernel
theorem c_245_39 : aCod 245 39 = some (.sipush 1, 40) := by decide +kernel
theorem c_245_40 : aCod 245 40 = some (.if_icmp .ne 55, 43) := by decide +kernel
theorem c_245_43 : aCod 245 43 = some (.iload 5, 45) := by decide +kernel
theorem c_245_45 : aCod 245 45 = some (.ifCond .eq 55, 48) := by decide +kernel
theorem c_245_48 : aCod 245 48 = some (.aload 0, 49) := by decide +kernel
theorem c_245_49 : aCod 245 49 = some (.iload 4, 51) := by decide +kernel
theorem c_245_51 : aCod 245 51 = some (.i2l, 52) := by decide +kernel
theorem c_245_52 : aCod 245 52 = some (.putfield 2409, 55) := by decide +kernel
theorem c_245_55 : aCod 245 55 = some (.iload 1, 56) := by decide +kernel
theorem c_245_56 : aCod 245 56 = some (.sipush 2, 57) := by decide +kernel
theorem c_245_57 : aCod 245 57 = some (.if_icmp .ne 75, 60) := by decide +kernel
theorem c_245_60 : aCod 245 60 = some (.iload 5, 62) := by decide +kernel
theorem c_245_62 : aCod 245 62 = some (.ifCond .eq 75, 65) := by decide +kernel
theorem c_245_65 : aCod 245 65 = some (.aload 0, 66) := by decide +kernel
theorem c_245_66 : aCod 245 66 = some (.dup, 67) := by decide +kernel
theorem c_245_67 : aCod 245 67 = some (.getfield 2409, 70) := by decide +kernel
theorem c_245_70 : aCod 245 70 = some (.goto_w 1, 71) := by decide +kernel
theorem c_245_71 : aCod 245 71 = some (.ladd, 72) := by decide +kernel
theorem c_245_72 : aCod 245 72 = some (.putfield 2409, 75) := by decide +kernel
theorem c_245_75 : aCod 245 75 = some (.iload 1, 76) := by decide +kernel
theorem c_245_76 : aCod 245 76 = some (.sipush 3, 77) := by decide +kernel
theorem c_245_77 : aCod 245 77 = some (.if_icmp .ne 90, 80) := by decide +kernel
theorem c_245_80 : aCod 245 80 = some (.aload 0, 81) := by decide +kernel
theorem c_245_81 : aCod 245 81 = some (.dup, 82) := by decide +kernel
theorem c_245_82 : aCod 245 82 = some (.getfield 2409, 85) := by decide +kernel
theorem c_245_85 : aCod 245 85 = some (.lload 2, 86) := by decide +kernel
theorem c_245_86 : aCod 245 86 = some (.ladd, 87) := by decide +kernel
theorem c_245_87 : aCod 245 87 = some (.putfield 2409, 90) := by decide +kernel
theorem c_245_90 : aCod 245 90 = some (.iload 1, 91) := by decide +kernel
theorem c_245_91 : aCod 245 91 = some (.sipush 3, 92) := by decide +kernel
theorem c_245_92 : aCod 245 92 = some (.if_icmp .le 133, 95) := by decide +kernel
theorem c_245_95 : aCod 245 95 = some (.aload 0, 96) := by decide +kernel
theorem c_245_96 : aCod 245 96 = some (.getfield 2410, 99) := by decide +kernel
theorem c_245_99 : aCod 245 99 = some (.ifCond .ne 128, 102) := by decide +kernel
theorem c_245_102 : aCod 245 102 = some (.iload 1, 103) := by decide +kernel
theorem c_245_103 : aCod 245 103 = some (.sipush 4, 104) := by decide +kernel
theorem c_245_104 : aCod 245 104 = some (.if_icmp .ne 119, 107) := by decide +kernel
theorem c_245_107 : aCod 245 107 = some (.lload 2, 108) := by decide +kernel
theorem c_245_108 : aCod 245 108 = some (.aload 0, 109) := by decide +kernel
theorem c_245_109 : aCod 245 109 = some (.getfield 2409, 112) := by decide +kernel
theorem c_245_112 : aCod 245 112 = some (.lcmp, 113) := by decide +kernel
theorem c_245_113 : aCod 245 113 = some (.ifCond .le 133, 116) := by decide +kernel
theorem c_245_116 : aCod 245 116 = some (.goto 128, 119) := by decide +kernel
theorem c_245_119 : aCod 245 119 = some (.lload 2, 120) := by decide +kernel
theorem c_245_120 : aCod 245 120 = some (.aload 0, 121) := by decide +kernel
theorem c_245_121 : aCod 245 121 = some (.getfield 2409, 124) := by decide +kernel
theorem c_245_124 : aCod 245 124 = some (.lcmp, 125) := by decide +kernel
theorem c_245_125 : aCod 245 125 = some (.ifCond .ge 133, 128) := by decide +kernel
theorem c_245_128 : aCod 245 128 = some (.aload 0, 129) := by decide +kernel
theorem c_245_129 : aCod 245 129 = some (.lload 2, 130) := by decide +kernel
theorem c_245_130 : aCod 245 130 = some (.putfield 2409, 133) := by decide +kernel
theorem c_245_133 : aCod 245 133 = some (.aload 0, 134) := by decide +kernel
theorem c_245_134 : aCod 245 134 = some (.sipush 0, 135) := by decide +kernel
theorem c_245_135 : aCod 245 135 = some (.putfield 2410, 138) := by decide +kernel
theorem c_245_138 : aCod 245 138 = some (.return_, 139) := by decide +kernel
theorem c_246_0 : aCod 246 0 = some (.aload 0, 1) := by decide +kernel
theorem c_246_1 : aCod 246 1 = some (.getfield 2360, 4) := by decide +kernel
theorem c_246_4 : aCod 246 4 = some (.ifCond .ne 16, 7) := by decide +kernel
theorem c_246_7 : aCod 246 7 = some (.aload 0, 8) := by decide +kernel
theorem c_246_8 : aCod 246 8 = some (.sipush 0, 9) := by decide +kernel
theorem c_246_9 : aCod 246 9 = some (.putfield 2305, 12) := by decide +kernel
theorem c_246_12 : aCod 246 12 = some (.goto_w (-1000000000000000), 15) := by decide +kernel
theorem c_246_15 : aCod 246 15 = some (.lreturn, 16) := by decide +kernel
theorem c_246_16 : aCod 246 16 = some (.aload 0, 17) := by decide +kernel
theorem c_246_17 : aCod 246 17 = some (.aload 0, 18) := by decide +kernel
theorem c_246_18 : aCod 246 18 = some (.getfield 2305, 21) := by decide +kernel
theorem c_246_21 : aCod 246 21 = some (.putfield 2307, 24) := by decide +kernel
theorem c_246_24 : aCod 246 24 = some (.aload 0, 25) := by decide +kernel
theorem c_246_25 : aCod 246 25 = some (.sipush 0, 26) := by decide +kernel
theorem c_246_26 : aCod 246 26 = some (.putfield 2305, 29) := by decide +kernel
theorem c_246_29 : aCod 246 29 = some (.aload 0, 30) := by decide +kernel
theorem c_246_30 : aCod 246 30 = some (.sipush 0, 31) := by decide +kernel
theorem c_246_31 : aCod 246 31 = some (.putfield 2306, 34) := by decide +kernel
theorem c_246_34 : aCod 246 34 = some (.aload 0, 35) := by decide +kernel
theorem c_246_35 : aCod 246 35 = some (.sipush (-1), 36) := by decide +kernel
theorem c_246_36 : aCod 246 36 = some (.putfield 2308, 39) := by decide +kernel
theorem c_246_39 : aCod 246 39 = some (.aload 0, 40) := by decide +kernel
theorem c_246_40 : aCod 246 40 = some (.sipush 0, 41) := by decide +kernel
theorem c_246_41 : aCod 246 41 = some (.putfield 2309, 44) := by decide +kernel
theorem c_246_44 : aCod 246 44 = some (.aload 0, 45) := by decide +kernel
theorem c_246_45 : aCod 246 45 = some (.sipush (-1), 46) := by decide +kernel
theorem c_246_46 : aCod 246 46 = some (.putfield 2310, 49) := by decide +kernel
theorem c_246_49 : aCod 246 49 = some (.aload 0, 50) := by decide +kernel
theorem c_246_50 : aCod 246 50 = some (.sipush 2, 51) := by decide +kernel
theorem c_246_51 : aCod 246 51 = some (.putfield 2361, 54) := by decide +kernel
theorem c_246_54 : aCod 246 54 = some (.aload 0, 55) := by decide +kernel
theorem c_246_55 : aCod 246 55 = some (.sipush 0, 56) := by decide +kernel
theorem c_246_56 : aCod 246 56 = some (.putfield 2402, 59) := by decide +kernel
theorem c_246_59 : aCod 246 59 = some (.aload 0, 60) := by decide +kernel
theorem c_246_60 : aCod 246 60 = some (.sipush 0, 61) := by decide +kernel
theorem c_246_61 : aCod 246 61 = some (.putfield 2404, 64) := by decide +kernel
theorem c_246_64 : aCod 246 64 = some (.aload 0, 65) := by decide +kernel
theorem c_246_65 : aCod 246 65 = some (.sipush 0, 66) := by decide +kernel
theorem c_246_66 : aCod 246 66 = some (.putfield 2405, 69) := by decide +kernel
theorem c_246_69 : aCod 246 69 = some (.aload 0, 70) := by decide +kernel
theorem c_246_70 : aCod 246 70 = some (.sipush 0, 71) := by decide +kernel
theorem c_246_71 : aCod 246 71 = some (.putfield 2406, 74) := by decide +kernel
theorem c_246_74 : aCod 246 74 = some (.aload 0, 75) := by decide +kernel
theorem c_246_75 : aCod 246 75 = some (.invokevirtual 244, 78) := by decide +kernel
theorem c_246_78 : aCod 246 78 = some (.istore 1, 79) := by decide +kernel
theorem c_246_79 : aCod 246 79 = some (.aload 0, 80) := by decide +kernel
theorem c_246_80 : aCod 246 80 = some (.getfield 2309, 83) := by decide +kernel
theorem c_246_83 : aCod 246 83 = some (.ifCond .ne 98, 86) := by decide +kernel
theorem c_246_86 : aCod 246 86 = some (.iload 1, 87) := by decide +kernel
theorem c_246_87 : aCod 246 87 = some (.sipush 3, 88) := by decide +kernel
theorem c_246_88 : aCod 246 88 = some (.if_icmp .ge 98, 91) := by decide +kernel
theorem c_246_91 : aCod 246 91 = some (.aload 0, 92) := by decide +kernel
theorem c_246_92 : aCod 246 92 = some (.invokevirtual 235, 95) := by decide +kernel
theorem c_246_95 : aCod 246 95 = some (.goto 109, 98) := by decide +kernel
theorem c_246_98 : aCod 246 98 = some (.aload 0, 99) := by decide +kernel
theorem c_246_99 : aCod 246 99 = some (.getfield 2309, 102) := by decide +kernel
theorem c_246_102 : aCod 246 102 = some (.ifCond .ne 109, 105) := by decide +kernel
theorem c_246_105 : aCod 246 105 = some (.aload 0, 106) := by decide +kernel
theorem c_246_106 : aCod 246 106 = some (.invokevirtual 231, 109) := by decide +kernel
theorem c_246_109 : aCod 246 109 = some (.aload 0, 110) := by decide +kernel
theorem c_246_110 : aCod 246 110 = some (.getfield 2309, 113) := by decide +kernel
theorem c_246_113 : aCod 246 113 = some (.ifCond .ne 133, 116) := by decide +kernel
theorem c_246_116 : aCod 246 116 = some (.aload 0, 117) := by decide +kernel
theorem c_246_117 : aCod 246 117 = some (.invokevirtual 136, 120) := by decide +kernel
theorem c_246_120 : aCod 246 120 = some (.sipush (-1), 121) := by decide +kernel
theorem c_246_121 : aCod 246 121 = some (.if_icmp .eq 133, 124) := by decide +kernel
theorem c_246_124 : aCod 246 124 = some (.aload 0, 125) := by decide +kernel
theorem c_246_125 : aCod 246 125 = some (.sipush 1, 126) := by decide +kernel
theorem c_246_126 : aCod 246 126 = some (.aload 0, 127) := by decide +kernel
theorem c_246_127 : aCod 246 127 = some (.getfield 2306, 130) := by decide +kernel
theorem c_246_130 : aCod 246 130 = some (.invokevirtual 133, 133) := by decide +kernel
theorem c_246_133 : aCod 246 133 = some (.aload 0, 134) := by decide +kernel
theorem c_246_134 : aCod 246 134 = some (.aload 0, 135) := by decide +kernel
theorem c_246_135 : aCod 246 135 = some (.getfield 2309, 138) := by decide +kernel
theorem c_246_138 : aCod 246 138 = some (.putfield 2311, 141) := by decide +kernel
theorem c_246_141 : aCod 246 141 = some (.aload 0, 142) := by decide +kernel
theorem c_246_142 : aCod 246 142 = some (.aload 0, 143) := by decide +kernel
theorem c_246_143 : aCod 246 143 = some (.getfield 2310, 146) := by decide +kernel
theorem c_246_146 : aCod 246 146 = some (.putfield 2312, 149) := by decide +kernel
theorem c_246_149 : aCod 246 149 = some (.aload 0, 150) := by decide +kernel
theorem c_246_150 : aCod 246 150 = some (.getfield 2309, 153) := by decide +kernel
theorem c_246_153 : aCod 246 153 = some (.ifCond .eq 160, 156) := by decide +kernel
theorem c_246_156 : aCod 246 156 = some (.goto_w (-1000000000000000), 159) := by decide +kernel
theorem c_246_159 : aCod 246 159 = some (.lreturn, 160) := by decide +kernel
theorem c_246_160 : aCod 246 160 = some (.aload 0, 161) := by decide +kernel
theorem c_246_161 : aCod 246 161 = some (.iload 1, 162) := by decide +kernel
theorem c_246_162 : aCod 246 162 = some (.sipush 2, 163) := by decide +kernel
theorem c_246_163 : aCod 246 163 = some (.if_icmp .ge 172, 166) := by decide +kernel
theorem c_246_166 : aCod 246 166 = some (.goto_w (-1), 169) := by decide +kernel
theorem c_246_169 : aCod 246 169 = some (.goto 173, 172) := by decide +kernel
theorem c_246_172 : aCod 246 172 = some (.goto_w 0, 173) := by decide +kernel
theorem c_246_173 : aCod 246 173 = some (.putfield 2409, 176) := by decide +kernel
theorem c_246_176 : aCod 246 176 = some (.aload 0, 177) := by decide +kernel
theorem c_246_177 : aCod 246 177 = some (.sipush 1, 178) := by decide +kernel
theorem c_246_178 : aCod 246 178 = some (.putfield 2410, 181) := by decide +kernel
theorem c_246_181 : aCod 246 181 = some (.sipush 0, 182) := by decide +kernel
theorem c_246_182 : aCod 246 182 = some (.istore 2, 183) := by decide +kernel
theorem c_246_183 : aCod 246 183 = some (.iload 2, 184) := by decide +kernel
theorem c_246_184 : aCod 246 184 = some (.aload 0, 185) := by decide +kernel
theorem c_246_185 : aCod 246 185 = some (.invokevirtual 161, 188) := by decide +kernel
theorem c_246_188 : aCod 246 188 = some (.if_icmp .ge 209, 191) := by decide +kernel
theorem c_246_191 : aCod 246 191 = some (.aload 0, 192) := by decide +kernel
theorem c_246_192 : aCod 246 192 = some (.getfield 2364, 195) := by decide +kernel
theorem c_246_195 : aCod 246 195 = some (.iload 2, 196) := by decide +kernel
theorem c_246_196 : aCod 246 196 = some (.aload 0, 197) := by decide +kernel
theorem c_246_197 : aCod 246 197 = some (.iload 2, 198) := by decide +kernel
theorem c_246_198 : aCod 246 198 = some (.invokevirtual 171, 201) := by decide +kernel
theorem c_246_201 : aCod 246 201 = some (.i2l, 202) := by decide +kernel
theorem c_246_202 : aCod 246 202 = some (.lastore, 203) := by decide +kernel
theorem c_246_203 : aCod 246 203 = some (.iinc 2 1, 206) := by decide +kernel
theorem c_246_206 : aCod 246 206 = some (.goto 183, 209) := by decide +kernel
theorem c_246_209 : aCod 246 209 = some (.sipush 0, 210) := by decide +kernel
theorem c_246_210 : aCod 246 210 = some (.istore 2, 211) := by decide +kernel
theorem c_246_211 : aCod 246 211 = some (.iload 2, 212) := by decide +kernel
theorem c_246_212 : aCod 246 212 = some (.aload 0, 213) := by decide +kernel
theorem c_246_213 : aCod 246 213 = some (.invokevirtual 161, 216) := by decide +kernel
theorem c_246_216 : aCod 246 216 = some (.if_icmp .ge 236, 219) := by decide +kernel
theorem c_246_219 : aCod 246 219 = some (.aload 0, 220) := by decide +kernel
theorem c_246_220 : aCod 246 220 = some (.iload 1, 221) := by decide +kernel
theorem c_246_221 : aCod 246 221 = some (.aload 0, 222) := by decide +kernel
theorem c_246_222 : aCod 246 222 = some (.iload 2, 223) := by decide +kernel
theorem c_246_223 : aCod 246 223 = some (.invokevirtual 243, 226) := by decide +kernel
theorem c_246_226 : aCod 246 226 = some (.iload 2, 227) := by decide +kernel
theorem c_246_227 : aCod 246 227 = some (.invokevirtual 245, 230) := by decide +kernel
theorem c_246_230 : aCod 246 230 = some (.iinc 2 1, 233) := by decide +kernel
theorem c_246_233 : aCod 246 233 = some (.goto 211, 236) := by decide +kernel
theorem c_246_236 : aCod 246 236 = some (.aload 0, 237) := by decide +kernel
theorem c_246_237 : aCod 246 237 = some (.getfield 2409, 240) := by decide +kernel
theorem c_246_240 : aCod 246 240 = some (.lreturn, 241) := by decide +kernel
theorem c_247_0 : aCod 247 0 = some (.sipush 31, 2) := by decide +kernel
theorem c_247_2 : aCod 247 2 = some (.istore 2, 3) := by decide +kernel
theorem c_247_3 : aCod 247 3 = some (.sipush 0, 4) := by decide +kernel
theorem c_247_4 : aCod 247 4 = some (.istore 3, 5) := by decide +kernel
theorem c_247_5 : aCod 247 5 = some (.iload 3, 6) := by decide +kernel
theorem c_247_6 : aCod 247 6 = some (.iload 1, 7) := by decide +kernel
theorem c_247_7 : aCod 247 7 = some (.if_icmp .ge 28, 10) := by decide +kernel
theorem c_247_10 : aCod 247 10 = some (.sipush 3, 11) := by decide +kernel
theorem c_247_11 : aCod 247 11 = some (.iload 2, 12) := by decide +kernel
theorem c_247_12 : aCod 247 12 = some (.imul, 13) := by decide +kernel
theorem c_247_13 : aCod 247 13 = some (.aload 0, 14) := by decide +kernel
theorem c_247_14 : aCod 247 14 = some (.iload 3, 15) := by decide +kernel
theorem c_247_15 : aCod 247 15 = some (.iaload, 16) := by decide +kernel
theorem c_247_16 : aCod 247 16 = some (.iadd, 17) := by decide +kernel
theorem c_247_17 : aCod 247 17 = some (.sipush 251, 20) := by decide +kernel
theorem c_247_20 : aCod 247 20 = some (.irem, 21) := by decide +kernel
theorem c_247_21 : aCod 247 21 = some (.istore 2, 22) := by decide +kernel
theorem c_247_22 : aCod 247 22 = some (.iinc 3 1, 25) := by decide +kernel
theorem c_247_25 : aCod 247 25 = some (.goto 5, 28) := by decide +kernel
theorem c_247_28 : aCod 247 28 = some (.iload 2, 29) := by decide +kernel
theorem c_247_29 : aCod 247 29 = some (.ireturn, 30) := by decide +kernel
theorem c_248_0 : aCod 248 0 = some (.aload 0, 1) := by decide +kernel
theorem c_248_1 : aCod 248 1 = some (.getfield 2411, 4) := by decide +kernel
theorem c_248_4 : aCod 248 4 = some (.aload 0, 5) := by decide +kernel
theorem c_248_5 : aCod 248 5 = some (.getfield 2412, 8) := by decide +kernel
theorem c_248_8 : aCod 248 8 = some (.iload 1, 9) := by decide +kernel
theorem c_248_9 : aCod 248 9 = some (.iastore, 10) := by decide +kernel
theorem c_248_10 : aCod 248 10 = some (.aload 0, 11) := by decide +kernel
theorem c_248_11 : aCod 248 11 = some (.dup, 12) := by decide +kernel
theorem c_248_12 : aCod 248 12 = some (.getfield 2412, 15) := by decide +kernel
theorem c_248_15 : aCod 248 15 = some (.sipush 1, 16) := by decide +kernel
theorem c_248_16 : aCod 248 16 = some (.iadd, 17) := by decide +kernel
theorem c_248_17 : aCod 248 17 = some (.putfield 2412, 20) := by decide +kernel
theorem c_248_20 : aCod 248 20 = some (.return_, 21) := by decide +kernel
theorem c_249_0 : aCod 249 0 = some (.aload 0, 1) := by decide +kernel
theorem c_249_1 : aCod 249 1 = some (.iload 1, 2) := by decide +kernel
theorem c_249_2 : aCod 249 2 = some (.sipush 256, 5) := by decide +kernel
theorem c_249_5 : aCod 249 5 = some (.idiv, 6) := by decide +kernel
theorem c_249_6 : aCod 249 6 = some (.invokevirtual 248, 9) := by decide +kernel
theorem c_249_9 : aCod 249 9 = some (.aload 0, 10) := by decide +kernel
theorem c_249_10 : aCod 249 10 = some (.iload 1, 11) := by decide +kernel
theorem c_249_11 : aCod 249 11 = some (.sipush 256, 14) := by decide +kernel
theorem c_249_14 : aCod 249 14 = some (.irem, 15) := by decide +kernel
theorem c_249_15 : aCod 249 15 = some (.invokevirtual 248, 18) := by decide +kernel
theorem c_249_18 : aCod 249 18 = some (.return_, 19) := by decide +kernel
theorem c_250_0 : aCod 250 0 = some (.aload 0, 1) := by decide +kernel
theorem c_250_1 : aCod 250 1 = some (.sipush 0, 2) := by decide +kernel
theorem c_250_2 : aCod 250 2 = some (.putfield 2412, 5) := by decide +kernel
theorem c_250_5 : aCod 250 5 = some (.sipush 0, 6) := by decide +kernel
theorem c_250_6 : aCod 250 6 = some (.istore 1, 7) := by decide +kernel
theorem c_250_7 : aCod 250 7 = some (.iload 1, 8) := by decide +kernel
theorem c_250_8 : aCod 250 8 = some (.sipush 3, 9) := by decide +kernel
theorem c_250_9 : aCod 250 9 = some (.if_icmp .ge 28, 12) := by decide +kernel
theorem c_250_12 : aCod 250 12 = some (.aload 0, 13) := by decide +kernel
theorem c_250_13 : aCod 250 13 = some (.aload 0, 14) := by decide +kernel
theorem c_250_14 : aCod 250 14 = some (.getfield 2362, 17) := by decide +kernel
theorem c_250_17 : aCod 250 17 = some (.iload 1, 18) := by decide +kernel
theorem c_250_18 : aCod 250 18 = some (.iaload, 19) := by decide +kernel
theorem c_250_19 : aCod 250 19 = some (.invokevirtual 249, 22) := by decide +kernel
theorem c_250_22 : aCod 250 22 = some (.iinc 1 1, 25) := by decide +kernel
theorem c_250_25 : aCod 250 25 = some (.goto 7, 28) := by decide +kernel
theorem c_250_28 : aCod 250 28 = some (.sipush 0, 29) := by decide +kernel
theorem c_250_29 : aCod 250 29 = some (.istore 1, 30) := by decide +kernel
theorem c_250_30 : aCod 250 30 = some (.iload 1, 31) := by decide +kernel
theorem c_250_31 : aCod 250 31 = some (.aload 0, 32) := by decide +kernel
theorem c_250_32 : aCod 250 32 = some (.invokevirtual 161, 35) := by decide +kernel
theorem c_250_35 : aCod 250 35 = some (.if_icmp .ge 79, 38) := by decide +kernel
theorem c_250_38 : aCod 250 38 = some (.aload 0, 39) := by decide +kernel
theorem c_250_39 : aCod 250 39 = some (.aload 0, 40) := by decide +kernel
theorem c_250_40 : aCod 250 40 = some (.iload 1, 41) := by decide +kernel
theorem c_250_41 : aCod 250 41 = some (.invokevirtual 163, 44) := by decide +kernel
theorem c_250_44 : aCod 250 44 = some (.ifCond .eq 51, 47) := by decide +kernel
theorem c_250_47 : aCod 250 47 = some (.sipush 1, 48) := by decide +kernel
theorem c_250_48 : aCod 250 48 = some (.goto 52, 51) := by decide +kernel
theorem c_250_51 : aCod 250 51 = some (.sipush 0, 52) := by decide +kernel
theorem c_250_52 : aCod 250 52 = some (.invokevirtual 248, 55) := by decide +kernel
theorem c_250_55 : aCod 250 55 = some (.aload 0, 56) := by decide +kernel
theorem c_250_56 : aCod 250 56 = some (.aload 0, 57) := by decide +kernel
theorem c_250_57 : aCod 250 57 = some (.iload 1, 58) := by decide +kernel
theorem c_250_58 : aCod 250 58 = some (.invokevirtual 164, 61) := by decide +kernel
theorem c_250_61 : aCod 250 61 = some (.invokevirtual 249, 64) := by decide +kernel
theorem c_250_64 : aCod 250 64 = some (.aload 0, 65) := by decide +kernel
theorem c_250_65 : aCod 250 65 = some (.aload 0, 66) := by decide +kernel
theorem c_250_66 : aCod 250 66 = some (.iload 1, 67) := by decide +kernel
theorem c_250_67 : aCod 250 67 = some (.invokevirtual 165, 70) := by decide +kernel
theorem c_250_70 : aCod 250 70 = some (.invokevirtual 248, 73) := by decide +kernel
theorem c_250_73 : aCod 250 73 = some (.iinc 1 1, 76) := by decide +kernel
theorem c_250_76 : aCod 250 76 = some (.goto 30, 79) := by decide +kernel
theorem c_250_79 : aCod 250 79 = some (.aload 0, 80) := by decide +kernel
theorem c_250_80 : aCod 250 80 = some (.aload 0, 81) := by decide +kernel
theorem c_250_81 : aCod 250 81 = some (.getfield 2411, 84) := by decide +kernel
theorem c_250_84 : aCod 250 84 = some (.aload 0, 85) := by decide +kernel
theorem c_250_85 : aCod 250 85 = some (.getfield 2412, 88) := by decide +kernel
theorem c_250_88 : aCod 250 88 = some (.invokestatic 247, 91) := by decide +kernel
theorem c_250_91 : aCod 250 91 = some (.invokevirtual 248, 94) := by decide +kernel
theorem c_250_94 : aCod 250 94 = some (.aload 0, 95) := by decide +kernel
theorem c_250_95 : aCod 250 95 = some (.getfield 2412, 98) := by decide +kernel
theorem c_250_98 : aCod 250 98 = some (.ireturn, 99) := by decide +kernel
theorem c_251_0 : aCod 251 0 = some (.iload 1, 1) := by decide +kernel
theorem c_251_1 : aCod 251 1 = some (.ifCond .lt 21, 4) := by decide +kernel
theorem c_251_4 : aCod 251 4 = some (.iload 1, 5) := by decide +kernel
theorem c_251_5 : aCod 251 5 = some (.aload 0, 6) := by decide +kernel
theorem c_251_6 : aCod 251 6 = some (.getfield 2412, 9) := by decide +kernel
theorem c_251_9 : aCod 251 9 = some (.if_icmp .ge 21, 12) := by decide +kernel
theorem c_251_12 : aCod 251 12 = some (.aload 0, 13) := by decide +kernel
theorem c_251_13 : aCod 251 13 = some (.getfield 2411, 16) := by decide +kernel
theorem c_251_16 : aCod 251 16 = some (.iload 1, 17) := by decide +kernel
theorem c_251_17 : aCod 251 17 = some (.iaload, 18) := by decide +kernel
theorem c_251_18 : aCod 251 18 = some (.goto 22, 21) := by decide +kernel
theorem c_251_21 : aCod 251 21 = some (.sipush (-1), 22) := by decide +kernel
theorem c_251_22 : aCod 251 22 = some (.ireturn, 23) := by decide +kernel
theorem c_252_0 : aCod 252 0 = some (.sipush 256, 3) := by decide +kernel
theorem c_252_3 : aCod 252 3 = some (.aload 0, 4) := by decide +kernel
theorem c_252_4 : aCod 252 4 = some (.getfield 2304, 7) := by decide +kernel
theorem c_252_7 : aCod 252 7 = some (.iload 1, 8) := by decide +kernel
theorem c_252_8 : aCod 252 8 = some (.iaload, 9) := by decide +kernel
theorem c_252_9 : aCod 252 9 = some (.imul, 10) := by decide +kernel
theorem c_252_10 : aCod 252 10 = some (.aload 0, 11) := by decide +kernel
theorem c_252_11 : aCod 252 11 = some (.getfield 2304, 14) := by decide +kernel
theorem c_252_14 : aCod 252 14 = some (.iload 1, 15) := by decide +kernel
theorem c_252_15 : aCod 252 15 = some (.sipush 1, 16) := by decide +kernel
theorem c_252_16 : aCod 252 16 = some (.iadd, 17) := by decide +kernel
theorem c_252_17 : aCod 252 17 = some (.iaload, 18) := by decide +kernel
theorem c_252_18 : aCod 252 18 = some (.iadd, 19) := by decide +kernel
theorem c_252_19 : aCod 252 19 = some (.ireturn, 20) := by decide +kernel
theorem c_253_0 : aCod 253 0 = some (.sipush 6, 2) := by decide +kernel
theorem c_253_2 : aCod 253 2 = some (.sipush 4, 3) := by decide +kernel
theorem c_253_3 : aCod 253 3 = some (.iload 1, 4) := by decide +kernel
theorem c_253_4 : aCod 253 4 = some (.imul, 5) := by decide +kernel
theorem c_253_5 : aCod 253 5 = some (.iadd, 6) := by decide +kernel
theorem c_253_6 : aCod 253 6 = some (.istore 2, 7) := by decide +kernel
theorem c_253_7 : aCod 253 7 = some (.aload 0, 8) := by decide +kernel
theorem c_253_8 : aCod 253 8 = some (.getfield 2304, 11) := by decide +kernel
theorem c_253_11 : aCod 253 11 = some (.iload 2, 12) := by decide +kernel
theorem c_253_12 : aCod 253 12 = some (.iaload, 13) := by decide +kernel
theorem c_253_13 : aCod 253 13 = some (.ifCond .ne 45, 16) := by decide +kernel
theorem c_253_16 : aCod 253 16 = some (.aload 0, 17) := by decide +kernel
theorem c_253_17 : aCod 253 17 = some (.iload 2, 18) := by decide +kernel
theorem c_253_18 : aCod 253 18 = some (.sipush 1, 19) := by decide +kernel
theorem c_253_19 : aCod 253 19 = some (.iadd, 20) := by decide +kernel
theorem c_253_20 : aCod 253 20 = some (.invokevirtual 252, 23) := by decide +kernel
theorem c_253_23 : aCod 253 23 = some (.ifCond .ne 43, 26) := by decide +kernel
theorem c_253_26 : aCod 253 26 = some (.aload 0, 27) := by decide +kernel
theorem c_253_27 : aCod 253 27 = some (.getfield 2304, 30) := by decide +kernel
theorem c_253_30 : aCod 253 30 = some (.iload 2, 31) := by decide +kernel
theorem c_253_31 : aCod 253 31 = some (.sipush 3, 32) := by decide +kernel
theorem c_253_32 : aCod 253 32 = some (.iadd, 33) := by decide +kernel
theorem c_253_33 : aCod 253 33 = some (.iaload, 34) := by decide +kernel
theorem c_253_34 : aCod 253 34 = some (.sipush 99, 36) := by decide +kernel
theorem c_253_36 : aCod 253 36 = some (.if_icmp .ne 43, 39) := by decide +kernel
theorem c_253_39 : aCod 253 39 = some (.sipush 1, 40) := by decide +kernel
theorem c_253_40 : aCod 253 40 = some (.goto 44, 43) := by decide +kernel
theorem c_253_43 : aCod 253 43 = some (.sipush 0, 44) := by decide +kernel
theorem c_253_44 : aCod 253 44 = some (.ireturn, 45) := by decide +kernel
theorem c_253_45 : aCod 253 45 = some (.aload 0, 46) := by decide +kernel
theorem c_253_46 : aCod 253 46 = some (.getfield 2304, 49) := by decide +kernel
theorem c_253_49 : aCod 253 49 = some (.iload 2, 50) := by decide +kernel
theorem c_253_50 : aCod 253 50 = some (.iaload, 51) := by decide +kernel
theorem c_253_51 : aCod 253 51 = some (.sipush 1, 52) := by decide +kernel
theorem c_253_52 : aCod 253 52 = some (.if_icmp .ne 85, 55) := by decide +kernel
theorem c_253_55 : aCod 253 55 = some (.aload 0, 56) := by decide +kernel
theorem c_253_56 : aCod 253 56 = some (.iload 2, 57) := by decide +kernel
theorem c_253_57 : aCod 253 57 = some (.sipush 1, 58) := by decide +kernel
theorem c_253_58 : aCod 253 58 = some (.iadd, 59) := by decide +kernel
theorem c_253_59 : aCod 253 59 = some (.invokevirtual 252, 62) := by decide +kernel
theorem c_253_62 : aCod 253 62 = some (.sipush 9999, 65) := by decide +kernel
theorem c_253_65 : aCod 253 65 = some (.if_icmp .gt 85, 68) := by decide +kernel
theorem c_253_68 : aCod 253 68 = some (.aload 0, 69) := by decide +kernel
theorem c_253_69 : aCod 253 69 = some (.getfield 2304, 72) := by decide +kernel
theorem c_253_72 : aCod 253 72 = some (.iload 2, 73) := by decide +kernel
theorem c_253_73 : aCod 253 73 = some (.sipush 3, 74) := by decide +kernel
theorem c_253_74 : aCod 253 74 = some (.iadd, 75) := by decide +kernel
theorem c_253_75 : aCod 253 75 = some (.iaload, 76) := by decide +kernel
theorem c_253_76 : aCod 253 76 = some (.sipush 99, 78) := by decide +kernel
theorem c_253_78 : aCod 253 78 = some (.if_icmp .gt 85, 81) := by decide +kernel
theorem c_253_81 : aCod 253 81 = some (.sipush 1, 82) := by decide +kernel
theorem c_253_82 : aCod 253 82 = some (.goto 86, 85) := by decide +kernel
theorem c_253_85 : aCod 253 85 = some (.sipush 0, 86) := by decide +kernel
theorem c_253_86 : aCod 253 86 = some (.ireturn, 87) := by decide +kernel
theorem c_254_0 : aCod 254 0 = some (.aload 0, 1) := by decide +kernel
theorem c_254_1 : aCod 254 1 = some (.getfield 2360, 4) := by decide +kernel
theorem c_254_4 : aCod 254 4 = some (.ifCond .eq 75, 7) := by decide +kernel
theorem c_254_7 : aCod 254 7 = some (.iload 1, 8) := by decide +kernel
theorem c_254_8 : aCod 254 8 = some (.sipush 7, 10) := by decide +kernel
theorem c_254_10 : aCod 254 10 = some (.sipush 4, 11) := by decide +kernel
theorem c_254_11 : aCod 254 11 = some (.aload 0, 12) := by decide +kernel
theorem c_254_12 : aCod 254 12 = some (.invokevirtual 161, 15) := by decide +kernel
theorem c_254_15 : aCod 254 15 = some (.imul, 16) := by decide +kernel
theorem c_254_16 : aCod 254 16 = some (.iadd, 17) := by decide +kernel
theorem c_254_17 : aCod 254 17 = some (.if_icmp .ne 75, 20) := by decide +kernel
theorem c_254_20 : aCod 254 20 = some (.aload 0, 21) := by decide +kernel
theorem c_254_21 : aCod 254 21 = some (.getfield 2304, 24) := by decide +kernel
theorem c_254_24 : aCod 254 24 = some (.iload 1, 25) := by decide +kernel
theorem c_254_25 : aCod 254 25 = some (.sipush 1, 26) := by decide +kernel
theorem c_254_26 : aCod 254 26 = some (.isub, 27) := by decide +kernel
theorem c_254_27 : aCod 254 27 = some (.iaload, 28) := by decide +kernel
theorem c_254_28 : aCod 254 28 = some (.aload 0, 29) := by decide +kernel
theorem c_254_29 : aCod 254 29 = some (.getfield 2304, 32) := by decide +kernel
theorem c_254_32 : aCod 254 32 = some (.iload 1, 33) := by decide +kernel
theorem c_254_33 : aCod 254 33 = some (.sipush 1, 34) := by decide +kernel
theorem c_254_34 : aCod 254 34 = some (.isub, 35) := by decide +kernel
theorem c_254_35 : aCod 254 35 = some (.invokestatic 247, 38) := by decide +kernel
theorem c_254_38 : aCod 254 38 = some (.if_icmp .ne 75, 41) := by decide +kernel
theorem c_254_41 : aCod 254 41 = some (.aload 0, 42) := by decide +kernel
theorem c_254_42 : aCod 254 42 = some (.sipush 0, 43) := by decide +kernel
theorem c_254_43 : aCod 254 43 = some (.invokevirtual 252, 46) := by decide +kernel
theorem c_254_46 : aCod 254 46 = some (.sipush 999, 49) := by decide +kernel
theorem c_254_49 : aCod 254 49 = some (.if_icmp .gt 75, 52) := by decide +kernel
theorem c_254_52 : aCod 254 52 = some (.aload 0, 53) := by decide +kernel
theorem c_254_53 : aCod 254 53 = some (.sipush 2, 54) := by decide +kernel
theorem c_254_54 : aCod 254 54 = some (.invokevirtual 252, 57) := by decide +kernel
theorem c_254_57 : aCod 254 57 = some (.aload 0, 58) := by decide +kernel
theorem c_254_58 : aCod 254 58 = some (.invokevirtual 167, 61) := by decide +kernel
theorem c_254_61 : aCod 254 61 = some (.if_icmp .gt 75, 64) := by decide +kernel
theorem c_254_64 : aCod 254 64 = some (.aload 0, 65) := by decide +kernel
theorem c_254_65 : aCod 254 65 = some (.sipush 4, 66) := by decide +kernel
theorem c_254_66 : aCod 254 66 = some (.invokevirtual 252, 69) := by decide +kernel
theorem c_254_69 : aCod 254 69 = some (.sipush 9999, 72) := by decide +kernel
theorem c_254_72 : aCod 254 72 = some (.if_icmp .le 77, 75) := by decide +kernel
theorem c_254_75 : aCod 254 75 = some (.sipush 0, 76) := by decide +kernel
theorem c_254_76 : aCod 254 76 = some (.ireturn, 77) := by decide +kernel
theorem c_254_77 : aCod 254 77 = some (.sipush 0, 78) := by decide +kernel
theorem c_254_78 : aCod 254 78 = some (.istore 2, 79) := by decide +kernel
theorem c_254_79 : aCod 254 79 = some (.iload 2, 80) := by decide +kernel
theorem c_254_80 : aCod 254 80 = some (.aload 0, 81) := by decide +kernel
theorem c_254_81 : aCod 254 81 = some (.invokevirtual 161, 84) := by decide +kernel
theorem c_254_84 : aCod 254 84 = some (.if_icmp .ge 103, 87) := by decide +kernel
theorem c_254_87 : aCod 254 87 = some (.aload 0, 88) := by decide +kernel
theorem c_254_88 : aCod 254 88 = some (.iload 2, 89) := by decide +kernel
theorem c_254_89 : aCod 254 89 = some (.invokevirtual 253, 92) := by decide +kernel
theorem c_254_92 : aCod 254 92 = some (.ifCond .ne 97, 95) := by decide +kernel
theorem c_254_95 : aCod 254 95 = some (.sipush 0, 96) := by decide +kernel
theorem c_254_96 : aCod 254 96 = some (.ireturn, 97) := by decide +kernel
theorem c_254_97 : aCod 254 97 = some (.iinc 2 1, 100) := by decide +kernel
theorem c_254_100 : aCod 254 100 = some (.goto 79, 103) := by decide +kernel
theorem c_254_103 : aCod 254 103 = some (.sipush 1, 104) := by decide +kernel
theorem c_254_104 : aCod 254 104 = some (.ireturn, 105) := by decide +kernel
theorem c_255_0 : aCod 255 0 = some (.aload 0, 1) := by decide +kernel
theorem c_255_1 : aCod 255 1 = some (.getfield 2305, 4) := by decide +kernel
theorem c_255_4 : aCod 255 4 = some (.istore 1, 5) := by decide +kernel
theorem c_255_5 : aCod 255 5 = some (.aload 0, 6) := by decide +kernel
theorem c_255_6 : aCod 255 6 = some (.sipush 0, 7) := by decide +kernel
theorem c_255_7 : aCod 255 7 = some (.putfield 2305, 10) := by decide +kernel
theorem c_255_10 : aCod 255 10 = some (.aload 0, 11) := by decide +kernel
theorem c_255_11 : aCod 255 11 = some (.iload 1, 12) := by decide +kernel
theorem c_255_12 : aCod 255 12 = some (.invokevirtual 254, 15) := by decide +kernel
theorem c_255_15 : aCod 255 15 = some (.ifCond .ne 30, 18) := by decide +kernel
theorem c_255_18 : aCod 255 18 = some (.aload 0, 19) := by decide +kernel
theorem c_255_19 : aCod 255 19 = some (.getfield 2313, 22) := by decide +kernel
theorem c_255_22 : aCod 255 22 = some (.sipush 5, 23) := by decide +kernel
theorem c_255_23 : aCod 255 23 = some (.dup2, 24) := by decide +kernel
theorem c_255_24 : aCod 255 24 = some (.iaload, 25) := by decide +kernel
theorem c_255_25 : aCod 255 25 = some (.sipush 1, 26) := by decide +kernel
theorem c_255_26 : aCod 255 26 = some (.iadd, 27) := by decide +kernel
theorem c_255_27 : aCod 255 27 = some (.iastore, 28) := by decide +kernel
theorem c_255_28 : aCod 255 28 = some (.sipush 0, 29) := by decide +kernel
theorem c_255_29 : aCod 255 29 = some (.ireturn, 30) := by decide +kernel
theorem c_255_30 : aCod 255 30 = some (.sipush 0, 31) := by decide +kernel
theorem c_255_31 : aCod 255 31 = some (.istore 2, 32) := by decide +kernel
theorem c_255_32 : aCod 255 32 = some (.iload 2, 33) := by decide +kernel
theorem c_255_33 : aCod 255 33 = some (.sipush 3, 34) := by decide +kernel
theorem c_255_34 : aCod 255 34 = some (.if_icmp .ge 56, 37) := by decide +kernel
theorem c_255_37 : aCod 255 37 = some (.aload 0, 38) := by decide +kernel
theorem c_255_38 : aCod 255 38 = some (.getfield 2362, 41) := by decide +kernel
theorem c_255_41 : aCod 255 41 = some (.iload 2, 42) := by decide +kernel
theorem c_255_42 : aCod 255 42 = some (.aload 0, 43) := by decide +kernel
theorem c_255_43 : aCod 255 43 = some (.sipush 2, 44) := by decide +kernel
theorem c_255_44 : aCod 255 44 = some (.iload 2, 45) := by decide +kernel
theorem c_255_45 : aCod 255 45 = some (.imul, 46) := by decide +kernel
theorem c_255_46 : aCod 255 46 = some (.invokevirtual 252, 49) := by decide +kernel
theorem c_255_49 : aCod 255 49 = some (.iastore, 50) := by decide +kernel
theorem c_255_50 : aCod 255 50 = some (.iinc 2 1, 53) := by decide +kernel
theorem c_255_53 : aCod 255 53 = some (.goto 32, 56) := by decide +kernel
theorem c_255_56 : aCod 255 56 = some (.sipush 0, 57) := by decide +kernel
theorem c_255_57 : aCod 255 57 = some (.istore 2, 58) := by decide +kernel
theorem c_255_58 : aCod 255 58 = some (.iload 2, 59) := by decide +kernel
theorem c_255_59 : aCod 255 59 = some (.aload 0, 60) := by decide +kernel
theorem c_255_60 : aCod 255 60 = some (.invokevirtual 161, 63) := by decide +kernel
theorem c_255_63 : aCod 255 63 = some (.if_icmp .ge 138, 66) := by decide +kernel
theorem c_255_66 : aCod 255 66 = some (.aload 0, 67) := by decide +kernel
theorem c_255_67 : aCod 255 67 = some (.getfield 2362, 70) := by decide +kernel
theorem c_255_70 : aCod 255 70 = some (.sipush 3, 71) := by decide +kernel
theorem c_255_71 : aCod 255 71 = some (.sipush 3, 72) := by decide +kernel
theorem c_255_72 : aCod 255 72 = some (.iload 2, 73) := by decide +kernel
theorem c_255_73 : aCod 255 73 = some (.imul, 74) := by decide +kernel
theorem c_255_74 : aCod 255 74 = some (.iadd, 75) := by decide +kernel
theorem c_255_75 : aCod 255 75 = some (.aload 0, 76) := by decide +kernel
theorem c_255_76 : aCod 255 76 = some (.getfield 2304, 79) := by decide +kernel
theorem c_255_79 : aCod 255 79 = some (.sipush 6, 81) := by decide +kernel
theorem c_255_81 : aCod 255 81 = some (.sipush 4, 82) := by decide +kernel
theorem c_255_82 : aCod 255 82 = some (.iload 2, 83) := by decide +kernel
theorem c_255_83 : aCod 255 83 = some (.imul, 84) := by decide +kernel
theorem c_255_84 : aCod 255 84 = some (.iadd, 85) := by decide +kernel
theorem c_255_85 : aCod 255 85 = some (.iaload, 86) := by decide +kernel
theorem c_255_86 : aCod 255 86 = some (.iastore, 87) := by decide +kernel
theorem c_255_87 : aCod 255 87 = some (.aload 0, 88) := by decide +kernel
theorem c_255_88 : aCod 255 88 = some (.getfield 2362, 91) := by decide +kernel
theorem c_255_91 : aCod 255 91 = some (.sipush 3, 92) := by decide +kernel
theorem c_255_92 : aCod 255 92 = some (.sipush 3, 93) := by decide +kernel
theorem c_255_93 : aCod 255 93 = some (.iload 2, 94) := by decide +kernel
theorem c_255_94 : aCod 255 94 = some (.imul, 95) := by decide +kernel
theorem c_255_95 : aCod 255 95 = some (.iadd, 96) := by decide +kernel
theorem c_255_96 : aCod 255 96 = some (.sipush 1, 97) := by decide +kernel
theorem c_255_97 : aCod 255 97 = some (.iadd, 98) := by decide +kernel
theorem c_255_98 : aCod 255 98 = some (.aload 0, 99) := by decide +kernel
theorem c_255_99 : aCod 255 99 = some (.sipush 7, 101) := by decide +kernel
theorem c_255_101 : aCod 255 101 = some (.sipush 4, 102) := by decide +kernel
theorem c_255_102 : aCod 255 102 = some (.iload 2, 103) := by decide +kernel
theorem c_255_103 : aCod 255 103 = some (.imul, 104) := by decide +kernel
theorem c_255_104 : aCod 255 104 = some (.iadd, 105) := by decide +kernel
theorem c_255_105 : aCod 255 105 = some (.invokevirtual 252, 108) := by decide +kernel
theorem c_255_108 : aCod 255 108 = some (.iastore, 109) := by decide +kernel
theorem c_255_109 : aCod 255 109 = some (.aload 0, 110) := by decide +kernel
theorem c_255_110 : aCod 255 110 = some (.getfield 2362, 113) := by decide +kernel
theorem c_255_113 : aCod 255 113 = some (.sipush 3, 114) := by decide +kernel
theorem c_255_114 : aCod 255 114 = some (.sipush 3, 115) := by decide +kernel
theorem c_255_115 : aCod 255 115 = some (.iload 2, 116) := by decide +kernel
theorem c_255_116 : aCod 255 116 = some (.imul, 117) := by decide +kernel
theorem c_255_117 : aCod 255 117 = some (.iadd, 118) := by decide +kernel
theorem c_255_118 : aCod 255 118 = some (.sipush 2, 119) := by decide +kernel
theorem c_255_119 : aCod 255 119 = some (.iadd, 120) := by decide +kernel
theorem c_255_120 : aCod 255 120 = some (.aload 0, 121) := by decide +kernel
theorem c_255_121 : aCod 255 121 = some (.getfield 2304, 124) := by decide +kernel
theorem c_255_124 : aCod 255 124 = some (.sipush 9, 126) := by decide +kernel
theorem c_255_126 : aCod 255 126 = some (.sipush 4, 127) := by decide +kernel
theorem c_255_127 : aCod 255 127 = some (.iload 2, 128) := by decide +kernel
theorem c_255_128 : aCod 255 128 = some (.imul, 129) := by decide +kernel
theorem c_255_129 : aCod 255 129 = some (.iadd, 130) := by decide +kernel
theorem c_255_130 : aCod 255 130 = some (.iaload, 131) := by decide +kernel
theorem c_255_131 : aCod 255 131 = some (.iastore, 132) := by decide +kernel
theorem c_255_132 : aCod 255 132 = some (.iinc 2 1, 135) := by decide +kernel
theorem c_255_135 : aCod 255 135 = some (.goto 58, 138) := by decide +kernel
theorem c_255_138 : aCod 255 138 = some (.aload 0, 139) := by decide +kernel
theorem c_255_139 : aCod 255 139 = some (.getfield 2362, 142) := by decide +kernel
theorem c_255_142 : aCod 255 142 = some (.sipush 27, 144) := by decide +kernel
theorem c_255_144 : aCod 255 144 = some (.sipush 0, 145) := by decide +kernel
theorem c_255_145 : aCod 255 145 = some (.iastore, 146) := by decide +kernel
theorem c_255_146 : aCod 255 146 = some (.aload 0, 147) := by decide +kernel
theorem c_255_147 : aCod 255 147 = some (.sipush 0, 148) := by decide +kernel
theorem c_255_148 : aCod 255 148 = some (.putfield 2374, 151) := by decide +kernel
theorem c_255_151 : aCod 255 151 = some (.sipush 1, 152) := by decide +kernel
theorem c_255_152 : aCod 255 152 = some (.ireturn, 153) := by decide +kernel
theorem c_256_0 : aCod 256 0 = some (.iload 1, 1) := by decide +kernel
theorem c_256_1 : aCod 256 1 = some (.i2l, 2) := by decide +kernel
theorem c_256_2 : aCod 256 2 = some (.goto_w 0, 3) := by decide +kernel
theorem c_256_3 : aCod 256 3 = some (.goto_w 5, 6) := by decide +kernel
theorem c_256_6 : aCod 256 6 = some (.invokestatic 130, 9) := by decide +kernel
theorem c_256_9 : aCod 256 9 = some (.ifCond .eq 21, 12) := by decide +kernel
theorem c_256_12 : aCod 256 12 = some (.aload 0, 13) := by decide +kernel
theorem c_256_13 : aCod 256 13 = some (.getfield 2313, 16) := by decide +kernel
theorem c_256_16 : aCod 256 16 = some (.iload 1, 17) := by decide +kernel
theorem c_256_17 : aCod 256 17 = some (.iaload, 18) := by decide +kernel
theorem c_256_18 : aCod 256 18 = some (.goto 22, 21) := by decide +kernel
theorem c_256_21 : aCod 256 21 = some (.sipush (-1), 22) := by decide +kernel
theorem c_256_22 : aCod 256 22 = some (.ireturn, 23) := by decide +kernel
theorem c_257_0 : aCod 257 0 = some (.iload 0, 1) := by decide +kernel
theorem c_257_1 : aCod 257 1 = some (.iload 0, 2) := by decide +kernel
theorem c_257_2 : aCod 257 2 = some (.sipush 1, 3) := by decide +kernel
theorem c_257_3 : aCod 257 3 = some (.iushr, 4) := by decide +kernel
theorem c_257_4 : aCod 257 4 = some (.sipush 1431655765, 7) := by decide +kernel
theorem c_257_7 : aCod 257 7 = some (.iand, 8) := by decide +kernel
theorem c_257_8 : aCod 257 8 = some (.isub, 9) := by decide +kernel
theorem c_257_9 : aCod 257 9 = some (.istore 0, 10) := by decide +kernel
theorem c_257_10 : aCod 257 10 = some (.iload 0, 11) := by decide +kernel
theorem c_257_11 : aCod 257 11 = some (.sipush 858993459, 14) := by decide +kernel
theorem c_257_14 : aCod 257 14 = some (.iand, 15) := by decide +kernel
theorem c_257_15 : aCod 257 15 = some (.iload 0, 16) := by decide +kernel
theorem c_257_16 : aCod 257 16 = some (.sipush 2, 17) := by decide +kernel
theorem c_257_17 : aCod 257 17 = some (.iushr, 18) := by decide +kernel
theorem c_257_18 : aCod 257 18 = some (.sipush 858993459, 21) := by decide +kernel
theorem c_257_21 : aCod 257 21 = some (.iand, 22) := by decide +kernel
theorem c_257_22 : aCod 257 22 = some (.iadd, 23) := by decide +kernel
theorem c_257_23 : aCod 257 23 = some (.istore 0, 24) := by decide +kernel
theorem c_257_24 : aCod 257 24 = some (.iload 0, 25) := by decide +kernel
theorem c_257_25 : aCod 257 25 = some (.iload 0, 26) := by decide +kernel
theorem c_257_26 : aCod 257 26 = some (.sipush 4, 27) := by decide +kernel
theorem c_257_27 : aCod 257 27 = some (.iushr, 28) := by decide +kernel
theorem c_257_28 : aCod 257 28 = some (.iadd, 29) := by decide +kernel
theorem c_257_29 : aCod 257 29 = some (.sipush 252645135, 32) := by decide +kernel
theorem c_257_32 : aCod 257 32 = some (.iand, 33) := by decide +kernel
theorem c_257_33 : aCod 257 33 = some (.istore 0, 34) := by decide +kernel
theorem c_257_34 : aCod 257 34 = some (.iload 0, 35) := by decide +kernel
theorem c_257_35 : aCod 257 35 = some (.iload 0, 36) := by decide +kernel
theorem c_257_36 : aCod 257 36 = some (.sipush 8, 38) := by decide +kernel
theorem c_257_38 : aCod 257 38 = some (.iushr, 39) := by decide +kernel
theorem c_257_39 : aCod 257 39 = some (.iadd, 40) := by decide +kernel
theorem c_257_40 : aCod 257 40 = some (.istore 0, 41) := by decide +kernel
theorem c_257_41 : aCod 257 41 = some (.iload 0, 42) := by decide +kernel
theorem c_257_42 : aCod 257 42 = some (.iload 0, 43) := by decide +kernel
theorem c_257_43 : aCod 257 43 = some (.sipush 16, 45) := by decide +kernel
theorem c_257_45 : aCod 257 45 = some (.iushr, 46) := by decide +kernel
theorem c_257_46 : aCod 257 46 = some (.iadd, 47) := by decide +kernel
theorem c_257_47 : aCod 257 47 = some (.istore 0, 48) := by decide +kernel
theorem c_257_48 : aCod 257 48 = some (.iload 0, 49) := by decide +kernel
theorem c_257_49 : aCod 257 49 = some (.sipush 63, 51) := by decide +kernel
theorem c_257_51 : aCod 257 51 = some (.iand, 52) := by decide +kernel
theorem c_257_52 : aCod 257 52 = some (.ireturn, 53) := by decide +kernel
theorem c_258_0 : aCod 258 0 = some (.iload 0, 1) := by decide +kernel
theorem c_258_1 : aCod 258 1 = some (.iload 1, 2) := by decide +kernel
theorem c_258_2 : aCod 258 2 = some (.idiv, 3) := by decide +kernel
theorem c_258_3 : aCod 258 3 = some (.istore 2, 4) := by decide +kernel
theorem c_258_4 : aCod 258 4 = some (.iload 0, 5) := by decide +kernel
theorem c_258_5 : aCod 258 5 = some (.iload 1, 6) := by decide +kernel
theorem c_258_6 : aCod 258 6 = some (.ixor, 7) := by decide +kernel
theorem c_258_7 : aCod 258 7 = some (.ifCond .ge 21, 10) := by decide +kernel
theorem c_258_10 : aCod 258 10 = some (.iload 2, 11) := by decide +kernel
theorem c_258_11 : aCod 258 11 = some (.iload 1, 12) := by decide +kernel
theorem c_258_12 : aCod 258 12 = some (.imul, 13) := by decide +kernel
theorem c_258_13 : aCod 258 13 = some (.iload 0, 14) := by decide +kernel
theorem c_258_14 : aCod 258 14 = some (.if_icmp .eq 21, 17) := by decide +kernel
theorem c_258_17 : aCod 258 17 = some (.iload 2, 18) := by decide +kernel
theorem c_258_18 : aCod 258 18 = some (.sipush 1, 19) := by decide +kernel
theorem c_258_19 : aCod 258 19 = some (.isub, 20) := by decide +kernel
theorem c_258_20 : aCod 258 20 = some (.ireturn, 21) := by decide +kernel
theorem c_258_21 : aCod 258 21 = some (.iload 2, 22) := by decide +kernel
theorem c_258_22 : aCod 258 22 = some (.ireturn, 23) := by decide +kernel
theorem c_259_0 : aCod 259 0 = some (.new 8, 3) := by decide +kernel
theorem c_259_3 : aCod 259 3 = some (.dup, 4) := by decide +kernel
theorem c_259_4 : aCod 259 4 = some (.invokespecial 75, 7) := by decide +kernel
theorem c_259_7 : aCod 259 7 = some (.astore 1, 8) := by decide +kernel
theorem c_259_8 : aCod 259 8 = some (.new 9, 11) := by decide +kernel
theorem c_259_11 : aCod 259 11 = some (.dup, 12) := by decide +kernel
theorem c_259_12 : aCod 259 12 = some (.invokespecial 129, 15) := by decide +kernel
theorem c_259_15 : aCod 259 15 = some (.astore 2, 16) := by decide +kernel
theorem c_259_16 : aCod 259 16 = some (.sipush 0, 17) := by decide +kernel
theorem c_259_17 : aCod 259 17 = some (.istore 3, 18) := by decide +kernel
theorem c_259_18 : aCod 259 18 = some (.iload 3, 19) := by decide +kernel
theorem c_259_19 : aCod 259 19 = some (.aload 0, 20) := by decide +kernel
theorem c_259_20 : aCod 259 20 = some (.invokeinterface 6 0, 21) := by decide +kernel
theorem c_259_21 : aCod 259 21 = some (.sipush 6, 23) := by decide +kernel
theorem c_259_23 : aCod 259 23 = some (.isub, 24) := by decide +kernel
theorem c_259_24 : aCod 259 24 = some (.if_icmp .gt 989, 27) := by decide +kernel
theorem c_259_27 : aCod 259 27 = some (.aload 0, 28) := by decide +kernel
theorem c_259_28 : aCod 259 28 = some (.iload 3, 29) := by decide +kernel
theorem c_259_29 : aCod 259 29 = some (.saload, 30) := by decide +kernel
theorem c_259_30 : aCod 259 30 = some (.sipush 31, 32) := by decide +kernel
theorem c_259_32 : aCod 259 32 = some (.iand, 33) := by decide +kernel
theorem c_259_33 : aCod 259 33 = some (.tableswitch 983 0 31 #[176, 239, 262, 275, 298, 321, 364, 397, 430, 453, 486, 519, 542, 565, 598, 611, 634, 657, 710, 723, 746, 769, 792, 815, 838, 861, 874, 897, 911, 924, 947, 960], 176) := by decide +kernel
theorem c_259_176 : aCod 259 176 = some (.aload 1, 177) := by decide +kernel
theorem c_259_177 : aCod 259 177 = some (.aload 0, 178) := by decide +kernel
theorem c_259_178 : aCod 259 178 = some (.iload 3, 179) := by decide +kernel
theorem c_259_179 : aCod 259 179 = some (.sipush 1, 180) := by decide +kernel
theorem c_259_180 : aCod 259 180 = some (.iadd, 181) := by decide +kernel
theorem c_259_181 : aCod 259 181 = some (.saload, 182) := by decide +kernel
theorem c_259_182 : aCod 259 182 = some (.aload 0, 183) := by decide +kernel
theorem c_259_183 : aCod 259 183 = some (.iload 3, 184) := by decide +kernel
theorem c_259_184 : aCod 259 184 = some (.sipush 2, 185) := by decide +kernel
theorem c_259_185 : aCod 259 185 = some (.iadd, 186) := by decide +kernel
theorem c_259_186 : aCod 259 186 = some (.saload, 187) := by decide +kernel
theorem c_259_187 : aCod 259 187 = some (.aload 0, 188) := by decide +kernel
theorem c_259_188 : aCod 259 188 = some (.iload 3, 189) := by decide +kernel
theorem c_259_189 : aCod 259 189 = some (.sipush 3, 190) := by decide +kernel
theorem c_259_190 : aCod 259 190 = some (.iadd, 191) := by decide +kernel
theorem c_259_191 : aCod 259 191 = some (.saload, 192) := by decide +kernel
theorem c_259_192 : aCod 259 192 = some (.aload 0, 193) := by decide +kernel
theorem c_259_193 : aCod 259 193 = some (.iload 3, 194) := by decide +kernel
theorem c_259_194 : aCod 259 194 = some (.sipush 4, 195) := by decide +kernel
theorem c_259_195 : aCod 259 195 = some (.iadd, 196) := by decide +kernel
theorem c_259_196 : aCod 259 196 = some (.saload, 197) := by decide +kernel
theorem c_259_197 : aCod 259 197 = some (.aload 0, 198) := by decide +kernel
theorem c_259_198 : aCod 259 198 = some (.iload 3, 199) := by decide +kernel
theorem c_259_199 : aCod 259 199 = some (.sipush 5, 200) := by decide +kernel
theorem c_259_200 : aCod 259 200 = some (.iadd, 201) := by decide +kernel
theorem c_259_201 : aCod 259 201 = some (.saload, 202) := by decide +kernel
theorem c_259_202 : aCod 259 202 = some (.invokevirtual 76, 205) := by decide +kernel
theorem c_259_205 : aCod 259 205 = some (.aload 2, 206) := by decide +kernel
theorem c_259_206 : aCod 259 206 = some (.aload 0, 207) := by decide +kernel
theorem c_259_207 : aCod 259 207 = some (.iload 3, 208) := by decide +kernel
theorem c_259_208 : aCod 259 208 = some (.sipush 1, 209) := by decide +kernel
theorem c_259_209 : aCod 259 209 = some (.iadd, 210) := by decide +kernel
theorem c_259_210 : aCod 259 210 = some (.saload, 211) := by decide +kernel
theorem c_259_211 : aCod 259 211 = some (.aload 0, 212) := by decide +kernel
theorem c_259_212 : aCod 259 212 = some (.iload 3, 213) := by decide +kernel
theorem c_259_213 : aCod 259 213 = some (.sipush 2, 214) := by decide +kernel
theorem c_259_214 : aCod 259 214 = some (.iadd, 215) := by decide +kernel
theorem c_259_215 : aCod 259 215 = some (.saload, 216) := by decide +kernel
theorem c_259_216 : aCod 259 216 = some (.aload 0, 217) := by decide +kernel
theorem c_259_217 : aCod 259 217 = some (.iload 3, 218) := by decide +kernel
theorem c_259_218 : aCod 259 218 = some (.sipush 3, 219) := by decide +kernel
theorem c_259_219 : aCod 259 219 = some (.iadd, 220) := by decide +kernel
theorem c_259_220 : aCod 259 220 = some (.saload, 221) := by decide +kernel
theorem c_259_221 : aCod 259 221 = some (.aload 0, 222) := by decide +kernel
theorem c_259_222 : aCod 259 222 = some (.iload 3, 223) := by decide +kernel
theorem c_259_223 : aCod 259 223 = some (.sipush 4, 224) := by decide +kernel
theorem c_259_224 : aCod 259 224 = some (.iadd, 225) := by decide +kernel
theorem c_259_225 : aCod 259 225 = some (.saload, 226) := by decide +kernel
theorem c_259_226 : aCod 259 226 = some (.aload 0, 227) := by decide +kernel
theorem c_259_227 : aCod 259 227 = some (.iload 3, 228) := by decide +kernel
theorem c_259_228 : aCod 259 228 = some (.sipush 5, 229) := by decide +kernel
theorem c_259_229 : aCod 259 229 = some (.iadd, 230) := by decide +kernel
theorem c_259_230 : aCod 259 230 = some (.saload, 231) := by decide +kernel
theorem c_259_231 : aCod 259 231 = some (.invokevirtual 131, 234) := by decide +kernel
theorem c_259_234 : aCod 259 234 = some (.if_icmp .eq 983, 237) := by decide +kernel
theorem c_259_237 : aCod 259 237 = some (.sipush 0, 238) := by decide +kernel
theorem c_259_238 : aCod 259 238 = some (.ireturn, 239) := by decide +kernel
theorem c_259_239 : aCod 259 239 = some (.aload 1, 240) := by decide +kernel
theorem c_259_240 : aCod 259 240 = some (.aload 0, 241) := by decide +kernel
theorem c_259_241 : aCod 259 241 = some (.iload 3, 242) := by decide +kernel
theorem c_259_242 : aCod 259 242 = some (.sipush 1, 243) := by decide +kernel
theorem c_259_243 : aCod 259 243 = some (.iadd, 244) := by decide +kernel
theorem c_259_244 : aCod 259 244 = some (.saload, 245) := by decide +kernel
theorem c_259_245 : aCod 259 245 = some (.invokevirtual 77, 248) := by decide +kernel
theorem c_259_248 : aCod 259 248 = some (.aload 2, 249) := by decide +kernel
theorem c_259_249 : aCod 259 249 = some (.aload 0, 250) := by decide +kernel
theorem c_259_250 : aCod 259 250 = some (.iload 3, 251) := by decide +kernel
theorem c_259_251 : aCod 259 251 = some (.sipush 1, 252) := by decide +kernel
theorem c_259_252 : aCod 259 252 = some (.iadd, 253) := by decide +kernel
theorem c_259_253 : aCod 259 253 = some (.saload, 254) := by decide +kernel
theorem c_259_254 : aCod 259 254 = some (.invokevirtual 132, 257) := by decide +kernel
theorem c_259_257 : aCod 259 257 = some (.if_icmp .eq 983, 260) := by decide +kernel
theorem c_259_260 : aCod 259 260 = some (.sipush 0, 261) := by decide +kernel
theorem c_259_261 : aCod 259 261 = some (.ireturn, 262) := by decide +kernel
theorem c_259_262 : aCod 259 262 = some (.aload 1, 263) := by decide +kernel
theorem c_259_263 : aCod 259 263 = some (.invokevirtual 78, 266) := by decide +kernel
theorem c_259_266 : aCod 259 266 = some (.aload 2, 267) := by decide +kernel
theorem c_259_267 : aCod 259 267 = some (.invokevirtual 156, 270) := by decide +kernel
theorem c_259_270 : aCod 259 270 = some (.if_icmp .eq 983, 273) := by decide +kernel
theorem c_259_273 : aCod 259 273 = some (.sipush 0, 274) := by decide +kernel
theorem c_259_274 : aCod 259 274 = some (.ireturn, 275) := by decide +kernel
theorem c_259_275 : aCod 259 275 = some (.aload 1, 276) := by decide +kernel
theorem c_259_276 : aCod 259 276 = some (.aload 0, 277) := by decide +kernel
theorem c_259_277 : aCod 259 277 = some (.iload 3, 278) := by decide +kernel
theorem c_259_278 : aCod 259 278 = some (.sipush 1, 279) := by decide +kernel
theorem c_259_279 : aCod 259 279 = some (.iadd, 280) := by decide +kernel
theorem c_259_280 : aCod 259 280 = some (.saload, 281) := by decide +kernel
theorem c_259_281 : aCod 259 281 = some (.invokevirtual 79, 284) := by decide +kernel
theorem c_259_284 : aCod 259 284 = some (.aload 2, 285) := by decide +kernel
theorem c_259_285 : aCod 259 285 = some (.aload 0, 286) := by decide +kernel
theorem c_259_286 : aCod 259 286 = some (.iload 3, 287) := by decide +kernel
theorem c_259_287 : aCod 259 287 = some (.sipush 1, 288) := by decide +kernel
theorem c_259_288 : aCod 259 288 = some (.iadd, 289) := by decide +kernel
theorem c_259_289 : aCod 259 289 = some (.saload, 290) := by decide +kernel
theorem c_259_290 : aCod 259 290 = some (.invokevirtual 158, 293) := by decide +kernel
theorem c_259_293 : aCod 259 293 = some (.if_icmp .eq 983, 296) := by decide +kernel
theorem c_259_296 : aCod 259 296 = some (.sipush 0, 297) := by decide +kernel
theorem c_259_297 : aCod 259 297 = some (.ireturn, 298) := by decide +kernel
theorem c_259_298 : aCod 259 298 = some (.aload 1, 299) := by decide +kernel
theorem c_259_299 : aCod 259 299 = some (.aload 0, 300) := by decide +kernel
theorem c_259_300 : aCod 259 300 = some (.iload 3, 301) := by decide +kernel
theorem c_259_301 : aCod 259 301 = some (.sipush 1, 302) := by decide +kernel
theorem c_259_302 : aCod 259 302 = some (.iadd, 303) := by decide +kernel
theorem c_259_303 : aCod 259 303 = some (.saload, 304) := by decide +kernel
theorem c_259_304 : aCod 259 304 = some (.invokevirtual 80, 307) := by decide +kernel
theorem c_259_307 : aCod 259 307 = some (.aload 2, 308) := by decide +kernel
theorem c_259_308 : aCod 259 308 = some (.aload 0, 309) := by decide +kernel
theorem c_259_309 : aCod 259 309 = some (.iload 3, 310) := by decide +kernel
theorem c_259_310 : aCod 259 310 = some (.sipush 1, 311) := by decide +kernel
theorem c_259_311 : aCod 259 311 = some (.iadd, 312) := by decide +kernel
theorem c_259_312 : aCod 259 312 = some (.saload, 313) := by decide +kernel
theorem c_259_313 : aCod 259 313 = some (.invokevirtual 185, 316) := by decide +kernel
theorem c_259_316 : aCod 259 316 = some (.if_icmp .eq 983, 319) := by decide +kernel
theorem c_259_319 : aCod 259 319 = some (.sipush 0, 320) := by decide +kernel
theorem c_259_320 : aCod 259 320 = some (.ireturn, 321) := by decide +kernel
theorem c_259_321 : aCod 259 321 = some (.aload 1, 322) := by decide +kernel
theorem c_259_322 : aCod 259 322 = some (.aload 0, 323) := by decide +kernel
theorem c_259_323 : aCod 259 323 = some (.iload 3, 324) := by decide +kernel
theorem c_259_324 : aCod 259 324 = some (.sipush 1, 325) := by decide +kernel
theorem c_259_325 : aCod 259 325 = some (.iadd, 326) := by decide +kernel
theorem c_259_326 : aCod 259 326 = some (.saload, 327) := by decide +kernel
theorem c_259_327 : aCod 259 327 = some (.aload 0, 328) := by decide +kernel
theorem c_259_328 : aCod 259 328 = some (.iload 3, 329) := by decide +kernel
theorem c_259_329 : aCod 259 329 = some (.sipush 2, 330) := by decide +kernel
theorem c_259_330 : aCod 259 330 = some (.iadd, 331) := by decide +kernel
theorem c_259_331 : aCod 259 331 = some (.saload, 332) := by decide +kernel
theorem c_259_332 : aCod 259 332 = some (.aload 0, 333) := by decide +kernel
theorem c_259_333 : aCod 259 333 = some (.iload 3, 334) := by decide +kernel
theorem c_259_334 : aCod 259 334 = some (.sipush 3, 335) := by decide +kernel
theorem c_259_335 : aCod 259 335 = some (.iadd, 336) := by decide +kernel
theorem c_259_336 : aCod 259 336 = some (.saload, 337) := by decide +kernel
theorem c_259_337 : aCod 259 337 = some (.invokevirtual 81, 340) := by decide +kernel
theorem c_259_340 : aCod 259 340 = some (.aload 2, 341) := by decide +kernel
theorem c_259_341 : aCod 259 341 = some (.aload 0, 342) := by decide +kernel
theorem c_259_342 : aCod 259 342 = some (.iload 3, 343) := by decide +kernel
theorem c_259_343 : aCod 259 343 = some (.sipush 1, 344) := by decide +kernel
theorem c_259_344 : aCod 259 344 = some (.iadd, 345) := by decide +kernel
theorem c_259_345 : aCod 259 345 = some (.saload, 346) := by decide +kernel
theorem c_259_346 : aCod 259 346 = some (.aload 0, 347) := by decide +kernel
theorem c_259_347 : aCod 259 347 = some (.iload 3, 348) := by decide +kernel
theorem c_259_348 : aCod 259 348 = some (.sipush 2, 349) := by decide +kernel
theorem c_259_349 : aCod 259 349 = some (.iadd, 350) := by decide +kernel
theorem c_259_350 : aCod 259 350 = some (.saload, 351) := by decide +kernel
theorem c_259_351 : aCod 259 351 = some (.aload 0, 352) := by decide +kernel
theorem c_259_352 : aCod 259 352 = some (.iload 3, 353) := by decide +kernel
theorem c_259_353 : aCod 259 353 = some (.sipush 3, 354) := by decide +kernel
theorem c_259_354 : aCod 259 354 = some (.iadd, 355) := by decide +kernel
theorem c_259_355 : aCod 259 355 = some (.saload, 356) := by decide +kernel
theorem c_259_356 : aCod 259 356 = some (.invokevirtual 188, 359) := by decide +kernel
theorem c_259_359 : aCod 259 359 = some (.if_icmp .eq 983, 362) := by decide +kernel
theorem c_259_362 : aCod 259 362 = some (.sipush 0, 363) := by decide +kernel
theorem c_259_363 : aCod 259 363 = some (.ireturn, 364) := by decide +kernel
theorem c_259_364 : aCod 259 364 = some (.aload 1, 365) := by decide +kernel
theorem c_259_365 : aCod 259 365 = some (.aload 0, 366) := by decide +kernel
theorem c_259_366 : aCod 259 366 = some (.iload 3, 367) := by decide +kernel
theorem c_259_367 : aCod 259 367 = some (.sipush 1, 368) := by decide +kernel
theorem c_259_368 : aCod 259 368 = some (.iadd, 369) := by decide +kernel
theorem c_259_369 : aCod 259 369 = some (.saload, 370) := by decide +kernel
theorem c_259_370 : aCod 259 370 = some (.aload 0, 371) := by decide +kernel
theorem c_259_371 : aCod 259 371 = some (.iload 3, 372) := by decide +kernel
theorem c_259_372 : aCod 259 372 = some (.sipush 2, 373) := by decide +kernel
theorem c_259_373 : aCod 259 373 = some (.iadd, 374) := by decide +kernel
theorem c_259_374 : aCod 259 374 = some (.saload, 375) := by decide +kernel
theorem c_259_375 : aCod 259 375 = some (.invokevirtual 82, 378) := by decide +kernel
theorem c_259_378 : aCod 259 378 = some (.aload 2, 379) := by decide +kernel
theorem c_259_379 : aCod 259 379 = some (.aload 0, 380) := by decide +kernel
theorem c_259_380 : aCod 259 380 = some (.iload 3, 381) := by decide +kernel
theorem c_259_381 : aCod 259 381 = some (.sipush 1, 382) := by decide +kernel
theorem c_259_382 : aCod 259 382 = some (.iadd, 383) := by decide +kernel
theorem c_259_383 : aCod 259 383 = some (.saload, 384) := by decide +kernel
theorem c_259_384 : aCod 259 384 = some (.aload 0, 385) := by decide +kernel
theorem c_259_385 : aCod 259 385 = some (.iload 3, 386) := by decide +kernel
theorem c_259_386 : aCod 259 386 = some (.sipush 2, 387) := by decide +kernel
theorem c_259_387 : aCod 259 387 = some (.iadd, 388) := by decide +kernel
theorem c_259_388 : aCod 259 388 = some (.saload, 389) := by decide +kernel
theorem c_259_389 : aCod 259 389 = some (.invokevirtual 189, 392) := by decide +kernel
theorem c_259_392 : aCod 259 392 = some (.if_icmp .eq 983, 395) := by decide +kernel
theorem c_259_395 : aCod 259 395 = some (.sipush 0, 396) := by decide +kernel
theorem c_259_396 : aCod 259 396 = some (.ireturn, 397) := by decide +kernel
theorem c_259_397 : aCod 259 397 = some (.aload 1, 398) := by decide +kernel
theorem c_259_398 : aCod 259 398 = some (.aload 0, 399) := by decide +kernel
theorem c_259_399 : aCod 259 399 = some (.iload 3, 400) := by decide +kernel
theorem c_259_400 : aCod 259 400 = some (.sipush 1, 401) := by decide +kernel
theorem c_259_401 : aCod 259 401 = some (.iadd, 402) := by decide +kernel
theorem c_259_402 : aCod 259 402 = some (.saload, 403) := by decide +kernel
theorem c_259_403 : aCod 259 403 = some (.aload 0, 404) := by decide +kernel
theorem c_259_404 : aCod 259 404 = some (.iload 3, 405) := by decide +kernel
theorem c_259_405 : aCod 259 405 = some (.sipush 2, 406) := by decide +kernel
theorem c_259_406 : aCod 259 406 = some (.iadd, 407) := by decide +kernel
theorem c_259_407 : aCod 259 407 = some (.saload, 408) := by decide +kernel
theorem c_259_408 : aCod 259 408 = some (.invokevirtual 83, 411) := by decide +kernel
theorem c_259_411 : aCod 259 411 = some (.aload 2, 412) := by decide +kernel
theorem c_259_412 : aCod 259 412 = some (.aload 0, 413) := by decide +kernel
theorem c_259_413 : aCod 259 413 = some (.iload 3, 414) := by decide +kernel
theorem c_259_414 : aCod 259 414 = some (.sipush 1, 415) := by decide +kernel
theorem c_259_415 : aCod 259 415 = some (.iadd, 416) := by decide +kernel
theorem c_259_416 : aCod 259 416 = some (.saload, 417) := by decide +kernel
theorem c_259_417 : aCod 259 417 = some (.aload 0, 418) := by decide +kernel
theorem c_259_418 : aCod 259 418 = some (.iload 3, 419) := by decide +kernel
theorem c_259_419 : aCod 259 419 = some (.sipush 2, 420) := by decide +kernel
theorem c_259_420 : aCod 259 420 = some (.iadd, 421) := by decide +kernel
theorem c_259_421 : aCod 259 421 = some (.saload, 422) := by decide +kernel
theorem c_259_422 : aCod 259 422 = some (.invokevirtual 190, 425) := by decide +kernel
theorem c_259_425 : aCod 259 425 = some (.if_icmp .eq 983, 428) := by decide +kernel
theorem c_259_428 : aCod 259 428 = some (.sipush 0, 429) := by decide +kernel
theorem c_259_429 : aCod 259 429 = some (.ireturn, 430) := by decide +kernel
theorem c_259_430 : aCod 259 430 = some (.aload 1, 431) := by decide +kernel
theorem c_259_431 : aCod 259 431 = some (.aload 0, 432) := by decide +kernel
theorem c_259_432 : aCod 259 432 = some (.iload 3, 433) := by decide +kernel
theorem c_259_433 : aCod 259 433 = some (.sipush 1, 434) := by decide +kernel
theorem c_259_434 : aCod 259 434 = some (.iadd, 435) := by decide +kernel
theorem c_259_435 : aCod 259 435 = some (.saload, 436) := by decide +kernel
theorem c_259_436 : aCod 259 436 = some (.invokevirtual 84, 439) := by decide +kernel
theorem c_259_439 : aCod 259 439 = some (.aload 2, 440) := by decide +kernel
theorem c_259_440 : aCod 259 440 = some (.aload 0, 441) := by decide +kernel
theorem c_259_441 : aCod 259 441 = some (.iload 3, 442) := by decide +kernel
theorem c_259_442 : aCod 259 442 = some (.sipush 1, 443) := by decide +kernel
theorem c_259_443 : aCod 259 443 = some (.iadd, 444) := by decide +kernel
theorem c_259_444 : aCod 259 444 = some (.saload, 445) := by decide +kernel
theorem c_259_445 : aCod 259 445 = some (.invokevirtual 191, 448) := by decide +kernel
theorem c_259_448 : aCod 259 448 = some (.if_icmp .eq 983, 451) := by decide +kernel
theorem c_259_451 : aCod 259 451 = some (.sipush 0, 452) := by decide +kernel
theorem c_259_452 : aCod 259 452 = some (.ireturn, 453) := by decide +kernel
theorem c_259_453 : aCod 259 453 = some (.aload 1, 454) := by decide +kernel
theorem c_259_454 : aCod 259 454 = some (.aload 0, 455) := by decide +kernel
theorem c_259_455 : aCod 259 455 = some (.iload 3, 456) := by decide +kernel
theorem c_259_456 : aCod 259 456 = some (.sipush 1, 457) := by decide +kernel
theorem c_259_457 : aCod 259 457 = some (.iadd, 458) := by decide +kernel
theorem c_259_458 : aCod 259 458 = some (.saload, 459) := by decide +kernel
theorem c_259_459 : aCod 259 459 = some (.aload 0, 460) := by decide +kernel
theorem c_259_460 : aCod 259 460 = some (.iload 3, 461) := by decide +kernel
theorem c_259_461 : aCod 259 461 = some (.sipush 2, 462) := by decide +kernel
theorem c_259_462 : aCod 259 462 = some (.iadd, 463) := by decide +kernel
theorem c_259_463 : aCod 259 463 = some (.saload, 464) := by decide +kernel
theorem c_259_464 : aCod 259 464 = some (.invokevirtual 85, 467) := by decide +kernel
theorem c_259_467 : aCod 259 467 = some (.aload 2, 468) := by decide +kernel
theorem c_259_468 : aCod 259 468 = some (.aload 0, 469) := by decide +kernel
theorem c_259_469 : aCod 259 469 = some (.iload 3, 470) := by decide +kernel
theorem c_259_470 : aCod 259 470 = some (.sipush 1, 471) := by decide +kernel
theorem c_259_471 : aCod 259 471 = some (.iadd, 472) := by decide +kernel
theorem c_259_472 : aCod 259 472 = some (.saload, 473) := by decide +kernel
theorem c_259_473 : aCod 259 473 = some (.aload 0, 474) := by decide +kernel
theorem c_259_474 : aCod 259 474 = some (.iload 3, 475) := by decide +kernel
theorem c_259_475 : aCod 259 475 = some (.sipush 2, 476) := by decide +kernel
theorem c_259_476 : aCod 259 476 = some (.iadd, 477) := by decide +kernel
theorem c_259_477 : aCod 259 477 = some (.saload, 478) := by decide +kernel
theorem c_259_478 : aCod 259 478 = some (.invokevirtual 192, 481) := by decide +kernel
theorem c_259_481 : aCod 259 481 = some (.if_icmp .eq 983, 484) := by decide +kernel
theorem c_259_484 : aCod 259 484 = some (.sipush 0, 485) := by decide +kernel
theorem c_259_485 : aCod 259 485 = some (.ireturn, 486) := by decide +kernel
theorem c_259_486 : aCod 259 486 = some (.aload 1, 487) := by decide +kernel
theorem c_259_487 : aCod 259 487 = some (.aload 0, 488) := by decide +kernel
theorem c_259_488 : aCod 259 488 = some (.iload 3, 489) := by decide +kernel
theorem c_259_489 : aCod 259 489 = some (.sipush 1, 490) := by decide +kernel
theorem c_259_490 : aCod 259 490 = some (.iadd, 491) := by decide +kernel
theorem c_259_491 : aCod 259 491 = some (.saload, 492) := by decide +kernel
theorem c_259_492 : aCod 259 492 = some (.aload 0, 493) := by decide +kernel
theorem c_259_493 : aCod 259 493 = some (.iload 3, 494) := by decide +kernel
theorem c_259_494 : aCod 259 494 = some (.sipush 2, 495) := by decide +kernel
theorem c_259_495 : aCod 259 495 = some (.iadd, 496) := by decide +kernel
theorem c_259_496 : aCod 259 496 = some (.saload, 497) := by decide +kernel
theorem c_259_497 : aCod 259 497 = some (.invokevirtual 86, 500) := by decide +kernel
theorem c_259_500 : aCod 259 500 = some (.aload 2, 501) := by decide +kernel
theorem c_259_501 : aCod 259 501 = some (.aload 0, 502) := by decide +kernel
theorem c_259_502 : aCod 259 502 = some (.iload 3, 503) := by decide +kernel
theorem c_259_503 : aCod 259 503 = some (.sipush 1, 504) := by decide +kernel
theorem c_259_504 : aCod 259 504 = some (.iadd, 505) := by decide +kernel
theorem c_259_505 : aCod 259 505 = some (.saload, 506) := by decide +kernel
theorem c_259_506 : aCod 259 506 = some (.aload 0, 507) := by decide +kernel
theorem c_259_507 : aCod 259 507 = some (.iload 3, 508) := by decide +kernel
theorem c_259_508 : aCod 259 508 = some (.sipush 2, 509) := by decide +kernel
theorem c_259_509 : aCod 259 509 = some (.iadd, 510) := by decide +kernel
theorem c_259_510 : aCod 259 510 = some (.saload, 511) := by decide +kernel
theorem c_259_511 : aCod 259 511 = some (.invokevirtual 193, 514) := by decide +kernel
theorem c_259_514 : aCod 259 514 = some (.if_icmp .eq 983, 517) := by decide +kernel
theorem c_259_517 : aCod 259 517 = some (.sipush 0, 518) := by decide +kernel
theorem c_259_518 : aCod 259 518 = some (.ireturn, 519) := by decide +kernel
theorem c_259_519 : aCod 259 519 = some (.aload 1, 520) := by decide +kernel
theorem c_259_520 : aCod 259 520 = some (.aload 0, 521) := by decide +kernel
theorem c_259_521 : aCod 259 521 = some (.iload 3, 522) := by decide +kernel
theorem c_259_522 : aCod 259 522 = some (.sipush 1, 523) := by decide +kernel
theorem c_259_523 : aCod 259 523 = some (.iadd, 524) := by decide +kernel
theorem c_259_524 : aCod 259 524 = some (.saload, 525) := by decide +kernel
theorem c_259_525 : aCod 259 525 = some (.invokevirtual 87, 528) := by decide +kernel
theorem c_259_528 : aCod 259 528 = some (.aload 2, 529) := by decide +kernel
theorem c_259_529 : aCod 259 529 = some (.aload 0, 530) := by decide +kernel
theorem c_259_530 : aCod 259 530 = some (.iload 3, 531) := by decide +kernel
theorem c_259_531 : aCod 259 531 = some (.sipush 1, 532) := by decide +kernel
theorem c_259_532 : aCod 259 532 = some (.iadd, 533) := by decide +kernel
theorem c_259_533 : aCod 259 533 = some (.saload, 534) := by decide +kernel
theorem c_259_534 : aCod 259 534 = some (.invokevirtual 194, 537) := by decide +kernel
theorem c_259_537 : aCod 259 537 = some (.if_icmp .eq 983, 540) := by decide +kernel
theorem c_259_540 : aCod 259 540 = some (.sipush 0, 541) := by decide +kernel
theorem c_259_541 : aCod 259 541 = some (.ireturn, 542) := by decide +kernel
theorem c_259_542 : aCod 259 542 = some (.aload 1, 543) := by decide +kernel
theorem c_259_543 : aCod 259 543 = some (.aload 0, 544) := by decide +kernel
theorem c_259_544 : aCod 259 544 = some (.iload 3, 545) := by decide +kernel
theorem c_259_545 : aCod 259 545 = some (.sipush 1, 546) := by decide +kernel
theorem c_259_546 : aCod 259 546 = some (.iadd, 547) := by decide +kernel
theorem c_259_547 : aCod 259 547 = some (.saload, 548) := by decide +kernel
theorem c_259_548 : aCod 259 548 = some (.invokevirtual 88, 551) := by decide +kernel
theorem c_259_551 : aCod 259 551 = some (.aload 2, 552) := by decide +kernel
theorem c_259_552 : aCod 259 552 = some (.aload 0, 553) := by decide +kernel
theorem c_259_553 : aCod 259 553 = some (.iload 3, 554) := by decide +kernel
theorem c_259_554 : aCod 259 554 = some (.sipush 1, 555) := by decide +kernel
theorem c_259_555 : aCod 259 555 = some (.iadd, 556) := by decide +kernel
theorem c_259_556 : aCod 259 556 = some (.saload, 557) := by decide +kernel
theorem c_259_557 : aCod 259 557 = some (.invokevirtual 196, 560) := by decide +kernel
theorem c_259_560 : aCod 259 560 = some (.if_icmp .eq 983, 563) := by decide +kernel
theorem c_259_563 : aCod 259 563 = some (.sipush 0, 564) := by decide +kernel
theorem c_259_564 : aCod 259 564 = some (.ireturn, 565) := by decide +kernel
theorem c_259_565 : aCod 259 565 = some (.aload 1, 566) := by decide +kernel
theorem c_259_566 : aCod 259 566 = some (.aload 0, 567) := by decide +kernel
theorem c_259_567 : aCod 259 567 = some (.iload 3, 568) := by decide +kernel
theorem c_259_568 : aCod 259 568 = some (.sipush 1, 569) := by decide +kernel
theorem c_259_569 : aCod 259 569 = some (.iadd, 570) := by decide +kernel
theorem c_259_570 : aCod 259 570 = some (.saload, 571) := by decide +kernel
theorem c_259_571 : aCod 259 571 = some (.aload 0, 572) := by decide +kernel
theorem c_259_572 : aCod 259 572 = some (.iload 3, 573) := by decide +kernel
theorem c_259_573 : aCod 259 573 = some (.sipush 2, 574) := by decide +kernel
theorem c_259_574 : aCod 259 574 = some (.iadd, 575) := by decide +kernel
theorem c_259_575 : aCod 259 575 = some (.saload, 576) := by decide +kernel
theorem c_259_576 : aCod 259 576 = some (.invokevirtual 89, 579) := by decide +kernel
theorem c_259_579 : aCod 259 579 = some (.aload 2, 580) := by decide +kernel
theorem c_259_580 : aCod 259 580 = some (.aload 0, 581) := by decide +kernel
theorem c_259_581 : aCod 259 581 = some (.iload 3, 582) := by decide +kernel
theorem c_259_582 : aCod 259 582 = some (.sipush 1, 583) := by decide +kernel
theorem c_259_583 : aCod 259 583 = some (.iadd, 584) := by decide +kernel
theorem c_259_584 : aCod 259 584 = some (.saload, 585) := by decide +kernel
theorem c_259_585 : aCod 259 585 = some (.aload 0, 586) := by decide +kernel
theorem c_259_586 : aCod 259 586 = some (.iload 3, 587) := by decide +kernel
theorem c_259_587 : aCod 259 587 = some (.sipush 2, 588) := by decide +kernel
theorem c_259_588 : aCod 259 588 = some (.iadd, 589) := by decide +kernel
theorem c_259_589 : aCod 259 589 = some (.saload, 590) := by decide +kernel
theorem c_259_590 : aCod 259 590 = some (.invokevirtual 197, 593) := by decide +kernel
theorem c_259_593 : aCod 259 593 = some (.if_icmp .eq 983, 596) := by decide +kernel
theorem c_259_596 : aCod 259 596 = some (.sipush 0, 597) := by decide +kernel
theorem c_259_597 : aCod 259 597 = some (.ireturn, 598) := by decide +kernel
theorem c_259_598 : aCod 259 598 = some (.aload 1, 599) := by decide +kernel
theorem c_259_599 : aCod 259 599 = some (.invokevirtual 90, 602) := by decide +kernel
theorem c_259_602 : aCod 259 602 = some (.aload 2, 603) := by decide +kernel
theorem c_259_603 : aCod 259 603 = some (.invokevirtual 198, 606) := by decide +kernel
theorem c_259_606 : aCod 259 606 = some (.if_icmp .eq 983, 609) := by decide +kernel
theorem c_259_609 : aCod 259 609 = some (.sipush 0, 610) := by decide +kernel
theorem c_259_610 : aCod 259 610 = some (.ireturn, 611) := by decide +kernel
theorem c_259_611 : aCod 259 611 = some (.aload 1, 612) := by decide +kernel
theorem c_259_612 : aCod 259 612 = some (.aload 0, 613) := by decide +kernel
theorem c_259_613 : aCod 259 613 = some (.iload 3, 614) := by decide +kernel
theorem c_259_614 : aCod 259 614 = some (.sipush 1, 615) := by decide +kernel
theorem c_259_615 : aCod 259 615 = some (.iadd, 616) := by decide +kernel
theorem c_259_616 : aCod 259 616 = some (.saload, 617) := by decide +kernel
theorem c_259_617 : aCod 259 617 = some (.invokevirtual 91, 620) := by decide +kernel
theorem c_259_620 : aCod 259 620 = some (.aload 2, 621) := by decide +kernel
theorem c_259_621 : aCod 259 621 = some (.aload 0, 622) := by decide +kernel
theorem c_259_622 : aCod 259 622 = some (.iload 3, 623) := by decide +kernel
theorem c_259_623 : aCod 259 623 = some (.sipush 1, 624) := by decide +kernel
theorem c_259_624 : aCod 259 624 = some (.iadd, 625) := by decide +kernel
theorem c_259_625 : aCod 259 625 = some (.saload, 626) := by decide +kernel
theorem c_259_626 : aCod 259 626 = some (.invokevirtual 201, 629) := by decide +kernel
theorem c_259_629 : aCod 259 629 = some (.if_icmp .eq 983, 632) := by decide +kernel
theorem c_259_632 : aCod 259 632 = some (.sipush 0, 633) := by decide +kernel
theorem c_259_633 : aCod 259 633 = some (.ireturn, 634) := by decide +kernel
theorem c_259_634 : aCod 259 634 = some (.aload 1, 635) := by decide +kernel
theorem c_259_635 : aCod 259 635 = some (.aload 0, 636) := by decide +kernel
theorem c_259_636 : aCod 259 636 = some (.iload 3, 637) := by decide +kernel
theorem c_259_637 : aCod 259 637 = some (.sipush 1, 638) := by decide +kernel
theorem c_259_638 : aCod 259 638 = some (.iadd, 639) := by decide +kernel
theorem c_259_639 : aCod 259 639 = some (.saload, 640) := by decide +kernel
theorem c_259_640 : aCod 259 640 = some (.invokevirtual 92, 643) := by decide +kernel
theorem c_259_643 : aCod 259 643 = some (.aload 2, 644) := by decide +kernel
theorem c_259_644 : aCod 259 644 = some (.aload 0, 645) := by decide +kernel
theorem c_259_645 : aCod 259 645 = some (.iload 3, 646) := by decide +kernel
theorem c_259_646 : aCod 259 646 = some (.sipush 1, 647) := by decide +kernel
theorem c_259_647 : aCod 259 647 = some (.iadd, 648) := by decide +kernel
theorem c_259_648 : aCod 259 648 = some (.saload, 649) := by decide +kernel
theorem c_259_649 : aCod 259 649 = some (.invokevirtual 202, 652) := by decide +kernel
theorem c_259_652 : aCod 259 652 = some (.if_icmp .eq 983, 655) := by decide +kernel
theorem c_259_655 : aCod 259 655 = some (.sipush 0, 656) := by decide +kernel
theorem c_259_656 : aCod 259 656 = some (.ireturn, 657) := by decide +kernel
theorem c_259_657 : aCod 259 657 = some (.aload 1, 658) := by decide +kernel
theorem c_259_658 : aCod 259 658 = some (.aload 0, 659) := by decide +kernel
theorem c_259_659 : aCod 259 659 = some (.iload 3, 660) := by decide +kernel
theorem c_259_660 : aCod 259 660 = some (.sipush 1, 661) := by decide +kernel
theorem c_259_661 : aCod 259 661 = some (.iadd, 662) := by decide +kernel
theorem c_259_662 : aCod 259 662 = some (.saload, 663) := by decide +kernel
theorem c_259_663 : aCod 259 663 = some (.aload 0, 664) := by decide +kernel
theorem c_259_664 : aCod 259 664 = some (.iload 3, 665) := by decide +kernel
theorem c_259_665 : aCod 259 665 = some (.sipush 2, 666) := by decide +kernel
theorem c_259_666 : aCod 259 666 = some (.iadd, 667) := by decide +kernel
theorem c_259_667 : aCod 259 667 = some (.saload, 668) := by decide +kernel
theorem c_259_668 : aCod 259 668 = some (.aload 0, 669) := by decide +kernel
theorem c_259_669 : aCod 259 669 = some (.iload 3, 670) := by decide +kernel
theorem c_259_670 : aCod 259 670 = some (.sipush 3, 671) := by decide +kernel
theorem c_259_671 : aCod 259 671 = some (.iadd, 672) := by decide +kernel
theorem c_259_672 : aCod 259 672 = some (.saload, 673) := by decide +kernel
theorem c_259_673 : aCod 259 673 = some (.aload 0, 674) := by decide +kernel
theorem c_259_674 : aCod 259 674 = some (.iload 3, 675) := by decide +kernel
theorem c_259_675 : aCod 259 675 = some (.sipush 4, 676) := by decide +kernel
theorem c_259_676 : aCod 259 676 = some (.iadd, 677) := by decide +kernel
theorem c_259_677 : aCod 259 677 = some (.saload, 678) := by decide +kernel
theorem c_259_678 : aCod 259 678 = some (.invokevirtual 93, 681) := by decide +kernel
theorem c_259_681 : aCod 259 681 = some (.aload 2, 682) := by decide +kernel
theorem c_259_682 : aCod 259 682 = some (.aload 0, 683) := by decide +kernel
theorem c_259_683 : aCod 259 683 = some (.iload 3, 684) := by decide +kernel
theorem c_259_684 : aCod 259 684 = some (.sipush 1, 685) := by decide +kernel
theorem c_259_685 : aCod 259 685 = some (.iadd, 686) := by decide +kernel
theorem c_259_686 : aCod 259 686 = some (.saload, 687) := by decide +kernel
theorem c_259_687 : aCod 259 687 = some (.aload 0, 688) := by decide +kernel
theorem c_259_688 : aCod 259 688 = some (.iload 3, 689) := by decide +kernel
theorem c_259_689 : aCod 259 689 = some (.sipush 2, 690) := by decide +kernel
theorem c_259_690 : aCod 259 690 = some (.iadd, 691) := by decide +kernel
theorem c_259_691 : aCod 259 691 = some (.saload, 692) := by decide +kernel
theorem c_259_692 : aCod 259 692 = some (.aload 0, 693) := by decide +kernel
theorem c_259_693 : aCod 259 693 = some (.iload 3, 694) := by decide +kernel
theorem c_259_694 : aCod 259 694 = some (.sipush 3, 695) := by decide +kernel
theorem c_259_695 : aCod 259 695 = some (.iadd, 696) := by decide +kernel
theorem c_259_696 : aCod 259 696 = some (.saload, 697) := by decide +kernel
theorem c_259_697 : aCod 259 697 = some (.aload 0, 698) := by decide +kernel
theorem c_259_698 : aCod 259 698 = some (.iload 3, 699) := by decide +kernel
theorem c_259_699 : aCod 259 699 = some (.sipush 4, 700) := by decide +kernel
theorem c_259_700 : aCod 259 700 = some (.iadd, 701) := by decide +kernel
theorem c_259_701 : aCod 259 701 = some (.saload, 702) := by decide +kernel
theorem c_259_702 : aCod 259 702 = some (.invokevirtual 203, 705) := by decide +kernel
theorem c_259_705 : aCod 259 705 = some (.if_icmp .eq 983, 708) := by decide +kernel
theorem c_259_708 : aCod 259 708 = some (.sipush 0, 709) := by decide +kernel
theorem c_259_709 : aCod 259 709 = some (.ireturn, 710) := by decide +kernel
theorem c_259_710 : aCod 259 710 = some (.aload 1, 711) := by decide +kernel
theorem c_259_711 : aCod 259 711 = some (.invokevirtual 94, 714) := by decide +kernel
theorem c_259_714 : aCod 259 714 = some (.aload 2, 715) := by decide +kernel
theorem c_259_715 : aCod 259 715 = some (.invokevirtual 206, 718) := by decide +kernel
theorem c_259_718 : aCod 259 718 = some (.if_icmp .eq 983, 721) := by decide +kernel
theorem c_259_721 : aCod 259 721 = some (.sipush 0, 722) := by decide +kernel
theorem c_259_722 : aCod 259 722 = some (.ireturn, 723) := by decide +kernel
theorem c_259_723 : aCod 259 723 = some (.aload 1, 724) := by decide +kernel
theorem c_259_724 : aCod 259 724 = some (.aload 0, 725) := by decide +kernel
theorem c_259_725 : aCod 259 725 = some (.iload 3, 726) := by decide +kernel
theorem c_259_726 : aCod 259 726 = some (.sipush 1, 727) := by decide +kernel
theorem c_259_727 : aCod 259 727 = some (.iadd, 728) := by decide +kernel
theorem c_259_728 : aCod 259 728 = some (.saload, 729) := by decide +kernel
theorem c_259_729 : aCod 259 729 = some (.invokevirtual 95, 732) := by decide +kernel
theorem c_259_732 : aCod 259 732 = some (.aload 2, 733) := by decide +kernel
theorem c_259_733 : aCod 259 733 = some (.aload 0, 734) := by decide +kernel
theorem c_259_734 : aCod 259 734 = some (.iload 3, 735) := by decide +kernel
theorem c_259_735 : aCod 259 735 = some (.sipush 1, 736) := by decide +kernel
theorem c_259_736 : aCod 259 736 = some (.iadd, 737) := by decide +kernel
theorem c_259_737 : aCod 259 737 = some (.saload, 738) := by decide +kernel
theorem c_259_738 : aCod 259 738 = some (.invokevirtual 207, 741) := by decide +kernel
theorem c_259_741 : aCod 259 741 = some (.if_icmp .eq 983, 744) := by decide +kernel
theorem c_259_744 : aCod 259 744 = some (.sipush 0, 745) := by decide +kernel
theorem c_259_745 : aCod 259 745 = some (.ireturn, 746) := by decide +kernel
theorem c_259_746 : aCod 259 746 = some (.aload 1, 747) := by decide +kernel
theorem c_259_747 : aCod 259 747 = some (.aload 0, 748) := by decide +kernel
theorem c_259_748 : aCod 259 748 = some (.iload 3, 749) := by decide +kernel
theorem c_259_749 : aCod 259 749 = some (.sipush 1, 750) := by decide +kernel
theorem c_259_750 : aCod 259 750 = some (.iadd, 751) := by decide +kernel
theorem c_259_751 : aCod 259 751 = some (.saload, 752) := by decide +kernel
theorem c_259_752 : aCod 259 752 = some (.invokevirtual 96, 755) := by decide +kernel
theorem c_259_755 : aCod 259 755 = some (.aload 2, 756) := by decide +kernel
theorem c_259_756 : aCod 259 756 = some (.aload 0, 757) := by decide +kernel
theorem c_259_757 : aCod 259 757 = some (.iload 3, 758) := by decide +kernel
theorem c_259_758 : aCod 259 758 = some (.sipush 1, 759) := by decide +kernel
theorem c_259_759 : aCod 259 759 = some (.iadd, 760) := by decide +kernel
theorem c_259_760 : aCod 259 760 = some (.saload, 761) := by decide +kernel
theorem c_259_761 : aCod 259 761 = some (.invokevirtual 209, 764) := by decide +kernel
theorem c_259_764 : aCod 259 764 = some (.if_icmp .eq 983, 767) := by decide +kernel
theorem c_259_767 : aCod 259 767 = some (.sipush 0, 768) := by decide +kernel
theorem c_259_768 : aCod 259 768 = some (.ireturn, 769) := by decide +kernel
theorem c_259_769 : aCod 259 769 = some (.aload 1, 770) := by decide +kernel
theorem c_259_770 : aCod 259 770 = some (.aload 0, 771) := by decide +kernel
theorem c_259_771 : aCod 259 771 = some (.iload 3, 772) := by decide +kernel
theorem c_259_772 : aCod 259 772 = some (.sipush 1, 773) := by decide +kernel
theorem c_259_773 : aCod 259 773 = some (.iadd, 774) := by decide +kernel
theorem c_259_774 : aCod 259 774 = some (.saload, 775) := by decide +kernel
theorem c_259_775 : aCod 259 775 = some (.invokevirtual 97, 778) := by decide +kernel
theorem c_259_778 : aCod 259 778 = some (.aload 2, 779) := by decide +kernel
theorem c_259_779 : aCod 259 779 = some (.aload 0, 780) := by decide +kernel
theorem c_259_780 : aCod 259 780 = some (.iload 3, 781) := by decide +kernel
theorem c_259_781 : aCod 259 781 = some (.sipush 1, 782) := by decide +kernel
theorem c_259_782 : aCod 259 782 = some (.iadd, 783) := by decide +kernel
theorem c_259_783 : aCod 259 783 = some (.saload, 784) := by decide +kernel
theorem c_259_784 : aCod 259 784 = some (.invokevirtual 212, 787) := by decide +kernel
theorem c_259_787 : aCod 259 787 = some (.if_icmp .eq 983, 790) := by decide +kernel
theorem c_259_790 : aCod 259 790 = some (.sipush 0, 791) := by decide +kernel
theorem c_259_791 : aCod 259 791 = some (.ireturn, 792) := by decide +kernel
theorem c_259_792 : aCod 259 792 = some (.aload 1, 793) := by decide +kernel
theorem c_259_793 : aCod 259 793 = some (.aload 0, 794) := by decide +kernel
theorem c_259_794 : aCod 259 794 = some (.iload 3, 795) := by decide +kernel
theorem c_259_795 : aCod 259 795 = some (.sipush 1, 796) := by decide +kernel
theorem c_259_796 : aCod 259 796 = some (.iadd, 797) := by decide +kernel
theorem c_259_797 : aCod 259 797 = some (.saload, 798) := by decide +kernel
theorem c_259_798 : aCod 259 798 = some (.invokevirtual 98, 801) := by decide +kernel
theorem c_259_801 : aCod 259 801 = some (.aload 2, 802) := by decide +kernel
theorem c_259_802 : aCod 259 802 = some (.aload 0, 803) := by decide +kernel
theorem c_259_803 : aCod 259 803 = some (.iload 3, 804) := by decide +kernel
theorem c_259_804 : aCod 259 804 = some (.sipush 1, 805) := by decide +kernel
theorem c_259_805 : aCod 259 805 = some (.iadd, 806) := by decide +kernel
theorem c_259_806 : aCod 259 806 = some (.saload, 807) := by decide +kernel
theorem c_259_807 : aCod 259 807 = some (.invokevirtual 213, 810) := by decide +kernel
theorem c_259_810 : aCod 259 810 = some (.if_icmp .eq 983, 813) := by decide +kernel
theorem c_259_813 : aCod 259 813 = some (.sipush 0, 814) := by decide +kernel
theorem c_259_814 : aCod 259 814 = some (.ireturn, 815) := by decide +kernel
theorem c_259_815 : aCod 259 815 = some (.aload 1, 816) := by decide +kernel
theorem c_259_816 : aCod 259 816 = some (.aload 0, 817) := by decide +kernel
theorem c_259_817 : aCod 259 817 = some (.iload 3, 818) := by decide +kernel
theorem c_259_818 : aCod 259 818 = some (.sipush 1, 819) := by decide +kernel
theorem c_259_819 : aCod 259 819 = some (.iadd, 820) := by decide +kernel
theorem c_259_820 : aCod 259 820 = some (.saload, 821) := by decide +kernel
theorem c_259_821 : aCod 259 821 = some (.invokevirtual 99, 824) := by decide +kernel
theorem c_259_824 : aCod 259 824 = some (.aload 2, 825) := by decide +kernel
theorem c_259_825 : aCod 259 825 = some (.aload 0, 826) := by decide +kernel
theorem c_259_826 : aCod 259 826 = some (.iload 3, 827) := by decide +kernel
theorem c_259_827 : aCod 259 827 = some (.sipush 1, 828) := by decide +kernel
theorem c_259_828 : aCod 259 828 = some (.iadd, 829) := by decide +kernel
theorem c_259_829 : aCod 259 829 = some (.saload, 830) := by decide +kernel
theorem c_259_830 : aCod 259 830 = some (.invokevirtual 214, 833) := by decide +kernel
theorem c_259_833 : aCod 259 833 = some (.if_icmp .eq 983, 836) := by decide +kernel
theorem c_259_836 : aCod 259 836 = some (.sipush 0, 837) := by decide +kernel
theorem c_259_837 : aCod 259 837 = some (.ireturn, 838) := by decide +kernel
theorem c_259_838 : aCod 259 838 = some (.aload 1, 839) := by decide +kernel
theorem c_259_839 : aCod 259 839 = some (.aload 0, 840) := by decide +kernel
theorem c_259_840 : aCod 259 840 = some (.iload 3, 841) := by decide +kernel
theorem c_259_841 : aCod 259 841 = some (.sipush 1, 842) := by decide +kernel
theorem c_259_842 : aCod 259 842 = some (.iadd, 843) := by decide +kernel
theorem c_259_843 : aCod 259 843 = some (.saload, 844) := by decide +kernel
theorem c_259_844 : aCod 259 844 = some (.invokevirtual 100, 847) := by decide +kernel
theorem c_259_847 : aCod 259 847 = some (.aload 2, 848) := by decide +kernel
theorem c_259_848 : aCod 259 848 = some (.aload 0, 849) := by decide +kernel
theorem c_259_849 : aCod 259 849 = some (.iload 3, 850) := by decide +kernel
theorem c_259_850 : aCod 259 850 = some (.sipush 1, 851) := by decide +kernel
theorem c_259_851 : aCod 259 851 = some (.iadd, 852) := by decide +kernel
theorem c_259_852 : aCod 259 852 = some (.saload, 853) := by decide +kernel
theorem c_259_853 : aCod 259 853 = some (.invokevirtual 217, 856) := by decide +kernel
theorem c_259_856 : aCod 259 856 = some (.if_icmp .eq 983, 859) := by decide +kernel
theorem c_259_859 : aCod 259 859 = some (.sipush 0, 860) := by decide +kernel
theorem c_259_860 : aCod 259 860 = some (.ireturn, 861) := by decide +kernel
theorem c_259_861 : aCod 259 861 = some (.aload 1, 862) := by decide +kernel
theorem c_259_862 : aCod 259 862 = some (.invokevirtual 101, 865) := by decide +kernel
theorem c_259_865 : aCod 259 865 = some (.aload 2, 866) := by decide +kernel
theorem c_259_866 : aCod 259 866 = some (.invokevirtual 211, 869) := by decide +kernel
theorem c_259_869 : aCod 259 869 = some (.if_icmp .eq 983, 872) := by decide +kernel
theorem c_259_872 : aCod 259 872 = some (.sipush 0, 873) := by decide +kernel
theorem c_259_873 : aCod 259 873 = some (.ireturn, 874) := by decide +kernel
theorem c_259_874 : aCod 259 874 = some (.aload 1, 875) := by decide +kernel
theorem c_259_875 : aCod 259 875 = some (.aload 0, 876) := by decide +kernel
theorem c_259_876 : aCod 259 876 = some (.iload 3, 877) := by decide +kernel
theorem c_259_877 : aCod 259 877 = some (.sipush 1, 878) := by decide +kernel
theorem c_259_878 : aCod 259 878 = some (.iadd, 879) := by decide +kernel
theorem c_259_879 : aCod 259 879 = some (.saload, 880) := by decide +kernel
theorem c_259_880 : aCod 259 880 = some (.invokevirtual 102, 883) := by decide +kernel
theorem c_259_883 : aCod 259 883 = some (.aload 2, 884) := by decide +kernel
theorem c_259_884 : aCod 259 884 = some (.aload 0, 885) := by decide +kernel
theorem c_259_885 : aCod 259 885 = some (.iload 3, 886) := by decide +kernel
theorem c_259_886 : aCod 259 886 = some (.sipush 1, 887) := by decide +kernel
theorem c_259_887 : aCod 259 887 = some (.iadd, 888) := by decide +kernel
theorem c_259_888 : aCod 259 888 = some (.saload, 889) := by decide +kernel
theorem c_259_889 : aCod 259 889 = some (.invokevirtual 215, 892) := by decide +kernel
theorem c_259_892 : aCod 259 892 = some (.if_icmp .eq 983, 895) := by decide +kernel
theorem c_259_895 : aCod 259 895 = some (.sipush 0, 896) := by decide +kernel
theorem c_259_896 : aCod 259 896 = some (.ireturn, 897) := by decide +kernel
theorem c_259_897 : aCod 259 897 = some (.aload 1, 898) := by decide +kernel
theorem c_259_898 : aCod 259 898 = some (.invokevirtual 103, 901) := by decide +kernel
theorem c_259_901 : aCod 259 901 = some (.aload 2, 902) := by decide +kernel
theorem c_259_902 : aCod 259 902 = some (.invokevirtual 246, 905) := by decide +kernel
theorem c_259_905 : aCod 259 905 = some (.lcmp, 906) := by decide +kernel
theorem c_259_906 : aCod 259 906 = some (.ifCond .eq 983, 909) := by decide +kernel
theorem c_259_909 : aCod 259 909 = some (.sipush 0, 910) := by decide +kernel
theorem c_259_910 : aCod 259 910 = some (.ireturn, 911) := by decide +kernel
theorem c_259_911 : aCod 259 911 = some (.aload 1, 912) := by decide +kernel
theorem c_259_912 : aCod 259 912 = some (.invokevirtual 104, 915) := by decide +kernel
theorem c_259_915 : aCod 259 915 = some (.aload 2, 916) := by decide +kernel
theorem c_259_916 : aCod 259 916 = some (.invokevirtual 250, 919) := by decide +kernel
theorem c_259_919 : aCod 259 919 = some (.if_icmp .eq 983, 922) := by decide +kernel
theorem c_259_922 : aCod 259 922 = some (.sipush 0, 923) := by decide +kernel
theorem c_259_923 : aCod 259 923 = some (.ireturn, 924) := by decide +kernel
theorem c_259_924 : aCod 259 924 = some (.aload 1, 925) := by decide +kernel
theorem c_259_925 : aCod 259 925 = some (.aload 0, 926) := by decide +kernel
theorem c_259_926 : aCod 259 926 = some (.iload 3, 927) := by decide +kernel
theorem c_259_927 : aCod 259 927 = some (.sipush 1, 928) := by decide +kernel
theorem c_259_928 : aCod 259 928 = some (.iadd, 929) := by decide +kernel
theorem c_259_929 : aCod 259 929 = some (.saload, 930) := by decide +kernel
theorem c_259_930 : aCod 259 930 = some (.invokevirtual 105, 933) := by decide +kernel
theorem c_259_933 : aCod 259 933 = some (.aload 2, 934) := by decide +kernel
theorem c_259_934 : aCod 259 934 = some (.aload 0, 935) := by decide +kernel
theorem c_259_935 : aCod 259 935 = some (.iload 3, 936) := by decide +kernel
theorem c_259_936 : aCod 259 936 = some (.sipush 1, 937) := by decide +kernel
theorem c_259_937 : aCod 259 937 = some (.iadd, 938) := by decide +kernel
theorem c_259_938 : aCod 259 938 = some (.saload, 939) := by decide +kernel
theorem c_259_939 : aCod 259 939 = some (.invokevirtual 251, 942) := by decide +kernel
theorem c_259_942 : aCod 259 942 = some (.if_icmp .eq 983, 945) := by decide +kernel
theorem c_259_945 : aCod 259 945 = some (.sipush 0, 946) := by decide +kernel
theorem c_259_946 : aCod 259 946 = some (.ireturn, 947) := by decide +kernel
theorem c_259_947 : aCod 259 947 = some (.aload 1, 948) := by decide +kernel
theorem c_259_948 : aCod 259 948 = some (.invokevirtual 106, 951) := by decide +kernel
theorem c_259_951 : aCod 259 951 = some (.aload 2, 952) := by decide +kernel
theorem c_259_952 : aCod 259 952 = some (.invokevirtual 255, 955) := by decide +kernel
theorem c_259_955 : aCod 259 955 = some (.if_icmp .eq 983, 958) := by decide +kernel
theorem c_259_958 : aCod 259 958 = some (.sipush 0, 959) := by decide +kernel
theorem c_259_959 : aCod 259 959 = some (.ireturn, 960) := by decide +kernel
theorem c_259_960 : aCod 259 960 = some (.aload 1, 961) := by decide +kernel
theorem c_259_961 : aCod 259 961 = some (.aload 0, 962) := by decide +kernel
theorem c_259_962 : aCod 259 962 = some (.iload 3, 963) := by decide +kernel
theorem c_259_963 : aCod 259 963 = some (.sipush 1, 964) := by decide +kernel
theorem c_259_964 : aCod 259 964 = some (.iadd, 965) := by decide +kernel
theorem c_259_965 : aCod 259 965 = some (.saload, 966) := by decide +kernel
theorem c_259_966 : aCod 259 966 = some (.invokevirtual 107, 969) := by decide +kernel
theorem c_259_969 : aCod 259 969 = some (.aload 2, 970) := by decide +kernel
theorem c_259_970 : aCod 259 970 = some (.aload 0, 971) := by decide +kernel
theorem c_259_971 : aCod 259 971 = some (.iload 3, 972) := by decide +kernel
theorem c_259_972 : aCod 259 972 = some (.sipush 1, 973) := by decide +kernel
theorem c_259_973 : aCod 259 973 = some (.iadd, 974) := by decide +kernel
theorem c_259_974 : aCod 259 974 = some (.saload, 975) := by decide +kernel
theorem c_259_975 : aCod 259 975 = some (.invokevirtual 256, 978) := by decide +kernel
theorem c_259_978 : aCod 259 978 = some (.if_icmp .eq 983, 981) := by decide +kernel
theorem c_259_981 : aCod 259 981 = some (.sipush 0, 982) := by decide +kernel
theorem c_259_982 : aCod 259 982 = some (.ireturn, 983) := by decide +kernel
theorem c_259_983 : aCod 259 983 = some (.iinc 3 6, 986) := by decide +kernel
theorem c_259_986 : aCod 259 986 = some (.goto 18, 989) := by decide +kernel
theorem c_259_989 : aCod 259 989 = some (.sipush 1, 990) := by decide +kernel
theorem c_259_990 : aCod 259 990 = some (.ireturn, 991) := by decide +kernel
