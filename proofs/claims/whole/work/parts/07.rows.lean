theorem dX6_dayGoes_206 : decode cX6_dayGoes 206 = .ok (.ior, 1) := by decide +kernel
theorem dX6_dayGoes_207 : decode cX6_dayGoes 207 = .ok (.invokevirtual 90, 3) := by decide +kernel
theorem dX6_dayGoes_210 : decode cX6_dayGoes 210 = .ok (.aload_n 0, 1) := by decide +kernel
theorem dX6_dayGoes_211 : decode cX6_dayGoes 211 = .ok (.iload_n 2, 1) := by decide +kernel
theorem dX6_dayGoes_212 : decode cX6_dayGoes 212 = .ok (.iconst 3, 1) := by decide +kernel
theorem dX6_dayGoes_213 : decode cX6_dayGoes 213 = .ok (.aload_n 0, 1) := by decide +kernel
theorem dX6_dayGoes_214 : decode cX6_dayGoes 214 = .ok (.iload_n 2, 1) := by decide +kernel
theorem dX6_dayGoes_215 : decode cX6_dayGoes 215 = .ok (.iconst 3, 1) := by decide +kernel
theorem dX6_dayGoes_216 : decode cX6_dayGoes 216 = .ok (.invokevirtual 52, 3) := by decide +kernel
theorem dX6_dayGoes_219 : decode cX6_dayGoes 219 = .ok (.aload_n 0, 1) := by decide +kernel
theorem dX6_dayGoes_220 : decode cX6_dayGoes 220 = .ok (.iload_n 2, 1) := by decide +kernel
theorem dX6_dayGoes_221 : decode cX6_dayGoes 221 = .ok (.invokevirtual 97, 3) := by decide +kernel
theorem dX6_dayGoes_224 : decode cX6_dayGoes 224 = .ok (.iadd, 1) := by decide +kernel
theorem dX6_dayGoes_225 : decode cX6_dayGoes 225 = .ok (.iconst 0, 1) := by decide +kernel
theorem dX6_dayGoes_226 : decode cX6_dayGoes 226 = .ok (.bipush 99, 2) := by decide +kernel
theorem dX6_dayGoes_228 : decode cX6_dayGoes 228 = .ok (.invokestatic 86, 3) := by decide +kernel
theorem dX6_dayGoes_231 : decode cX6_dayGoes 231 = .ok (.invokevirtual 90, 3) := by decide +kernel
theorem dX6_dayGoes_234 : decode cX6_dayGoes 234 = .ok (.iinc 2 1, 3) := by decide +kernel
theorem dX6_dayGoes_237 : decode cX6_dayGoes 237 = .ok (.goto (-195), 3) := by decide +kernel
theorem dX6_dayGoes_240 : decode cX6_dayGoes 240 = .ok (.aload_n 0, 1) := by decide +kernel
theorem dX6_dayGoes_241 : decode cX6_dayGoes 241 = .ok (.getfield 7, 3) := by decide +kernel
theorem dX6_dayGoes_244 : decode cX6_dayGoes 244 = .ok (.iconst 1, 1) := by decide +kernel
theorem dX6_dayGoes_245 : decode cX6_dayGoes 245 = .ok (.iaload, 1) := by decide +kernel
theorem dX6_dayGoes_246 : decode cX6_dayGoes 246 = .ok (.bipush 7, 2) := by decide +kernel
theorem dX6_dayGoes_248 : decode cX6_dayGoes 248 = .ok (.irem, 1) := by decide +kernel
theorem dX6_dayGoes_249 : decode cX6_dayGoes 249 = .ok (.bipush 6, 2) := by decide +kernel
theorem dX6_dayGoes_251 : decode cX6_dayGoes 251 = .ok (.if_icmp .ne 52, 3) := by decide +kernel
theorem dX6_dayGoes_254 : decode cX6_dayGoes 254 = .ok (.aload_n 0, 1) := by decide +kernel
theorem dX6_dayGoes_255 : decode cX6_dayGoes 255 = .ok (.getfield 7, 3) := by decide +kernel
theorem dX6_dayGoes_258 : decode cX6_dayGoes 258 = .ok (.bipush 6, 2) := by decide +kernel
theorem dX6_dayGoes_260 : decode cX6_dayGoes 260 = .ok (.aload_n 0, 1) := by decide +kernel
theorem dX6_dayGoes_261 : decode cX6_dayGoes 261 = .ok (.getfield 7, 3) := by decide +kernel
theorem dX6_dayGoes_264 : decode cX6_dayGoes 264 = .ok (.bipush 6, 2) := by decide +kernel
theorem dX6_dayGoes_266 : decode cX6_dayGoes 266 = .ok (.iaload, 1) := by decide +kernel
theorem dX6_dayGoes_267 : decode cX6_dayGoes 267 = .ok (.aload_n 0, 1) := by decide +kernel
theorem dX6_dayGoes_268 : decode cX6_dayGoes 268 = .ok (.invokevirtual 100, 3) := by decide +kernel
theorem dX6_dayGoes_271 : decode cX6_dayGoes 271 = .ok (.iadd, 1) := by decide +kernel
theorem dX6_dayGoes_272 : decode cX6_dayGoes 272 = .ok (.iconst 0, 1) := by decide +kernel
theorem dX6_dayGoes_273 : decode cX6_dayGoes 273 = .ok (.ldc 104, 2) := by decide +kernel
theorem dX6_dayGoes_275 : decode cX6_dayGoes 275 = .ok (.invokestatic 86, 3) := by decide +kernel
theorem dX6_dayGoes_278 : decode cX6_dayGoes 278 = .ok (.iastore, 1) := by decide +kernel
theorem dX6_dayGoes_279 : decode cX6_dayGoes 279 = .ok (.iconst 0, 1) := by decide +kernel
theorem dX6_dayGoes_280 : decode cX6_dayGoes 280 = .ok (.istore_n 2, 1) := by decide +kernel
theorem dX6_dayGoes_281 : decode cX6_dayGoes 281 = .ok (.iload_n 2, 1) := by decide +kernel
theorem dX6_dayGoes_282 : decode cX6_dayGoes 282 = .ok (.bipush 12, 2) := by decide +kernel
theorem dX6_dayGoes_284 : decode cX6_dayGoes 284 = .ok (.if_icmp .ge 19, 3) := by decide +kernel
theorem dX6_dayGoes_287 : decode cX6_dayGoes 287 = .ok (.aload_n 0, 1) := by decide +kernel
theorem dX6_dayGoes_288 : decode cX6_dayGoes 288 = .ok (.getfield 7, 3) := by decide +kernel
theorem dX6_dayGoes_291 : decode cX6_dayGoes 291 = .ok (.bipush 13, 2) := by decide +kernel
theorem dX6_dayGoes_293 : decode cX6_dayGoes 293 = .ok (.iload_n 2, 1) := by decide +kernel
theorem dX6_dayGoes_294 : decode cX6_dayGoes 294 = .ok (.iadd, 1) := by decide +kernel
theorem dX6_dayGoes_295 : decode cX6_dayGoes 295 = .ok (.iconst 0, 1) := by decide +kernel
theorem dX6_dayGoes_296 : decode cX6_dayGoes 296 = .ok (.iastore, 1) := by decide +kernel
theorem dX6_dayGoes_297 : decode cX6_dayGoes 297 = .ok (.iinc 2 1, 3) := by decide +kernel
theorem dX6_dayGoes_300 : decode cX6_dayGoes 300 = .ok (.goto (-19), 3) := by decide +kernel
theorem dX6_dayGoes_303 : decode cX6_dayGoes 303 = .ok (.aload_n 0, 1) := by decide +kernel
theorem dX6_dayGoes_304 : decode cX6_dayGoes 304 = .ok (.getfield 7, 3) := by decide +kernel
theorem dX6_dayGoes_307 : decode cX6_dayGoes 307 = .ok (.iconst 1, 1) := by decide +kernel
theorem dX6_dayGoes_308 : decode cX6_dayGoes 308 = .ok (.aload_n 0, 1) := by decide +kernel
theorem dX6_dayGoes_309 : decode cX6_dayGoes 309 = .ok (.getfield 7, 3) := by decide +kernel
theorem dX6_dayGoes_312 : decode cX6_dayGoes 312 = .ok (.iconst 1, 1) := by decide +kernel
theorem dX6_dayGoes_313 : decode cX6_dayGoes 313 = .ok (.iaload, 1) := by decide +kernel
theorem dX6_dayGoes_314 : decode cX6_dayGoes 314 = .ok (.iconst 1, 1) := by decide +kernel
theorem dX6_dayGoes_315 : decode cX6_dayGoes 315 = .ok (.iadd, 1) := by decide +kernel
theorem dX6_dayGoes_316 : decode cX6_dayGoes 316 = .ok (.iconst 0, 1) := by decide +kernel
theorem dX6_dayGoes_317 : decode cX6_dayGoes 317 = .ok (.ldc 104, 2) := by decide +kernel
theorem dX6_dayGoes_319 : decode cX6_dayGoes 319 = .ok (.invokestatic 86, 3) := by decide +kernel
theorem dX6_dayGoes_322 : decode cX6_dayGoes 322 = .ok (.iastore, 1) := by decide +kernel
theorem dX6_dayGoes_323 : decode cX6_dayGoes 323 = .ok (.return_, 1) := by decide +kernel
set_option maxRecDepth 20000 in
theorem ggX6_daysGo_X6_dayGoes : GoodIn wsX6_daysGo wsX6_dayGoes := goodIn_r _ [5, 6, 7, 8, 9, 10, 4, 11, 12, 13, 14, 15, 16, 17, 18, 19, 20, 21, 22, 23, 24, 25, 26, 27, 28, 29, 30, 31, 32, 33, 34, 35, 36, 37, 38, 39, 40, 41, 42, 43, 44, 45, 46, 47, 48, 49, 50, 51, 52, 53, 54, 55, 56, 57, 58, 59, 60, 61, 62, 63, 64, 65, 66, 67, 68, 69, 70, 71, 72, 73, 74, 75, 76, 77, 78, 79, 80, 81] (by decide +kernel) (by decide +kernel)
set_option maxRecDepth 20000 in
theorem gX6_daysGo_X6_dayGoes : GoodIn wsX6_daysGo (wsV RX6 105 RX6 yX6_dayGoes wsX6_dayGoes) := goodIn_app (goodIn_of _ (by decide +kernel)) ggX6_daysGo_X6_dayGoes
theorem dX6_daysGo_0 : decode cX6_daysGo 0 = .ok (.iconst 0, 1) := by decide +kernel
theorem dX6_daysGo_1 : decode cX6_daysGo 1 = .ok (.istore_n 2, 1) := by decide +kernel
theorem dX6_daysGo_2 : decode cX6_daysGo 2 = .ok (.iload_n 2, 1) := by decide +kernel
theorem dX6_daysGo_3 : decode cX6_daysGo 3 = .ok (.iload_n 1, 1) := by decide +kernel
theorem dX6_daysGo_4 : decode cX6_daysGo 4 = .ok (.if_icmp .ge 13, 3) := by decide +kernel
theorem dX6_daysGo_7 : decode cX6_daysGo 7 = .ok (.aload_n 0, 1) := by decide +kernel
theorem dX6_daysGo_8 : decode cX6_daysGo 8 = .ok (.invokevirtual 105, 3) := by decide +kernel
theorem dX6_daysGo_11 : decode cX6_daysGo 11 = .ok (.iinc 2 1, 3) := by decide +kernel
theorem dX6_daysGo_14 : decode cX6_daysGo 14 = .ok (.goto (-12), 3) := by decide +kernel
theorem dX6_daysGo_17 : decode cX6_daysGo 17 = .ok (.return_, 1) := by decide +kernel
set_option maxRecDepth 20000 in
theorem ggX6_sumOf_X6_its : GoodIn wsX6_sumOf wsX6_its := goodIn_r _ [6, 1, 7, 8, 9, 10, 11, 12, 13, 14, 15, 16, 17, 18, 19, 20, 21, 22, 23] (by decide +kernel) (by decide +kernel)
set_option maxRecDepth 20000 in
theorem gX6_sumOf_X6_its : GoodIn wsX6_sumOf (wsV RX6 52 RX6 yX6_its wsX6_its) := goodIn_app (goodIn_of _ (by decide +kernel)) ggX6_sumOf_X6_its
theorem dX6_sumOf_0 : decode cX6_sumOf 0 = .ok (.iconst 0, 1) := by decide +kernel
theorem dX6_sumOf_1 : decode cX6_sumOf 1 = .ok (.istore_n 2, 1) := by decide +kernel
theorem dX6_sumOf_2 : decode cX6_sumOf 2 = .ok (.iconst 0, 1) := by decide +kernel
theorem dX6_sumOf_3 : decode cX6_sumOf 3 = .ok (.istore_n 3, 1) := by decide +kernel
theorem dX6_sumOf_4 : decode cX6_sumOf 4 = .ok (.iload_n 3, 1) := by decide +kernel
theorem dX6_sumOf_5 : decode cX6_sumOf 5 = .ok (.aload_n 0, 1) := by decide +kernel
theorem dX6_sumOf_6 : decode cX6_sumOf 6 = .ok (.getfield 7, 3) := by decide +kernel
theorem dX6_sumOf_9 : decode cX6_sumOf 9 = .ok (.iconst 0, 1) := by decide +kernel
theorem dX6_sumOf_10 : decode cX6_sumOf 10 = .ok (.iaload, 1) := by decide +kernel
theorem dX6_sumOf_11 : decode cX6_sumOf 11 = .ok (.if_icmp .ge 18, 3) := by decide +kernel
theorem dX6_sumOf_14 : decode cX6_sumOf 14 = .ok (.iload_n 2, 1) := by decide +kernel
theorem dX6_sumOf_15 : decode cX6_sumOf 15 = .ok (.aload_n 0, 1) := by decide +kernel
theorem dX6_sumOf_16 : decode cX6_sumOf 16 = .ok (.iload_n 3, 1) := by decide +kernel
theorem dX6_sumOf_17 : decode cX6_sumOf 17 = .ok (.iload_n 1, 1) := by decide +kernel
theorem dX6_sumOf_18 : decode cX6_sumOf 18 = .ok (.invokevirtual 52, 3) := by decide +kernel
theorem dX6_sumOf_21 : decode cX6_sumOf 21 = .ok (.iadd, 1) := by decide +kernel
theorem dX6_sumOf_22 : decode cX6_sumOf 22 = .ok (.istore_n 2, 1) := by decide +kernel
theorem dX6_sumOf_23 : decode cX6_sumOf 23 = .ok (.iinc 3 1, 3) := by decide +kernel
theorem dX6_sumOf_26 : decode cX6_sumOf 26 = .ok (.goto (-22), 3) := by decide +kernel
theorem dX6_sumOf_29 : decode cX6_sumOf 29 = .ok (.iload_n 2, 1) := by decide +kernel
theorem dX6_sumOf_30 : decode cX6_sumOf 30 = .ok (.ireturn, 1) := by decide +kernel
set_option maxRecDepth 20000 in
theorem ggX6_isSet_X6_isDoor : GoodIn wsX6_isSet wsX6_isDoor := goodIn_r _ [6, 7, 8, 9, 5, 10] (by decide +kernel) (by decide +kernel)
set_option maxRecDepth 20000 in
theorem gX6_isSet_X6_isDoor : GoodIn wsX6_isSet (va_wsS RX6 108 yX6_isDoor wsX6_isDoor) := goodIn_app (goodIn_of _ (by decide +kernel)) ggX6_isSet_X6_isDoor
set_option maxRecDepth 20000 in
theorem ggX6_isSet_X6_in : GoodIn wsX6_isSet wsX6_in := goodIn_r _ [10] (by decide +kernel) (by decide +kernel)
set_option maxRecDepth 20000 in
theorem gX6_isSet_X6_in : GoodIn wsX6_isSet (va_wsS RX6 42 yX6_in wsX6_in) := goodIn_app (goodIn_of _ (by decide +kernel)) ggX6_isSet_X6_in
theorem dX6_isSet_0 : decode cX6_isSet 0 = .ok (.iload_n 0, 1) := by decide +kernel
theorem dX6_isSet_1 : decode cX6_isSet 1 = .ok (.ifCond .ne 10, 3) := by decide +kernel
theorem dX6_isSet_4 : decode cX6_isSet 4 = .ok (.iload_n 1, 1) := by decide +kernel
theorem dX6_isSet_5 : decode cX6_isSet 5 = .ok (.invokestatic 108, 3) := by decide +kernel
theorem dX6_isSet_8 : decode cX6_isSet 8 = .ok (.goto 42, 3) := by decide +kernel
theorem dX6_isSet_11 : decode cX6_isSet 11 = .ok (.iload_n 0, 1) := by decide +kernel
theorem dX6_isSet_12 : decode cX6_isSet 12 = .ok (.iconst 1, 1) := by decide +kernel
theorem dX6_isSet_13 : decode cX6_isSet 13 = .ok (.if_icmp .ne 15, 3) := by decide +kernel
theorem dX6_isSet_16 : decode cX6_isSet 16 = .ok (.iload_n 1, 1) := by decide +kernel
theorem dX6_isSet_17 : decode cX6_isSet 17 = .ok (.i2l, 1) := by decide +kernel
theorem dX6_isSet_18 : decode cX6_isSet 18 = .ok (.lconst 0, 1) := by decide +kernel
theorem dX6_isSet_19 : decode cX6_isSet 19 = .ok (.ldc2_w 111, 3) := by decide +kernel
theorem dX6_isSet_22 : decode cX6_isSet 22 = .ok (.invokestatic 42, 3) := by decide +kernel
theorem dX6_isSet_25 : decode cX6_isSet 25 = .ok (.goto 25, 3) := by decide +kernel
theorem dX6_isSet_28 : decode cX6_isSet 28 = .ok (.iload_n 0, 1) := by decide +kernel
theorem dX6_isSet_29 : decode cX6_isSet 29 = .ok (.iconst 2, 1) := by decide +kernel
theorem dX6_isSet_30 : decode cX6_isSet 30 = .ok (.if_icmp .ne 19, 3) := by decide +kernel
theorem dX6_isSet_33 : decode cX6_isSet 33 = .ok (.iload_n 1, 1) := by decide +kernel
theorem dX6_isSet_34 : decode cX6_isSet 34 = .ok (.i2l, 1) := by decide +kernel
theorem dX6_isSet_35 : decode cX6_isSet 35 = .ok (.lconst 0, 1) := by decide +kernel
theorem dX6_isSet_36 : decode cX6_isSet 36 = .ok (.ldc2_w 113, 3) := by decide +kernel
theorem dX6_isSet_39 : decode cX6_isSet 39 = .ok (.invokestatic 42, 3) := by decide +kernel
theorem dX6_isSet_42 : decode cX6_isSet 42 = .ok (.ifCond .eq 7, 3) := by decide +kernel
theorem dX6_isSet_45 : decode cX6_isSet 45 = .ok (.iconst 1, 1) := by decide +kernel
theorem dX6_isSet_46 : decode cX6_isSet 46 = .ok (.goto 4, 3) := by decide +kernel
theorem dX6_isSet_49 : decode cX6_isSet 49 = .ok (.iconst 0, 1) := by decide +kernel
theorem dX6_isSet_50 : decode cX6_isSet 50 = .ok (.ireturn, 1) := by decide +kernel
set_option maxRecDepth 20000 in
theorem ggX6_set_X6_isSet : GoodIn wsX6_set wsX6_isSet := goodIn_r _ [4, 5, 6, 7, 8, 3, 9, 10, 11, 12, 13] (by decide +kernel) (by decide +kernel)
set_option maxRecDepth 20000 in
theorem gX6_set_X6_isSet : GoodIn wsX6_set (va_wsS RX6 115 yX6_isSet wsX6_isSet) := goodIn_app (goodIn_of _ (by decide +kernel)) ggX6_set_X6_isSet
set_option maxRecDepth 20000 in
theorem ggX6_set_X6_becomes : GoodIn wsX6_set wsX6_becomes := goodIn_r _ [17, 18, 25, 26, 27, 28, 29, 30, 31, 32, 33, 34, 35, 36, 37, 38, 39, 40, 41] (by decide +kernel) (by decide +kernel)
set_option maxRecDepth 20000 in
theorem gX6_set_X6_becomes : GoodIn wsX6_set (wsV RX6 118 RX6 yX6_becomes wsX6_becomes) := goodIn_app (goodIn_of _ (by decide +kernel)) ggX6_set_X6_becomes
set_option maxRecDepth 20000 in
theorem ggX6_set_X6_finds : GoodIn wsX6_set wsX6_finds := goodIn_r _ [22, 23, 24, 25, 26, 27, 28, 29, 30, 31, 32, 33, 34, 35, 36, 37, 38, 39, 40, 41] (by decide +kernel) (by decide +kernel)
set_option maxRecDepth 20000 in
theorem gX6_set_X6_finds : GoodIn wsX6_set (wsV RX6 121 RX6 yX6_finds wsX6_finds) := goodIn_app (goodIn_of _ (by decide +kernel)) ggX6_set_X6_finds
theorem dX6_set_0 : decode cX6_set 0 = .ok (.iload_n 1, 1) := by decide +kernel
theorem dX6_set_1 : decode cX6_set 1 = .ok (.iload_n 2, 1) := by decide +kernel
theorem dX6_set_2 : decode cX6_set 2 = .ok (.invokestatic 115, 3) := by decide +kernel
theorem dX6_set_5 : decode cX6_set 5 = .ok (.ifCond .eq 14, 3) := by decide +kernel
theorem dX6_set_8 : decode cX6_set 8 = .ok (.aload_n 0, 1) := by decide +kernel
theorem dX6_set_9 : decode cX6_set 9 = .ok (.iconst 3, 1) := by decide +kernel
theorem dX6_set_10 : decode cX6_set 10 = .ok (.iload_n 1, 1) := by decide +kernel
theorem dX6_set_11 : decode cX6_set 11 = .ok (.iadd, 1) := by decide +kernel
theorem dX6_set_12 : decode cX6_set 12 = .ok (.iload_n 2, 1) := by decide +kernel
theorem dX6_set_13 : decode cX6_set 13 = .ok (.invokevirtual 118, 3) := by decide +kernel
theorem dX6_set_16 : decode cX6_set 16 = .ok (.goto 8, 3) := by decide +kernel
theorem dX6_set_19 : decode cX6_set 19 = .ok (.aload_n 0, 1) := by decide +kernel
theorem dX6_set_20 : decode cX6_set 20 = .ok (.iconst 0, 1) := by decide +kernel
theorem dX6_set_21 : decode cX6_set 21 = .ok (.invokevirtual 121, 3) := by decide +kernel
theorem dX6_set_24 : decode cX6_set 24 = .ok (.ireturn, 1) := by decide +kernel
set_option maxRecDepth 20000 in
theorem ggX6_crier_X6_in : GoodIn wsX6_crier wsX6_in := goodIn_r _ [6] (by decide +kernel) (by decide +kernel)
set_option maxRecDepth 20000 in
theorem gX6_crier_X6_in : GoodIn wsX6_crier (va_wsS RX6 42 yX6_in wsX6_in) := goodIn_app (goodIn_of _ (by decide +kernel)) ggX6_crier_X6_in
set_option maxRecDepth 20000 in
theorem ggX6_crier_X6_finds : GoodIn wsX6_crier wsX6_finds := goodIn_r _ [10, 11, 12, 13, 14, 15, 16, 17, 18, 19, 20, 21, 22, 23, 24, 25, 26, 27, 28, 29] (by decide +kernel) (by decide +kernel)
set_option maxRecDepth 20000 in
theorem gX6_crier_X6_finds : GoodIn wsX6_crier (wsV RX6 121 RX6 yX6_finds wsX6_finds) := goodIn_app (goodIn_of _ (by decide +kernel)) ggX6_crier_X6_finds
theorem dX6_crier_0 : decode cX6_crier 0 = .ok (.iload_n 1, 1) := by decide +kernel
theorem dX6_crier_1 : decode cX6_crier 1 = .ok (.i2l, 1) := by decide +kernel
theorem dX6_crier_2 : decode cX6_crier 2 = .ok (.lconst 0, 1) := by decide +kernel
theorem dX6_crier_3 : decode cX6_crier 3 = .ok (.ldc2_w 124, 3) := by decide +kernel
theorem dX6_crier_6 : decode cX6_crier 6 = .ok (.invokestatic 42, 3) := by decide +kernel
theorem dX6_crier_9 : decode cX6_crier 9 = .ok (.ifCond .eq 14, 3) := by decide +kernel
theorem dX6_crier_12 : decode cX6_crier 12 = .ok (.aload_n 0, 1) := by decide +kernel
theorem dX6_crier_13 : decode cX6_crier 13 = .ok (.getfield 7, 3) := by decide +kernel
theorem dX6_crier_16 : decode cX6_crier 16 = .ok (.iconst 3, 1) := by decide +kernel
theorem dX6_crier_17 : decode cX6_crier 17 = .ok (.iload_n 1, 1) := by decide +kernel
theorem dX6_crier_18 : decode cX6_crier 18 = .ok (.iadd, 1) := by decide +kernel
theorem dX6_crier_19 : decode cX6_crier 19 = .ok (.iaload, 1) := by decide +kernel
theorem dX6_crier_20 : decode cX6_crier 20 = .ok (.goto 8, 3) := by decide +kernel
theorem dX6_crier_23 : decode cX6_crier 23 = .ok (.aload_n 0, 1) := by decide +kernel
theorem dX6_crier_24 : decode cX6_crier 24 = .ok (.iconst 0, 1) := by decide +kernel
theorem dX6_crier_25 : decode cX6_crier 25 = .ok (.invokevirtual 121, 3) := by decide +kernel
theorem dX6_crier_28 : decode cX6_crier 28 = .ok (.ireturn, 1) := by decide +kernel
set_option maxRecDepth 20000 in
theorem ggX6_cry_X6_in : GoodIn wsX6_cry wsX6_in := goodIn_r _ [5] (by decide +kernel) (by decide +kernel)
set_option maxRecDepth 20000 in
theorem gX6_cry_X6_in : GoodIn wsX6_cry (va_wsS RX6 42 yX6_in wsX6_in) := goodIn_app (goodIn_of _ (by decide +kernel)) ggX6_cry_X6_in
set_option maxRecDepth 20000 in
theorem ggX6_cry_X6_isGood : GoodIn wsX6_cry wsX6_isGood := goodIn_r _ [8, 9, 2, 3, 4, 5] (by decide +kernel) (by decide +kernel)
set_option maxRecDepth 20000 in
theorem gX6_cry_X6_isGood : GoodIn wsX6_cry (va_wsS RX6 126 yX6_isGood wsX6_isGood) := goodIn_app (goodIn_of _ (by decide +kernel)) ggX6_cry_X6_isGood
set_option maxRecDepth 20000 in
theorem ggX6_cry_X6_becomes : GoodIn wsX6_cry wsX6_becomes := goodIn_r _ [13, 14, 21, 22, 23, 24, 25, 26, 27, 28, 29, 30, 31, 32, 33, 34, 35, 36, 37] (by decide +kernel) (by decide +kernel)
set_option maxRecDepth 20000 in
theorem gX6_cry_X6_becomes : GoodIn wsX6_cry (wsV RX6 118 RX6 yX6_becomes wsX6_becomes) := goodIn_app (goodIn_of _ (by decide +kernel)) ggX6_cry_X6_becomes
set_option maxRecDepth 20000 in
theorem ggX6_cry_X6_finds : GoodIn wsX6_cry wsX6_finds := goodIn_r _ [18, 19, 20, 21, 22, 23, 24, 25, 26, 27, 28, 29, 30, 31, 32, 33, 34, 35, 36, 37] (by decide +kernel) (by decide +kernel)
set_option maxRecDepth 20000 in
theorem gX6_cry_X6_finds : GoodIn wsX6_cry (wsV RX6 121 RX6 yX6_finds wsX6_finds) := goodIn_app (goodIn_of _ (by decide +kernel)) ggX6_cry_X6_finds
theorem dX6_cry_0 : decode cX6_cry 0 = .ok (.iload_n 1, 1) := by decide +kernel
theorem dX6_cry_1 : decode cX6_cry 1 = .ok (.i2l, 1) := by decide +kernel
theorem dX6_cry_2 : decode cX6_cry 2 = .ok (.lconst 0, 1) := by decide +kernel
theorem dX6_cry_3 : decode cX6_cry 3 = .ok (.ldc2_w 111, 3) := by decide +kernel
theorem dX6_cry_6 : decode cX6_cry 6 = .ok (.invokestatic 42, 3) := by decide +kernel
theorem dX6_cry_9 : decode cX6_cry 9 = .ok (.ifCond .eq 22, 3) := by decide +kernel
theorem dX6_cry_12 : decode cX6_cry 12 = .ok (.iload_n 2, 1) := by decide +kernel
theorem dX6_cry_13 : decode cX6_cry 13 = .ok (.invokestatic 126, 3) := by decide +kernel
theorem dX6_cry_16 : decode cX6_cry 16 = .ok (.ifCond .eq 15, 3) := by decide +kernel
theorem dX6_cry_19 : decode cX6_cry 19 = .ok (.aload_n 0, 1) := by decide +kernel
theorem dX6_cry_20 : decode cX6_cry 20 = .ok (.bipush 7, 2) := by decide +kernel
theorem dX6_cry_22 : decode cX6_cry 22 = .ok (.iload_n 1, 1) := by decide +kernel
theorem dX6_cry_23 : decode cX6_cry 23 = .ok (.iadd, 1) := by decide +kernel
theorem dX6_cry_24 : decode cX6_cry 24 = .ok (.iload_n 2, 1) := by decide +kernel
theorem dX6_cry_25 : decode cX6_cry 25 = .ok (.invokevirtual 118, 3) := by decide +kernel
theorem dX6_cry_28 : decode cX6_cry 28 = .ok (.goto 8, 3) := by decide +kernel
theorem dX6_cry_31 : decode cX6_cry 31 = .ok (.aload_n 0, 1) := by decide +kernel
theorem dX6_cry_32 : decode cX6_cry 32 = .ok (.iconst 0, 1) := by decide +kernel
theorem dX6_cry_33 : decode cX6_cry 33 = .ok (.invokevirtual 121, 3) := by decide +kernel
theorem dX6_cry_36 : decode cX6_cry 36 = .ok (.ireturn, 1) := by decide +kernel
set_option maxRecDepth 20000 in
theorem ggX6_listed_X6_in : GoodIn wsX6_listed wsX6_in := goodIn_r _ [6] (by decide +kernel) (by decide +kernel)
set_option maxRecDepth 20000 in
theorem gX6_listed_X6_in : GoodIn wsX6_listed (va_wsS RX6 42 yX6_in wsX6_in) := goodIn_app (goodIn_of _ (by decide +kernel)) ggX6_listed_X6_in
set_option maxRecDepth 20000 in
theorem ggX6_listed_X6_finds : GoodIn wsX6_listed wsX6_finds := goodIn_r _ [10, 11, 12, 13, 14, 15, 16, 17, 18, 19, 20, 21, 22, 23, 24, 25, 26, 27, 28, 29] (by decide +kernel) (by decide +kernel)
set_option maxRecDepth 20000 in
theorem gX6_listed_X6_finds : GoodIn wsX6_listed (wsV RX6 121 RX6 yX6_finds wsX6_finds) := goodIn_app (goodIn_of _ (by decide +kernel)) ggX6_listed_X6_finds
theorem dX6_listed_0 : decode cX6_listed 0 = .ok (.iload_n 1, 1) := by decide +kernel
theorem dX6_listed_1 : decode cX6_listed 1 = .ok (.i2l, 1) := by decide +kernel
theorem dX6_listed_2 : decode cX6_listed 2 = .ok (.lconst 0, 1) := by decide +kernel
theorem dX6_listed_3 : decode cX6_listed 3 = .ok (.ldc2_w 111, 3) := by decide +kernel
theorem dX6_listed_6 : decode cX6_listed 6 = .ok (.invokestatic 42, 3) := by decide +kernel
theorem dX6_listed_9 : decode cX6_listed 9 = .ok (.ifCond .eq 15, 3) := by decide +kernel
theorem dX6_listed_12 : decode cX6_listed 12 = .ok (.aload_n 0, 1) := by decide +kernel
theorem dX6_listed_13 : decode cX6_listed 13 = .ok (.getfield 7, 3) := by decide +kernel
theorem dX6_listed_16 : decode cX6_listed 16 = .ok (.bipush 7, 2) := by decide +kernel
theorem dX6_listed_18 : decode cX6_listed 18 = .ok (.iload_n 1, 1) := by decide +kernel
theorem dX6_listed_19 : decode cX6_listed 19 = .ok (.iadd, 1) := by decide +kernel
theorem dX6_listed_20 : decode cX6_listed 20 = .ok (.iaload, 1) := by decide +kernel
theorem dX6_listed_21 : decode cX6_listed 21 = .ok (.goto 8, 3) := by decide +kernel
theorem dX6_listed_24 : decode cX6_listed 24 = .ok (.aload_n 0, 1) := by decide +kernel
theorem dX6_listed_25 : decode cX6_listed 25 = .ok (.iconst 0, 1) := by decide +kernel
theorem dX6_listed_26 : decode cX6_listed 26 = .ok (.invokevirtual 121, 3) := by decide +kernel
theorem dX6_listed_29 : decode cX6_listed 29 = .ok (.ireturn, 1) := by decide +kernel
set_option maxRecDepth 20000 in
theorem ggX6_comes_X6_sets : GoodIn wsX6_comes wsX6_sets := goodIn_r _ [6, 1, 7, 8, 9, 10, 11, 12, 13, 14, 15, 16, 17, 18, 19, 20, 21, 22, 23] (by decide +kernel) (by decide +kernel)
set_option maxRecDepth 20000 in
theorem gX6_comes_X6_sets : GoodIn wsX6_comes (wsV RX6 90 RX6 yX6_sets wsX6_sets) := goodIn_app (goodIn_of _ (by decide +kernel)) ggX6_comes_X6_sets
theorem dX6_comes_0 : decode cX6_comes 0 = .ok (.aload_n 0, 1) := by decide +kernel
theorem dX6_comes_1 : decode cX6_comes 1 = .ok (.getfield 7, 3) := by decide +kernel
theorem dX6_comes_4 : decode cX6_comes 4 = .ok (.iconst 0, 1) := by decide +kernel
theorem dX6_comes_5 : decode cX6_comes 5 = .ok (.iaload, 1) := by decide +kernel
theorem dX6_comes_6 : decode cX6_comes 6 = .ok (.istore_n 3, 1) := by decide +kernel
theorem dX6_comes_7 : decode cX6_comes 7 = .ok (.iconst 0, 1) := by decide +kernel
theorem dX6_comes_8 : decode cX6_comes 8 = .ok (.istore 4, 2) := by decide +kernel
theorem dX6_comes_10 : decode cX6_comes 10 = .ok (.iload 4, 2) := by decide +kernel
theorem dX6_comes_12 : decode cX6_comes 12 = .ok (.iconst 5, 1) := by decide +kernel
theorem dX6_comes_13 : decode cX6_comes 13 = .ok (.if_icmp .gt 17, 3) := by decide +kernel
theorem dX6_comes_16 : decode cX6_comes 16 = .ok (.aload_n 0, 1) := by decide +kernel
theorem dX6_comes_17 : decode cX6_comes 17 = .ok (.iload_n 3, 1) := by decide +kernel
theorem dX6_comes_18 : decode cX6_comes 18 = .ok (.iload 4, 2) := by decide +kernel
theorem dX6_comes_20 : decode cX6_comes 20 = .ok (.iconst 0, 1) := by decide +kernel
theorem dX6_comes_21 : decode cX6_comes 21 = .ok (.invokevirtual 90, 3) := by decide +kernel
theorem dX6_comes_24 : decode cX6_comes 24 = .ok (.iinc 4 1, 3) := by decide +kernel
theorem dX6_comes_27 : decode cX6_comes 27 = .ok (.goto (-17), 3) := by decide +kernel
theorem dX6_comes_30 : decode cX6_comes 30 = .ok (.aload_n 0, 1) := by decide +kernel
theorem dX6_comes_31 : decode cX6_comes 31 = .ok (.iload_n 3, 1) := by decide +kernel
theorem dX6_comes_32 : decode cX6_comes 32 = .ok (.iconst 0, 1) := by decide +kernel
theorem dX6_comes_33 : decode cX6_comes 33 = .ok (.iload_n 1, 1) := by decide +kernel
theorem dX6_comes_34 : decode cX6_comes 34 = .ok (.invokevirtual 90, 3) := by decide +kernel
theorem dX6_comes_37 : decode cX6_comes 37 = .ok (.aload_n 0, 1) := by decide +kernel
theorem dX6_comes_38 : decode cX6_comes 38 = .ok (.iload_n 3, 1) := by decide +kernel
theorem dX6_comes_39 : decode cX6_comes 39 = .ok (.iconst 1, 1) := by decide +kernel
theorem dX6_comes_40 : decode cX6_comes 40 = .ok (.iload_n 2, 1) := by decide +kernel
theorem dX6_comes_41 : decode cX6_comes 41 = .ok (.invokevirtual 90, 3) := by decide +kernel
theorem dX6_comes_44 : decode cX6_comes 44 = .ok (.aload_n 0, 1) := by decide +kernel
theorem dX6_comes_45 : decode cX6_comes 45 = .ok (.iload_n 3, 1) := by decide +kernel
theorem dX6_comes_46 : decode cX6_comes 46 = .ok (.iconst 3, 1) := by decide +kernel
theorem dX6_comes_47 : decode cX6_comes 47 = .ok (.bipush 50, 2) := by decide +kernel
theorem dX6_comes_49 : decode cX6_comes 49 = .ok (.invokevirtual 90, 3) := by decide +kernel
theorem dX6_comes_52 : decode cX6_comes 52 = .ok (.aload_n 0, 1) := by decide +kernel
theorem dX6_comes_53 : decode cX6_comes 53 = .ok (.getfield 7, 3) := by decide +kernel
theorem dX6_comes_56 : decode cX6_comes 56 = .ok (.iconst 0, 1) := by decide +kernel
theorem dX6_comes_57 : decode cX6_comes 57 = .ok (.dup2, 1) := by decide +kernel
theorem dX6_comes_58 : decode cX6_comes 58 = .ok (.iaload, 1) := by decide +kernel
theorem dX6_comes_59 : decode cX6_comes 59 = .ok (.iconst 1, 1) := by decide +kernel
theorem dX6_comes_60 : decode cX6_comes 60 = .ok (.iadd, 1) := by decide +kernel
theorem dX6_comes_61 : decode cX6_comes 61 = .ok (.iastore, 1) := by decide +kernel
theorem dX6_comes_62 : decode cX6_comes 62 = .ok (.iload_n 3, 1) := by decide +kernel
theorem dX6_comes_63 : decode cX6_comes 63 = .ok (.ireturn, 1) := by decide +kernel
set_option maxRecDepth 20000 in
theorem ggX6_resident_X6_in : GoodIn wsX6_resident wsX6_in := goodIn_r _ [6] (by decide +kernel) (by decide +kernel)
set_option maxRecDepth 20000 in
theorem gX6_resident_X6_in : GoodIn wsX6_resident (va_wsS RX6 42 yX6_in wsX6_in) := goodIn_app (goodIn_of _ (by decide +kernel)) ggX6_resident_X6_in
set_option maxRecDepth 20000 in
theorem ggX6_resident_X6_isDoor : GoodIn wsX6_resident wsX6_isDoor := goodIn_r _ [9, 10, 3, 4, 5, 6] (by decide +kernel) (by decide +kernel)
set_option maxRecDepth 20000 in
theorem gX6_resident_X6_isDoor : GoodIn wsX6_resident (va_wsS RX6 108 yX6_isDoor wsX6_isDoor) := goodIn_app (goodIn_of _ (by decide +kernel)) ggX6_resident_X6_isDoor
set_option maxRecDepth 20000 in
theorem ggX6_resident_X6_finds : GoodIn wsX6_resident wsX6_finds := goodIn_r _ [14, 15, 16, 25, 26, 27, 28, 29, 30, 31, 32, 33, 34, 35, 36, 37, 38, 39, 40, 41] (by decide +kernel) (by decide +kernel)
set_option maxRecDepth 20000 in
theorem gX6_resident_X6_finds : GoodIn wsX6_resident (wsV RX6 121 RX6 yX6_finds wsX6_finds) := goodIn_app (goodIn_of _ (by decide +kernel)) ggX6_resident_X6_finds
set_option maxRecDepth 20000 in
theorem ggX6_resident_X6_comes : GoodIn wsX6_resident wsX6_comes := goodIn_r _ [20, 2, 21, 22, 23, 5, 24, 25, 26, 27, 28, 29, 30, 31, 32, 33, 34, 35, 36, 37, 38, 39, 40, 41] (by decide +kernel) (by decide +kernel)
set_option maxRecDepth 20000 in
theorem gX6_resident_X6_comes : GoodIn wsX6_resident (wsV RX6 131 RX6 yX6_comes wsX6_comes) := goodIn_app (goodIn_of _ (by decide +kernel)) ggX6_resident_X6_comes
theorem dX6_resident_0 : decode cX6_resident 0 = .ok (.iload_n 1, 1) := by decide +kernel
theorem dX6_resident_1 : decode cX6_resident 1 = .ok (.i2l, 1) := by decide +kernel
theorem dX6_resident_2 : decode cX6_resident 2 = .ok (.lconst 0, 1) := by decide +kernel
theorem dX6_resident_3 : decode cX6_resident 3 = .ok (.ldc2_w 129, 3) := by decide +kernel
theorem dX6_resident_6 : decode cX6_resident 6 = .ok (.invokestatic 42, 3) := by decide +kernel
theorem dX6_resident_9 : decode cX6_resident 9 = .ok (.ifCond .eq 10, 3) := by decide +kernel
theorem dX6_resident_12 : decode cX6_resident 12 = .ok (.iload_n 2, 1) := by decide +kernel
theorem dX6_resident_13 : decode cX6_resident 13 = .ok (.invokestatic 108, 3) := by decide +kernel
theorem dX6_resident_16 : decode cX6_resident 16 = .ok (.ifCond .ne 9, 3) := by decide +kernel
theorem dX6_resident_19 : decode cX6_resident 19 = .ok (.aload_n 0, 1) := by decide +kernel
theorem dX6_resident_20 : decode cX6_resident 20 = .ok (.iconst 0, 1) := by decide +kernel
theorem dX6_resident_21 : decode cX6_resident 21 = .ok (.invokevirtual 121, 3) := by decide +kernel
theorem dX6_resident_24 : decode cX6_resident 24 = .ok (.ireturn, 1) := by decide +kernel
theorem dX6_resident_25 : decode cX6_resident 25 = .ok (.aload_n 0, 1) := by decide +kernel
theorem dX6_resident_26 : decode cX6_resident 26 = .ok (.getfield 7, 3) := by decide +kernel
theorem dX6_resident_29 : decode cX6_resident 29 = .ok (.iconst 0, 1) := by decide +kernel
theorem dX6_resident_30 : decode cX6_resident 30 = .ok (.iaload, 1) := by decide +kernel
theorem dX6_resident_31 : decode cX6_resident 31 = .ok (.bipush 8, 2) := by decide +kernel
theorem dX6_resident_33 : decode cX6_resident 33 = .ok (.if_icmp .ne 11, 3) := by decide +kernel
theorem dX6_resident_36 : decode cX6_resident 36 = .ok (.aload_n 0, 1) := by decide +kernel
theorem dX6_resident_37 : decode cX6_resident 37 = .ok (.iconst 1, 1) := by decide +kernel
theorem dX6_resident_38 : decode cX6_resident 38 = .ok (.invokevirtual 121, 3) := by decide +kernel
theorem dX6_resident_41 : decode cX6_resident 41 = .ok (.goto 9, 3) := by decide +kernel
theorem dX6_resident_44 : decode cX6_resident 44 = .ok (.aload_n 0, 1) := by decide +kernel
theorem dX6_resident_45 : decode cX6_resident 45 = .ok (.iload_n 1, 1) := by decide +kernel
theorem dX6_resident_46 : decode cX6_resident 46 = .ok (.iload_n 2, 1) := by decide +kernel
theorem dX6_resident_47 : decode cX6_resident 47 = .ok (.invokevirtual 131, 3) := by decide +kernel
theorem dX6_resident_50 : decode cX6_resident 50 = .ok (.ireturn, 1) := by decide +kernel
set_option maxRecDepth 20000 in
theorem ggX6_of_X6_isResident : GoodIn wsX6_of wsX6_isResident := goodIn_r _ [6, 7, 8, 9, 5, 10, 47, 48, 49, 50, 51, 52, 53, 54, 55, 56, 57, 58, 59, 60, 61, 62, 63] (by decide +kernel) (by decide +kernel)
set_option maxRecDepth 20000 in
theorem gX6_of_X6_isResident : GoodIn wsX6_of (wsV RX6 134 RX6 yX6_isResident wsX6_isResident) := goodIn_app (goodIn_of _ (by decide +kernel)) ggX6_of_X6_isResident
set_option maxRecDepth 20000 in
theorem ggX6_of_X6_in : GoodIn wsX6_of wsX6_in := goodIn_r _ [10] (by decide +kernel) (by decide +kernel)
set_option maxRecDepth 20000 in
theorem gX6_of_X6_in : GoodIn wsX6_of (va_wsS RX6 42 yX6_in wsX6_in) := goodIn_app (goodIn_of _ (by decide +kernel)) ggX6_of_X6_in
set_option maxRecDepth 20000 in
theorem ggX6_of_X6_finds : GoodIn wsX6_of wsX6_finds := goodIn_r _ [14, 15, 16, 47, 48, 49, 50, 51, 52, 53, 54, 55, 56, 57, 58, 59, 60, 61, 62, 63] (by decide +kernel) (by decide +kernel)
set_option maxRecDepth 20000 in
theorem gX6_of_X6_finds : GoodIn wsX6_of (wsV RX6 121 RX6 yX6_finds wsX6_finds) := goodIn_app (goodIn_of _ (by decide +kernel)) ggX6_of_X6_finds
set_option maxRecDepth 20000 in
theorem ggX6_of_X6_hears : GoodIn wsX6_of wsX6_hears := goodIn_r _ [20, 7, 21, 22, 23, 5, 24, 47, 48, 49, 50, 51, 52, 53, 54, 55, 56, 57, 58, 59, 60, 61, 62, 63] (by decide +kernel) (by decide +kernel)
set_option maxRecDepth 20000 in
theorem gX6_of_X6_hears : GoodIn wsX6_of (wsV RX6 70 RX6 yX6_hears wsX6_hears) := goodIn_app (goodIn_of _ (by decide +kernel)) ggX6_of_X6_hears
set_option maxRecDepth 20000 in
theorem ggX6_of_X6_trusts : GoodIn wsX6_of wsX6_trusts := goodIn_r _ [28, 21, 22, 23, 5, 24, 7, 47, 48, 49, 50, 51, 52, 53, 54, 55, 56, 57, 58, 59, 60, 61, 62, 63] (by decide +kernel) (by decide +kernel)
set_option maxRecDepth 20000 in
theorem gX6_of_X6_trusts : GoodIn wsX6_of (wsV RX6 77 RX6 yX6_trusts wsX6_trusts) := goodIn_app (goodIn_of _ (by decide +kernel)) ggX6_of_X6_trusts
set_option maxRecDepth 20000 in
theorem ggX6_of_X6_loses : GoodIn wsX6_of wsX6_loses := goodIn_r _ [32, 21, 22, 23, 5, 24, 7, 33, 34, 35, 47, 48, 49, 50, 51, 52, 53, 54, 55, 56, 57, 58, 59, 60, 61, 62, 63] (by decide +kernel) (by decide +kernel)
set_option maxRecDepth 20000 in
theorem gX6_of_X6_loses : GoodIn wsX6_of (wsV RX6 83 RX6 yX6_loses wsX6_loses) := goodIn_app (goodIn_of _ (by decide +kernel)) ggX6_of_X6_loses
set_option maxRecDepth 20000 in
theorem ggX6_of_X6_mends : GoodIn wsX6_of wsX6_mends := goodIn_r _ [39, 21, 22, 23, 5, 24, 7, 47, 48, 49, 50, 51, 52, 53, 54, 55, 56, 57, 58, 59, 60, 61, 62, 63] (by decide +kernel) (by decide +kernel)
set_option maxRecDepth 20000 in
theorem gX6_of_X6_mends : GoodIn wsX6_of (wsV RX6 97 RX6 yX6_mends wsX6_mends) := goodIn_app (goodIn_of _ (by decide +kernel)) ggX6_of_X6_mends
set_option maxRecDepth 20000 in
theorem ggX6_of_X6_far : GoodIn wsX6_of wsX6_far := goodIn_r _ [43, 7, 21, 22, 23, 5, 24, 44, 45, 46, 47, 48, 49, 50, 51, 52, 53, 54, 55, 56, 57, 58, 59, 60, 61, 62, 63] (by decide +kernel) (by decide +kernel)
set_option maxRecDepth 20000 in
theorem gX6_of_X6_far : GoodIn wsX6_of (wsV RX6 67 RX6 yX6_far wsX6_far) := goodIn_app (goodIn_of _ (by decide +kernel)) ggX6_of_X6_far
set_option maxRecDepth 20000 in
theorem ggX6_of_X6_its : GoodIn wsX6_of wsX6_its := goodIn_r _ [24, 7, 47, 48, 49, 50, 51, 52, 53, 54, 55, 56, 57, 58, 59, 60, 61, 62, 63] (by decide +kernel) (by decide +kernel)
set_option maxRecDepth 20000 in
theorem gX6_of_X6_its : GoodIn wsX6_of (wsV RX6 52 RX6 yX6_its wsX6_its) := goodIn_app (goodIn_of _ (by decide +kernel)) ggX6_of_X6_its
theorem dX6_of_0 : decode cX6_of 0 = .ok (.aload_n 0, 1) := by decide +kernel
theorem dX6_of_1 : decode cX6_of 1 = .ok (.iload_n 1, 1) := by decide +kernel
theorem dX6_of_2 : decode cX6_of 2 = .ok (.invokevirtual 134, 3) := by decide +kernel
theorem dX6_of_5 : decode cX6_of 5 = .ok (.ifCond .eq 15, 3) := by decide +kernel
theorem dX6_of_8 : decode cX6_of 8 = .ok (.iload_n 2, 1) := by decide +kernel
theorem dX6_of_9 : decode cX6_of 9 = .ok (.i2l, 1) := by decide +kernel
theorem dX6_of_10 : decode cX6_of 10 = .ok (.lconst 0, 1) := by decide +kernel
theorem dX6_of_11 : decode cX6_of 11 = .ok (.ldc2_w 137, 3) := by decide +kernel
theorem dX6_of_14 : decode cX6_of 14 = .ok (.invokestatic 42, 3) := by decide +kernel
theorem dX6_of_17 : decode cX6_of 17 = .ok (.ifCond .ne 9, 3) := by decide +kernel
theorem dX6_of_20 : decode cX6_of 20 = .ok (.aload_n 0, 1) := by decide +kernel
theorem dX6_of_21 : decode cX6_of 21 = .ok (.iconst 0, 1) := by decide +kernel
theorem dX6_of_22 : decode cX6_of 22 = .ok (.invokevirtual 121, 3) := by decide +kernel
theorem dX6_of_25 : decode cX6_of 25 = .ok (.ireturn, 1) := by decide +kernel
theorem dX6_of_26 : decode cX6_of 26 = .ok (.iload_n 2, 1) := by decide +kernel
theorem dX6_of_27 : decode cX6_of 27 = .ok (.tableswitch 63 6 10 #[33, 39, 45, 51, 57], 33) := by decide +kernel
theorem dX6_of_60 : decode cX6_of 60 = .ok (.aload_n 0, 1) := by decide +kernel
theorem dX6_of_61 : decode cX6_of 61 = .ok (.iload_n 1, 1) := by decide +kernel
theorem dX6_of_62 : decode cX6_of 62 = .ok (.invokevirtual 70, 3) := by decide +kernel
theorem dX6_of_65 : decode cX6_of 65 = .ok (.ireturn, 1) := by decide +kernel
theorem dX6_of_66 : decode cX6_of 66 = .ok (.aload_n 0, 1) := by decide +kernel
theorem dX6_of_67 : decode cX6_of 67 = .ok (.iload_n 1, 1) := by decide +kernel
theorem dX6_of_68 : decode cX6_of 68 = .ok (.invokevirtual 77, 3) := by decide +kernel
theorem dX6_of_71 : decode cX6_of 71 = .ok (.ireturn, 1) := by decide +kernel
theorem dX6_of_72 : decode cX6_of 72 = .ok (.aload_n 0, 1) := by decide +kernel
theorem dX6_of_73 : decode cX6_of 73 = .ok (.iload_n 1, 1) := by decide +kernel
theorem dX6_of_74 : decode cX6_of 74 = .ok (.invokevirtual 83, 3) := by decide +kernel
theorem dX6_of_77 : decode cX6_of 77 = .ok (.ireturn, 1) := by decide +kernel
theorem dX6_of_78 : decode cX6_of 78 = .ok (.aload_n 0, 1) := by decide +kernel
theorem dX6_of_79 : decode cX6_of 79 = .ok (.iload_n 1, 1) := by decide +kernel
theorem dX6_of_80 : decode cX6_of 80 = .ok (.invokevirtual 97, 3) := by decide +kernel
theorem dX6_of_83 : decode cX6_of 83 = .ok (.ireturn, 1) := by decide +kernel
theorem dX6_of_84 : decode cX6_of 84 = .ok (.aload_n 0, 1) := by decide +kernel
theorem dX6_of_85 : decode cX6_of 85 = .ok (.iload_n 1, 1) := by decide +kernel
theorem dX6_of_86 : decode cX6_of 86 = .ok (.invokevirtual 67, 3) := by decide +kernel
theorem dX6_of_89 : decode cX6_of 89 = .ok (.ireturn, 1) := by decide +kernel
theorem dX6_of_90 : decode cX6_of 90 = .ok (.aload_n 0, 1) := by decide +kernel
theorem dX6_of_91 : decode cX6_of 91 = .ok (.iload_n 1, 1) := by decide +kernel
theorem dX6_of_92 : decode cX6_of 92 = .ok (.iload_n 2, 1) := by decide +kernel
theorem dX6_of_93 : decode cX6_of 93 = .ok (.invokevirtual 52, 3) := by decide +kernel
theorem dX6_of_96 : decode cX6_of 96 = .ok (.ireturn, 1) := by decide +kernel
theorem dX6_mostOf_0 : decode cX6_mostOf 0 = .ok (.iload_n 0, 1) := by decide +kernel
theorem dX6_mostOf_1 : decode cX6_mostOf 1 = .ok (.ifCond .ne 8, 3) := by decide +kernel
theorem dX6_mostOf_4 : decode cX6_mostOf 4 = .ok (.bipush 6, 2) := by decide +kernel
theorem dX6_mostOf_6 : decode cX6_mostOf 6 = .ok (.goto 46, 3) := by decide +kernel
theorem dX6_mostOf_9 : decode cX6_mostOf 9 = .ok (.iload_n 0, 1) := by decide +kernel
theorem dX6_mostOf_10 : decode cX6_mostOf 10 = .ok (.iconst 1, 1) := by decide +kernel
theorem dX6_mostOf_11 : decode cX6_mostOf 11 = .ok (.if_icmp .ne 8, 3) := by decide +kernel
theorem dX6_mostOf_14 : decode cX6_mostOf 14 = .ok (.bipush 15, 2) := by decide +kernel
theorem dX6_mostOf_16 : decode cX6_mostOf 16 = .ok (.goto 36, 3) := by decide +kernel
theorem dX6_mostOf_19 : decode cX6_mostOf 19 = .ok (.iload_n 0, 1) := by decide +kernel
theorem dX6_mostOf_20 : decode cX6_mostOf 20 = .ok (.iconst 2, 1) := by decide +kernel
theorem dX6_mostOf_21 : decode cX6_mostOf 21 = .ok (.if_icmp .ne 9, 3) := by decide +kernel
theorem dX6_mostOf_24 : decode cX6_mostOf 24 = .ok (.sipush 4095, 3) := by decide +kernel
theorem dX6_mostOf_27 : decode cX6_mostOf 27 = .ok (.goto 25, 3) := by decide +kernel
theorem dX6_mostOf_30 : decode cX6_mostOf 30 = .ok (.iload_n 0, 1) := by decide +kernel
theorem dX6_mostOf_31 : decode cX6_mostOf 31 = .ok (.iconst 3, 1) := by decide +kernel
theorem dX6_mostOf_32 : decode cX6_mostOf 32 = .ok (.if_icmp .ne 8, 3) := by decide +kernel
theorem dX6_mostOf_35 : decode cX6_mostOf 35 = .ok (.bipush 99, 2) := by decide +kernel
theorem dX6_mostOf_37 : decode cX6_mostOf 37 = .ok (.goto 15, 3) := by decide +kernel
theorem dX6_mostOf_40 : decode cX6_mostOf 40 = .ok (.iload_n 0, 1) := by decide +kernel
theorem dX6_mostOf_41 : decode cX6_mostOf 41 = .ok (.iconst 4, 1) := by decide +kernel
theorem dX6_mostOf_42 : decode cX6_mostOf 42 = .ok (.if_icmp .ne 9, 3) := by decide +kernel
theorem dX6_mostOf_45 : decode cX6_mostOf 45 = .ok (.sipush 9999, 3) := by decide +kernel
theorem dX6_mostOf_48 : decode cX6_mostOf 48 = .ok (.goto 4, 3) := by decide +kernel
theorem dX6_mostOf_51 : decode cX6_mostOf 51 = .ok (.iconst 1, 1) := by decide +kernel
theorem dX6_mostOf_52 : decode cX6_mostOf 52 = .ok (.ireturn, 1) := by decide +kernel
set_option maxRecDepth 20000 in
theorem ggX6_change_X6_isResident : GoodIn wsX6_change wsX6_isResident := goodIn_r _ [6, 7, 8, 9, 5, 10, 24, 25, 26, 27, 28, 29, 30, 31, 32, 33, 34, 35, 36, 37, 38, 39, 40] (by decide +kernel) (by decide +kernel)
set_option maxRecDepth 20000 in
theorem gX6_change_X6_isResident : GoodIn wsX6_change (wsV RX6 134 RX6 yX6_isResident wsX6_isResident) := goodIn_app (goodIn_of _ (by decide +kernel)) ggX6_change_X6_isResident
set_option maxRecDepth 20000 in
theorem ggX6_change_X6_in : GoodIn wsX6_change wsX6_in := goodIn_r _ [10] (by decide +kernel) (by decide +kernel)
set_option maxRecDepth 20000 in
theorem gX6_change_X6_in : GoodIn wsX6_change (va_wsS RX6 42 yX6_in wsX6_in) := goodIn_app (goodIn_of _ (by decide +kernel)) ggX6_change_X6_in
set_option maxRecDepth 20000 in
theorem ggX6_change_X6_mostOf : GoodIn wsX6_change wsX6_mostOf := goodIn_r _ [13] (by decide +kernel) (by decide +kernel)
set_option maxRecDepth 20000 in
theorem gX6_change_X6_mostOf : GoodIn wsX6_change (va_wsS RX6 139 yX6_mostOf wsX6_mostOf) := goodIn_app (goodIn_of _ (by decide +kernel)) ggX6_change_X6_mostOf
set_option maxRecDepth 20000 in
theorem ggX6_change_X6_becomes : GoodIn wsX6_change wsX6_becomes := goodIn_r _ [17, 7, 24, 25, 26, 27, 28, 29, 30, 31, 32, 33, 34, 35, 36, 37, 38, 39, 40] (by decide +kernel) (by decide +kernel)
set_option maxRecDepth 20000 in
theorem gX6_change_X6_becomes : GoodIn wsX6_change (wsV RX6 118 RX6 yX6_becomes wsX6_becomes) := goodIn_app (goodIn_of _ (by decide +kernel)) ggX6_change_X6_becomes
set_option maxRecDepth 20000 in
theorem ggX6_change_X6_finds : GoodIn wsX6_change wsX6_finds := goodIn_r _ [21, 22, 23, 24, 25, 26, 27, 28, 29, 30, 31, 32, 33, 34, 35, 36, 37, 38, 39, 40] (by decide +kernel) (by decide +kernel)
set_option maxRecDepth 20000 in
theorem gX6_change_X6_finds : GoodIn wsX6_change (wsV RX6 121 RX6 yX6_finds wsX6_finds) := goodIn_app (goodIn_of _ (by decide +kernel)) ggX6_change_X6_finds
theorem dX6_change_0 : decode cX6_change 0 = .ok (.aload_n 0, 1) := by decide +kernel
theorem dX6_change_1 : decode cX6_change 1 = .ok (.iload_n 1, 1) := by decide +kernel
theorem dX6_change_2 : decode cX6_change 2 = .ok (.invokevirtual 134, 3) := by decide +kernel
theorem dX6_change_5 : decode cX6_change 5 = .ok (.ifCond .eq 46, 3) := by decide +kernel
theorem dX6_change_8 : decode cX6_change 8 = .ok (.iload_n 2, 1) := by decide +kernel
theorem dX6_change_9 : decode cX6_change 9 = .ok (.i2l, 1) := by decide +kernel
theorem dX6_change_10 : decode cX6_change 10 = .ok (.lconst 0, 1) := by decide +kernel
theorem dX6_change_11 : decode cX6_change 11 = .ok (.ldc2_w 111, 3) := by decide +kernel
theorem dX6_change_14 : decode cX6_change 14 = .ok (.invokestatic 42, 3) := by decide +kernel
theorem dX6_change_17 : decode cX6_change 17 = .ok (.ifCond .eq 34, 3) := by decide +kernel
theorem dX6_change_20 : decode cX6_change 20 = .ok (.iload_n 3, 1) := by decide +kernel
theorem dX6_change_21 : decode cX6_change 21 = .ok (.i2l, 1) := by decide +kernel
theorem dX6_change_22 : decode cX6_change 22 = .ok (.lconst 0, 1) := by decide +kernel
theorem dX6_change_23 : decode cX6_change 23 = .ok (.iload_n 2, 1) := by decide +kernel
theorem dX6_change_24 : decode cX6_change 24 = .ok (.invokestatic 139, 3) := by decide +kernel
theorem dX6_change_27 : decode cX6_change 27 = .ok (.i2l, 1) := by decide +kernel
theorem dX6_change_28 : decode cX6_change 28 = .ok (.invokestatic 42, 3) := by decide +kernel
theorem dX6_change_31 : decode cX6_change 31 = .ok (.ifCond .eq 20, 3) := by decide +kernel
theorem dX6_change_34 : decode cX6_change 34 = .ok (.aload_n 0, 1) := by decide +kernel
theorem dX6_change_35 : decode cX6_change 35 = .ok (.bipush 25, 2) := by decide +kernel
theorem dX6_change_37 : decode cX6_change 37 = .ok (.bipush 8, 2) := by decide +kernel
theorem dX6_change_39 : decode cX6_change 39 = .ok (.iload_n 2, 1) := by decide +kernel
theorem dX6_change_40 : decode cX6_change 40 = .ok (.imul, 1) := by decide +kernel
theorem dX6_change_41 : decode cX6_change 41 = .ok (.iadd, 1) := by decide +kernel
theorem dX6_change_42 : decode cX6_change 42 = .ok (.iload_n 1, 1) := by decide +kernel
theorem dX6_change_43 : decode cX6_change 43 = .ok (.iadd, 1) := by decide +kernel
theorem dX6_change_44 : decode cX6_change 44 = .ok (.iload_n 3, 1) := by decide +kernel
theorem dX6_change_45 : decode cX6_change 45 = .ok (.invokevirtual 118, 3) := by decide +kernel
theorem dX6_change_48 : decode cX6_change 48 = .ok (.goto 8, 3) := by decide +kernel
theorem dX6_change_51 : decode cX6_change 51 = .ok (.aload_n 0, 1) := by decide +kernel
theorem dX6_change_52 : decode cX6_change 52 = .ok (.iconst 0, 1) := by decide +kernel
theorem dX6_change_53 : decode cX6_change 53 = .ok (.invokevirtual 121, 3) := by decide +kernel
theorem dX6_change_56 : decode cX6_change 56 = .ok (.ireturn, 1) := by decide +kernel
set_option maxRecDepth 20000 in
theorem ggX6_tempted_X6_isResident : GoodIn wsX6_tempted wsX6_isResident := goodIn_r _ [5, 6, 7, 8, 4, 9, 28, 29, 30, 31, 32, 33, 34, 35, 36, 37, 38, 39, 40, 41, 42, 43, 44] (by decide +kernel) (by decide +kernel)
set_option maxRecDepth 20000 in
theorem gX6_tempted_X6_isResident : GoodIn wsX6_tempted (wsV RX6 134 RX6 yX6_isResident wsX6_isResident) := goodIn_app (goodIn_of _ (by decide +kernel)) ggX6_tempted_X6_isResident
set_option maxRecDepth 20000 in
theorem ggX6_tempted_X6_isGood : GoodIn wsX6_tempted wsX6_isGood := goodIn_r _ [12, 13, 7, 8, 4, 9] (by decide +kernel) (by decide +kernel)
set_option maxRecDepth 20000 in
theorem gX6_tempted_X6_isGood : GoodIn wsX6_tempted (va_wsS RX6 126 yX6_isGood wsX6_isGood) := goodIn_app (goodIn_of _ (by decide +kernel)) ggX6_tempted_X6_isGood
set_option maxRecDepth 20000 in
theorem ggX6_tempted_X6_finds : GoodIn wsX6_tempted wsX6_finds := goodIn_r _ [17, 18, 19, 28, 29, 30, 31, 32, 33, 34, 35, 36, 37, 38, 39, 40, 41, 42, 43, 44] (by decide +kernel) (by decide +kernel)
set_option maxRecDepth 20000 in
theorem gX6_tempted_X6_finds : GoodIn wsX6_tempted (wsV RX6 121 RX6 yX6_finds wsX6_finds) := goodIn_app (goodIn_of _ (by decide +kernel)) ggX6_tempted_X6_finds
set_option maxRecDepth 20000 in
theorem ggX6_tempted_X6_isTempted : GoodIn wsX6_tempted wsX6_isTempted := goodIn_r _ [23, 24, 25, 26, 4, 27, 6, 28, 29, 30, 31, 32, 33, 34, 35, 36, 37, 38, 39, 40, 41, 42, 43, 44] (by decide +kernel) (by decide +kernel)
set_option maxRecDepth 20000 in
theorem gX6_tempted_X6_isTempted : GoodIn wsX6_tempted (wsV RX6 94 RX6 yX6_isTempted wsX6_isTempted) := goodIn_app (goodIn_of _ (by decide +kernel)) ggX6_tempted_X6_isTempted
theorem dX6_tempted_0 : decode cX6_tempted 0 = .ok (.aload_n 0, 1) := by decide +kernel
theorem dX6_tempted_1 : decode cX6_tempted 1 = .ok (.iload_n 1, 1) := by decide +kernel
theorem dX6_tempted_2 : decode cX6_tempted 2 = .ok (.invokevirtual 134, 3) := by decide +kernel
theorem dX6_tempted_5 : decode cX6_tempted 5 = .ok (.ifCond .eq 10, 3) := by decide +kernel
theorem dX6_tempted_8 : decode cX6_tempted 8 = .ok (.iload_n 2, 1) := by decide +kernel
theorem dX6_tempted_9 : decode cX6_tempted 9 = .ok (.invokestatic 126, 3) := by decide +kernel
theorem dX6_tempted_12 : decode cX6_tempted 12 = .ok (.ifCond .ne 9, 3) := by decide +kernel
theorem dX6_tempted_15 : decode cX6_tempted 15 = .ok (.aload_n 0, 1) := by decide +kernel
theorem dX6_tempted_16 : decode cX6_tempted 16 = .ok (.iconst 0, 1) := by decide +kernel
theorem dX6_tempted_17 : decode cX6_tempted 17 = .ok (.invokevirtual 121, 3) := by decide +kernel
theorem dX6_tempted_20 : decode cX6_tempted 20 = .ok (.ireturn, 1) := by decide +kernel
theorem dX6_tempted_21 : decode cX6_tempted 21 = .ok (.aload_n 0, 1) := by decide +kernel
theorem dX6_tempted_22 : decode cX6_tempted 22 = .ok (.iload_n 1, 1) := by decide +kernel
theorem dX6_tempted_23 : decode cX6_tempted 23 = .ok (.iload_n 2, 1) := by decide +kernel
theorem dX6_tempted_24 : decode cX6_tempted 24 = .ok (.invokevirtual 94, 3) := by decide +kernel
theorem dX6_tempted_27 : decode cX6_tempted 27 = .ok (.ifCond .eq 7, 3) := by decide +kernel
theorem dX6_tempted_30 : decode cX6_tempted 30 = .ok (.iconst 1, 1) := by decide +kernel
theorem dX6_tempted_31 : decode cX6_tempted 31 = .ok (.goto 4, 3) := by decide +kernel
theorem dX6_tempted_34 : decode cX6_tempted 34 = .ok (.iconst 0, 1) := by decide +kernel
theorem dX6_tempted_35 : decode cX6_tempted 35 = .ok (.ireturn, 1) := by decide +kernel
set_option maxRecDepth 20000 in
theorem ggX6_register_X6_isGood : GoodIn wsX6_register wsX6_isGood := goodIn_r _ [5, 6, 7, 8, 4, 9] (by decide +kernel) (by decide +kernel)
set_option maxRecDepth 20000 in
theorem gX6_register_X6_isGood : GoodIn wsX6_register (va_wsS RX6 126 yX6_isGood wsX6_isGood) := goodIn_app (goodIn_of _ (by decide +kernel)) ggX6_register_X6_isGood
set_option maxRecDepth 20000 in
theorem ggX6_register_X6_finds : GoodIn wsX6_register wsX6_finds := goodIn_r _ [13, 14, 15, 16, 17, 18, 19, 20, 21, 22, 23, 24, 25, 26, 27, 28, 29, 30, 31, 32] (by decide +kernel) (by decide +kernel)
set_option maxRecDepth 20000 in
theorem gX6_register_X6_finds : GoodIn wsX6_register (wsV RX6 121 RX6 yX6_finds wsX6_finds) := goodIn_app (goodIn_of _ (by decide +kernel)) ggX6_register_X6_finds
theorem dX6_register_0 : decode cX6_register 0 = .ok (.iload_n 1, 1) := by decide +kernel
theorem dX6_register_1 : decode cX6_register 1 = .ok (.invokestatic 126, 3) := by decide +kernel
theorem dX6_register_4 : decode cX6_register 4 = .ok (.ifCond .eq 15, 3) := by decide +kernel
theorem dX6_register_7 : decode cX6_register 7 = .ok (.aload_n 0, 1) := by decide +kernel
theorem dX6_register_8 : decode cX6_register 8 = .ok (.getfield 7, 3) := by decide +kernel
theorem dX6_register_11 : decode cX6_register 11 = .ok (.bipush 13, 2) := by decide +kernel
theorem dX6_register_13 : decode cX6_register 13 = .ok (.iload_n 1, 1) := by decide +kernel
theorem dX6_register_14 : decode cX6_register 14 = .ok (.iadd, 1) := by decide +kernel
theorem dX6_register_15 : decode cX6_register 15 = .ok (.iaload, 1) := by decide +kernel
theorem dX6_register_16 : decode cX6_register 16 = .ok (.goto 8, 3) := by decide +kernel
theorem dX6_register_19 : decode cX6_register 19 = .ok (.aload_n 0, 1) := by decide +kernel
theorem dX6_register_20 : decode cX6_register 20 = .ok (.iconst 0, 1) := by decide +kernel
theorem dX6_register_21 : decode cX6_register 21 = .ok (.invokevirtual 121, 3) := by decide +kernel
theorem dX6_register_24 : decode cX6_register 24 = .ok (.ireturn, 1) := by decide +kernel
set_option maxRecDepth 20000 in
theorem ggX6_comers_X6_isGood : GoodIn wsX6_comers wsX6_isGood := goodIn_r _ [5, 6, 7, 8, 4, 9] (by decide +kernel) (by decide +kernel)
set_option maxRecDepth 20000 in
theorem gX6_comers_X6_isGood : GoodIn wsX6_comers (va_wsS RX6 126 yX6_isGood wsX6_isGood) := goodIn_app (goodIn_of _ (by decide +kernel)) ggX6_comers_X6_isGood
set_option maxRecDepth 20000 in
theorem ggX6_comers_X6_finds : GoodIn wsX6_comers wsX6_finds := goodIn_r _ [13, 14, 15, 47, 48, 49, 50, 51, 52, 53, 54, 55, 56, 57, 58, 59, 60, 61, 62, 63] (by decide +kernel) (by decide +kernel)
set_option maxRecDepth 20000 in
theorem gX6_comers_X6_finds : GoodIn wsX6_comers (wsV RX6 121 RX6 yX6_finds wsX6_finds) := goodIn_app (goodIn_of _ (by decide +kernel)) ggX6_comers_X6_finds
set_option maxRecDepth 20000 in
theorem ggX6_comers_X6_isComing : GoodIn wsX6_comers wsX6_isComing := goodIn_r _ [19, 20, 21, 22, 4, 23, 24, 25, 26, 27, 1, 28, 29, 30, 31, 32, 33, 34, 35, 36, 37, 38, 39, 40, 41, 42, 43, 44, 45, 46, 47, 48, 49, 50, 51, 52, 53, 54, 55, 56, 57, 58, 59, 60, 61, 62, 63] (by decide +kernel) (by decide +kernel)
set_option maxRecDepth 20000 in
theorem gX6_comers_X6_isComing : GoodIn wsX6_comers (wsV RX6 80 RX6 yX6_isComing wsX6_isComing) := goodIn_app (goodIn_of _ (by decide +kernel)) ggX6_comers_X6_isComing
theorem dX6_comers_0 : decode cX6_comers 0 = .ok (.iload_n 1, 1) := by decide +kernel
theorem dX6_comers_1 : decode cX6_comers 1 = .ok (.invokestatic 126, 3) := by decide +kernel
theorem dX6_comers_4 : decode cX6_comers 4 = .ok (.ifCond .ne 9, 3) := by decide +kernel
theorem dX6_comers_7 : decode cX6_comers 7 = .ok (.aload_n 0, 1) := by decide +kernel
theorem dX6_comers_8 : decode cX6_comers 8 = .ok (.iconst 0, 1) := by decide +kernel
theorem dX6_comers_9 : decode cX6_comers 9 = .ok (.invokevirtual 121, 3) := by decide +kernel
theorem dX6_comers_12 : decode cX6_comers 12 = .ok (.ireturn, 1) := by decide +kernel
theorem dX6_comers_13 : decode cX6_comers 13 = .ok (.iconst 0, 1) := by decide +kernel
theorem dX6_comers_14 : decode cX6_comers 14 = .ok (.istore_n 2, 1) := by decide +kernel
theorem dX6_comers_15 : decode cX6_comers 15 = .ok (.iconst 0, 1) := by decide +kernel
theorem dX6_comers_16 : decode cX6_comers 16 = .ok (.istore_n 3, 1) := by decide +kernel
theorem dX6_comers_17 : decode cX6_comers 17 = .ok (.iload_n 3, 1) := by decide +kernel
theorem dX6_comers_18 : decode cX6_comers 18 = .ok (.aload_n 0, 1) := by decide +kernel
theorem dX6_comers_19 : decode cX6_comers 19 = .ok (.getfield 7, 3) := by decide +kernel
theorem dX6_comers_22 : decode cX6_comers 22 = .ok (.iconst 0, 1) := by decide +kernel
theorem dX6_comers_23 : decode cX6_comers 23 = .ok (.iaload, 1) := by decide +kernel
theorem dX6_comers_24 : decode cX6_comers 24 = .ok (.if_icmp .ge 28, 3) := by decide +kernel
theorem dX6_comers_27 : decode cX6_comers 27 = .ok (.iload_n 2, 1) := by decide +kernel
theorem dX6_comers_28 : decode cX6_comers 28 = .ok (.aload_n 0, 1) := by decide +kernel
theorem dX6_comers_29 : decode cX6_comers 29 = .ok (.iload_n 3, 1) := by decide +kernel
theorem dX6_comers_30 : decode cX6_comers 30 = .ok (.iload_n 1, 1) := by decide +kernel
theorem dX6_comers_31 : decode cX6_comers 31 = .ok (.invokevirtual 80, 3) := by decide +kernel
theorem dX6_comers_34 : decode cX6_comers 34 = .ok (.ifCond .eq 9, 3) := by decide +kernel
theorem dX6_comers_37 : decode cX6_comers 37 = .ok (.iconst 1, 1) := by decide +kernel
theorem dX6_comers_38 : decode cX6_comers 38 = .ok (.iload_n 3, 1) := by decide +kernel
theorem dX6_comers_39 : decode cX6_comers 39 = .ok (.ishl, 1) := by decide +kernel
theorem dX6_comers_40 : decode cX6_comers 40 = .ok (.goto 4, 3) := by decide +kernel
theorem dX6_comers_43 : decode cX6_comers 43 = .ok (.iconst 0, 1) := by decide +kernel
theorem dX6_comers_44 : decode cX6_comers 44 = .ok (.ior, 1) := by decide +kernel
theorem dX6_comers_45 : decode cX6_comers 45 = .ok (.istore_n 2, 1) := by decide +kernel
theorem dX6_comers_46 : decode cX6_comers 46 = .ok (.iinc 3 1, 3) := by decide +kernel
theorem dX6_comers_49 : decode cX6_comers 49 = .ok (.goto (-32), 3) := by decide +kernel
theorem dX6_comers_52 : decode cX6_comers 52 = .ok (.iload_n 2, 1) := by decide +kernel
theorem dX6_comers_53 : decode cX6_comers 53 = .ok (.ireturn, 1) := by decide +kernel
set_option maxRecDepth 20000 in
theorem ggX6_go_X6_in : GoodIn wsX6_go wsX6_in := goodIn_r _ [7] (by decide +kernel) (by decide +kernel)
set_option maxRecDepth 20000 in
theorem gX6_go_X6_in : GoodIn wsX6_go (va_wsS RX6 42 yX6_in wsX6_in) := goodIn_app (goodIn_of _ (by decide +kernel)) ggX6_go_X6_in
set_option maxRecDepth 20000 in
theorem ggX6_go_X6_finds : GoodIn wsX6_go wsX6_finds := goodIn_r _ [11, 12, 13, 79, 80, 81, 82, 83, 84, 85, 86, 87, 88, 89, 90, 91, 92, 93, 94, 95] (by decide +kernel) (by decide +kernel)
set_option maxRecDepth 20000 in
theorem gX6_go_X6_finds : GoodIn wsX6_go (wsV RX6 121 RX6 yX6_finds wsX6_finds) := goodIn_app (goodIn_of _ (by decide +kernel)) ggX6_go_X6_finds
set_option maxRecDepth 20000 in
theorem ggX6_go_X6_daysGo : GoodIn wsX6_go wsX6_daysGo := goodIn_r _ [17, 18, 19, 20, 6, 21, 2, 3, 22, 23, 24, 25, 26, 27, 28, 29, 30, 31, 32, 33, 34, 35, 36, 37, 38, 39, 40, 41, 42, 43, 44, 45, 46, 47, 48, 49, 50, 51, 52, 53, 54, 55, 56, 57, 58, 59, 60, 61, 62, 63, 64, 65, 66, 67, 68, 69, 70, 71, 72, 73, 74, 75, 76, 77, 78, 79, 80, 81, 82, 83, 84, 85, 86, 87, 88, 89, 90, 91, 92, 93, 94, 95] (by decide +kernel) (by decide +kernel)
set_option maxRecDepth 20000 in
theorem gX6_go_X6_daysGo : GoodIn wsX6_go (wsV RX6 144 RX6 yX6_daysGo wsX6_daysGo) := goodIn_app (goodIn_of _ (by decide +kernel)) ggX6_go_X6_daysGo
theorem dX6_go_0 : decode cX6_go 0 = .ok (.iload_n 1, 1) := by decide +kernel
theorem dX6_go_1 : decode cX6_go 1 = .ok (.i2l, 1) := by decide +kernel
theorem dX6_go_2 : decode cX6_go 2 = .ok (.lconst 1, 1) := by decide +kernel
theorem dX6_go_3 : decode cX6_go 3 = .ok (.ldc2_w 142, 3) := by decide +kernel
theorem dX6_go_6 : decode cX6_go 6 = .ok (.invokestatic 42, 3) := by decide +kernel
theorem dX6_go_9 : decode cX6_go 9 = .ok (.ifCond .ne 9, 3) := by decide +kernel
theorem dX6_go_12 : decode cX6_go 12 = .ok (.aload_n 0, 1) := by decide +kernel
theorem dX6_go_13 : decode cX6_go 13 = .ok (.iconst 0, 1) := by decide +kernel
theorem dX6_go_14 : decode cX6_go 14 = .ok (.invokevirtual 121, 3) := by decide +kernel
theorem dX6_go_17 : decode cX6_go 17 = .ok (.ireturn, 1) := by decide +kernel
theorem dX6_go_18 : decode cX6_go 18 = .ok (.aload_n 0, 1) := by decide +kernel
theorem dX6_go_19 : decode cX6_go 19 = .ok (.getfield 7, 3) := by decide +kernel
theorem dX6_go_22 : decode cX6_go 22 = .ok (.iconst 1, 1) := by decide +kernel
theorem dX6_go_23 : decode cX6_go 23 = .ok (.iaload, 1) := by decide +kernel
theorem dX6_go_24 : decode cX6_go 24 = .ok (.iload_n 1, 1) := by decide +kernel
theorem dX6_go_25 : decode cX6_go 25 = .ok (.iadd, 1) := by decide +kernel
theorem dX6_go_26 : decode cX6_go 26 = .ok (.ldc 104, 2) := by decide +kernel
theorem dX6_go_28 : decode cX6_go 28 = .ok (.if_icmp .le 9, 3) := by decide +kernel
theorem dX6_go_31 : decode cX6_go 31 = .ok (.aload_n 0, 1) := by decide +kernel
theorem dX6_go_32 : decode cX6_go 32 = .ok (.iconst 4, 1) := by decide +kernel
theorem dX6_go_33 : decode cX6_go 33 = .ok (.invokevirtual 121, 3) := by decide +kernel
theorem dX6_go_36 : decode cX6_go 36 = .ok (.ireturn, 1) := by decide +kernel
theorem dX6_go_37 : decode cX6_go 37 = .ok (.aload_n 0, 1) := by decide +kernel
theorem dX6_go_38 : decode cX6_go 38 = .ok (.iload_n 1, 1) := by decide +kernel
theorem dX6_go_39 : decode cX6_go 39 = .ok (.invokevirtual 144, 3) := by decide +kernel
theorem dX6_go_42 : decode cX6_go 42 = .ok (.aload_n 0, 1) := by decide +kernel
theorem dX6_go_43 : decode cX6_go 43 = .ok (.getfield 7, 3) := by decide +kernel
theorem dX6_go_46 : decode cX6_go 46 = .ok (.bipush 6, 2) := by decide +kernel
theorem dX6_go_48 : decode cX6_go 48 = .ok (.iaload, 1) := by decide +kernel
theorem dX6_go_49 : decode cX6_go 49 = .ok (.ireturn, 1) := by decide +kernel
set_option maxRecDepth 20000 in
theorem ggX6_wanted_X6_its : GoodIn wsX6_wanted wsX6_its := goodIn_r _ [6, 1, 7, 8, 9, 10, 11, 12, 13, 14, 15, 16, 17, 18, 19, 20, 21, 22, 23] (by decide +kernel) (by decide +kernel)
set_option maxRecDepth 20000 in
theorem gX6_wanted_X6_its : GoodIn wsX6_wanted (wsV RX6 52 RX6 yX6_its wsX6_its) := goodIn_app (goodIn_of _ (by decide +kernel)) ggX6_wanted_X6_its
theorem dX6_wanted_0 : decode cX6_wanted 0 = .ok (.iconst 0, 1) := by decide +kernel
theorem dX6_wanted_1 : decode cX6_wanted 1 = .ok (.istore_n 1, 1) := by decide +kernel
theorem dX6_wanted_2 : decode cX6_wanted 2 = .ok (.iconst 0, 1) := by decide +kernel
theorem dX6_wanted_3 : decode cX6_wanted 3 = .ok (.istore_n 2, 1) := by decide +kernel
theorem dX6_wanted_4 : decode cX6_wanted 4 = .ok (.iload_n 2, 1) := by decide +kernel
theorem dX6_wanted_5 : decode cX6_wanted 5 = .ok (.aload_n 0, 1) := by decide +kernel
theorem dX6_wanted_6 : decode cX6_wanted 6 = .ok (.getfield 7, 3) := by decide +kernel
theorem dX6_wanted_9 : decode cX6_wanted 9 = .ok (.iconst 0, 1) := by decide +kernel
theorem dX6_wanted_10 : decode cX6_wanted 10 = .ok (.iaload, 1) := by decide +kernel
theorem dX6_wanted_11 : decode cX6_wanted 11 = .ok (.if_icmp .ge 18, 3) := by decide +kernel
theorem dX6_wanted_14 : decode cX6_wanted 14 = .ok (.iload_n 1, 1) := by decide +kernel
theorem dX6_wanted_15 : decode cX6_wanted 15 = .ok (.aload_n 0, 1) := by decide +kernel
theorem dX6_wanted_16 : decode cX6_wanted 16 = .ok (.iload_n 2, 1) := by decide +kernel
theorem dX6_wanted_17 : decode cX6_wanted 17 = .ok (.iconst 2, 1) := by decide +kernel
theorem dX6_wanted_18 : decode cX6_wanted 18 = .ok (.invokevirtual 52, 3) := by decide +kernel
theorem dX6_wanted_21 : decode cX6_wanted 21 = .ok (.ior, 1) := by decide +kernel
theorem dX6_wanted_22 : decode cX6_wanted 22 = .ok (.istore_n 1, 1) := by decide +kernel
theorem dX6_wanted_23 : decode cX6_wanted 23 = .ok (.iinc 2 1, 3) := by decide +kernel
theorem dX6_wanted_26 : decode cX6_wanted 26 = .ok (.goto (-22), 3) := by decide +kernel
theorem dX6_wanted_29 : decode cX6_wanted 29 = .ok (.iload_n 1, 1) := by decide +kernel
theorem dX6_wanted_30 : decode cX6_wanted 30 = .ok (.ireturn, 1) := by decide +kernel
theorem dX6_registered_0 : decode cX6_registered 0 = .ok (.iconst 0, 1) := by decide +kernel
theorem dX6_registered_1 : decode cX6_registered 1 = .ok (.istore_n 2, 1) := by decide +kernel
theorem dX6_registered_2 : decode cX6_registered 2 = .ok (.iconst 0, 1) := by decide +kernel
theorem dX6_registered_3 : decode cX6_registered 3 = .ok (.istore_n 3, 1) := by decide +kernel
theorem dX6_registered_4 : decode cX6_registered 4 = .ok (.iconst 0, 1) := by decide +kernel
theorem dX6_registered_5 : decode cX6_registered 5 = .ok (.istore 4, 2) := by decide +kernel
theorem dX6_registered_7 : decode cX6_registered 7 = .ok (.iload 4, 2) := by decide +kernel
theorem dX6_registered_9 : decode cX6_registered 9 = .ok (.bipush 12, 2) := by decide +kernel
theorem dX6_registered_11 : decode cX6_registered 11 = .ok (.if_icmp .ge 46, 3) := by decide +kernel
theorem dX6_registered_14 : decode cX6_registered 14 = .ok (.iload_n 3, 1) := by decide +kernel
theorem dX6_registered_15 : decode cX6_registered 15 = .ok (.aload_n 0, 1) := by decide +kernel
theorem dX6_registered_16 : decode cX6_registered 16 = .ok (.getfield 7, 3) := by decide +kernel
theorem dX6_registered_19 : decode cX6_registered 19 = .ok (.bipush 13, 2) := by decide +kernel
theorem dX6_registered_21 : decode cX6_registered 21 = .ok (.iload 4, 2) := by decide +kernel
theorem dX6_registered_23 : decode cX6_registered 23 = .ok (.iadd, 1) := by decide +kernel
theorem dX6_registered_24 : decode cX6_registered 24 = .ok (.iaload, 1) := by decide +kernel
theorem dX6_registered_25 : decode cX6_registered 25 = .ok (.iadd, 1) := by decide +kernel
theorem dX6_registered_26 : decode cX6_registered 26 = .ok (.istore_n 3, 1) := by decide +kernel
theorem dX6_registered_27 : decode cX6_registered 27 = .ok (.iload_n 2, 1) := by decide +kernel
theorem dX6_registered_28 : decode cX6_registered 28 = .ok (.aload_n 0, 1) := by decide +kernel
theorem dX6_registered_29 : decode cX6_registered 29 = .ok (.getfield 7, 3) := by decide +kernel
theorem dX6_registered_32 : decode cX6_registered 32 = .ok (.bipush 13, 2) := by decide +kernel
theorem dX6_registered_34 : decode cX6_registered 34 = .ok (.iload 4, 2) := by decide +kernel
theorem dX6_registered_36 : decode cX6_registered 36 = .ok (.iadd, 1) := by decide +kernel
theorem dX6_registered_37 : decode cX6_registered 37 = .ok (.iaload, 1) := by decide +kernel
theorem dX6_registered_38 : decode cX6_registered 38 = .ok (.ifCond .le 10, 3) := by decide +kernel
theorem dX6_registered_41 : decode cX6_registered 41 = .ok (.iconst 1, 1) := by decide +kernel
theorem dX6_registered_42 : decode cX6_registered 42 = .ok (.iload 4, 2) := by decide +kernel
theorem dX6_registered_44 : decode cX6_registered 44 = .ok (.ishl, 1) := by decide +kernel
theorem dX6_registered_45 : decode cX6_registered 45 = .ok (.goto 4, 3) := by decide +kernel
theorem dX6_registered_48 : decode cX6_registered 48 = .ok (.iconst 0, 1) := by decide +kernel
theorem dX6_registered_49 : decode cX6_registered 49 = .ok (.ior, 1) := by decide +kernel
theorem dX6_registered_50 : decode cX6_registered 50 = .ok (.istore_n 2, 1) := by decide +kernel
theorem dX6_registered_51 : decode cX6_registered 51 = .ok (.iinc 4 1, 3) := by decide +kernel
theorem dX6_registered_54 : decode cX6_registered 54 = .ok (.goto (-47), 3) := by decide +kernel
theorem dX6_registered_57 : decode cX6_registered 57 = .ok (.iload_n 1, 1) := by decide +kernel
theorem dX6_registered_58 : decode cX6_registered 58 = .ok (.ifCond .eq 7, 3) := by decide +kernel
theorem dX6_registered_61 : decode cX6_registered 61 = .ok (.iload_n 3, 1) := by decide +kernel
theorem dX6_registered_62 : decode cX6_registered 62 = .ok (.goto 4, 3) := by decide +kernel
theorem dX6_registered_65 : decode cX6_registered 65 = .ok (.iload_n 2, 1) := by decide +kernel
theorem dX6_registered_66 : decode cX6_registered 66 = .ok (.ireturn, 1) := by decide +kernel
set_option maxRecDepth 20000 in
theorem ggX6_now_X6_wanted : GoodIn wsX6_now wsX6_wanted := goodIn_r _ [6, 1, 7, 8, 9, 5, 10, 29, 30, 31, 32, 33, 34, 35, 36, 37, 38, 39, 40, 41, 42, 43, 44, 45] (by decide +kernel) (by decide +kernel)
set_option maxRecDepth 20000 in
theorem gX6_now_X6_wanted : GoodIn wsX6_now (wsV RX6 148 RX6 yX6_wanted wsX6_wanted) := goodIn_app (goodIn_of _ (by decide +kernel)) ggX6_now_X6_wanted
set_option maxRecDepth 20000 in
theorem ggX6_now_X6_sumOf : GoodIn wsX6_now wsX6_sumOf := goodIn_r _ [14, 1, 7, 8, 9, 5, 10, 29, 30, 31, 32, 33, 34, 35, 36, 37, 38, 39, 40, 41, 42, 43, 44, 45] (by decide +kernel) (by decide +kernel)
set_option maxRecDepth 20000 in
theorem gX6_now_X6_sumOf : GoodIn wsX6_now (wsV RX6 151 RX6 yX6_sumOf wsX6_sumOf) := goodIn_app (goodIn_of _ (by decide +kernel)) ggX6_now_X6_sumOf
set_option maxRecDepth 20000 in
theorem ggX6_now_X6_registered : GoodIn wsX6_now wsX6_registered := goodIn_r _ [18, 1, 29, 30, 31, 32, 33, 34, 35, 36, 37, 38, 39, 40, 41, 42, 43, 44, 45] (by decide +kernel) (by decide +kernel)
set_option maxRecDepth 20000 in
theorem gX6_now_X6_registered : GoodIn wsX6_now (wsV RX6 154 RX6 yX6_registered wsX6_registered) := goodIn_app (goodIn_of _ (by decide +kernel)) ggX6_now_X6_registered
set_option maxRecDepth 20000 in
theorem ggX6_now_X6_fetch : GoodIn wsX6_now wsX6_fetch := goodIn_r _ [22, 1, 29, 30, 31, 32, 33, 34, 35, 36, 37, 38, 39, 40, 41, 42, 43, 44, 45] (by decide +kernel) (by decide +kernel)
set_option maxRecDepth 20000 in
theorem gX6_now_X6_fetch : GoodIn wsX6_now (wsV RX6 100 RX6 yX6_fetch wsX6_fetch) := goodIn_app (goodIn_of _ (by decide +kernel)) ggX6_now_X6_fetch
set_option maxRecDepth 20000 in
theorem ggX6_now_X6_finds : GoodIn wsX6_now wsX6_finds := goodIn_r _ [26, 27, 28, 29, 30, 31, 32, 33, 34, 35, 36, 37, 38, 39, 40, 41, 42, 43, 44, 45] (by decide +kernel) (by decide +kernel)
set_option maxRecDepth 20000 in
theorem gX6_now_X6_finds : GoodIn wsX6_now (wsV RX6 121 RX6 yX6_finds wsX6_finds) := goodIn_app (goodIn_of _ (by decide +kernel)) ggX6_now_X6_finds
theorem dX6_now_0 : decode cX6_now 0 = .ok (.iload_n 1, 1) := by decide +kernel
theorem dX6_now_1 : decode cX6_now 1 = .ok (.tableswitch 96 0 7 #[47, 54, 62, 67, 73, 79, 85, 91], 47) := by decide +kernel
theorem dX6_now_48 : decode cX6_now 48 = .ok (.aload_n 0, 1) := by decide +kernel
theorem dX6_now_49 : decode cX6_now 49 = .ok (.getfield 7, 3) := by decide +kernel
theorem dX6_now_52 : decode cX6_now 52 = .ok (.iconst 1, 1) := by decide +kernel
theorem dX6_now_53 : decode cX6_now 53 = .ok (.iaload, 1) := by decide +kernel
theorem dX6_now_54 : decode cX6_now 54 = .ok (.ireturn, 1) := by decide +kernel
theorem dX6_now_55 : decode cX6_now 55 = .ok (.aload_n 0, 1) := by decide +kernel
theorem dX6_now_56 : decode cX6_now 56 = .ok (.getfield 7, 3) := by decide +kernel
theorem dX6_now_59 : decode cX6_now 59 = .ok (.bipush 6, 2) := by decide +kernel
theorem dX6_now_61 : decode cX6_now 61 = .ok (.iaload, 1) := by decide +kernel
theorem dX6_now_62 : decode cX6_now 62 = .ok (.ireturn, 1) := by decide +kernel
theorem dX6_now_63 : decode cX6_now 63 = .ok (.aload_n 0, 1) := by decide +kernel
theorem dX6_now_64 : decode cX6_now 64 = .ok (.invokevirtual 148, 3) := by decide +kernel
theorem dX6_now_67 : decode cX6_now 67 = .ok (.ireturn, 1) := by decide +kernel
theorem dX6_now_68 : decode cX6_now 68 = .ok (.aload_n 0, 1) := by decide +kernel
theorem dX6_now_69 : decode cX6_now 69 = .ok (.iconst 3, 1) := by decide +kernel
theorem dX6_now_70 : decode cX6_now 70 = .ok (.invokevirtual 151, 3) := by decide +kernel
theorem dX6_now_73 : decode cX6_now 73 = .ok (.ireturn, 1) := by decide +kernel
theorem dX6_now_74 : decode cX6_now 74 = .ok (.aload_n 0, 1) := by decide +kernel
theorem dX6_now_75 : decode cX6_now 75 = .ok (.iconst 4, 1) := by decide +kernel
theorem dX6_now_76 : decode cX6_now 76 = .ok (.invokevirtual 151, 3) := by decide +kernel
theorem dX6_now_79 : decode cX6_now 79 = .ok (.ireturn, 1) := by decide +kernel
theorem dX6_now_80 : decode cX6_now 80 = .ok (.aload_n 0, 1) := by decide +kernel
theorem dX6_now_81 : decode cX6_now 81 = .ok (.iconst 1, 1) := by decide +kernel
theorem dX6_now_82 : decode cX6_now 82 = .ok (.invokevirtual 154, 3) := by decide +kernel
theorem dX6_now_85 : decode cX6_now 85 = .ok (.ireturn, 1) := by decide +kernel
theorem dX6_now_86 : decode cX6_now 86 = .ok (.aload_n 0, 1) := by decide +kernel
theorem dX6_now_87 : decode cX6_now 87 = .ok (.iconst 0, 1) := by decide +kernel
theorem dX6_now_88 : decode cX6_now 88 = .ok (.invokevirtual 154, 3) := by decide +kernel
theorem dX6_now_91 : decode cX6_now 91 = .ok (.ireturn, 1) := by decide +kernel
theorem dX6_now_92 : decode cX6_now 92 = .ok (.aload_n 0, 1) := by decide +kernel
theorem dX6_now_93 : decode cX6_now 93 = .ok (.invokevirtual 100, 3) := by decide +kernel
theorem dX6_now_96 : decode cX6_now 96 = .ok (.ireturn, 1) := by decide +kernel
theorem dX6_now_97 : decode cX6_now 97 = .ok (.aload_n 0, 1) := by decide +kernel
theorem dX6_now_98 : decode cX6_now 98 = .ok (.iconst 0, 1) := by decide +kernel
theorem dX6_now_99 : decode cX6_now 99 = .ok (.invokevirtual 121, 3) := by decide +kernel
theorem dX6_now_102 : decode cX6_now 102 = .ok (.ireturn, 1) := by decide +kernel
set_option maxRecDepth 20000 in
theorem ggX6_behind_X6_daysGo : GoodIn wsX6_behind wsX6_daysGo := goodIn_r _ [7, 8, 9, 10, 6, 11, 1, 12, 13, 14, 15, 16, 17, 18, 19, 20, 21, 22, 23, 24, 25, 26, 27, 28, 29, 30, 31, 32, 33, 34, 35, 36, 37, 38, 39, 40, 41, 42, 43, 44, 45, 46, 47, 48, 49, 50, 51, 52, 53, 54, 55, 56, 57, 58, 59, 60, 61, 62, 63, 64, 65, 66, 67, 68, 69, 73, 74, 75, 76, 77, 78, 79, 80, 81, 82, 83, 84, 85, 86, 87, 88, 89] (by decide +kernel) (by decide +kernel)
set_option maxRecDepth 20000 in
theorem gX6_behind_X6_daysGo : GoodIn wsX6_behind (wsV RX6 144 RX6 yX6_daysGo wsX6_daysGo) := goodIn_app (goodIn_of _ (by decide +kernel)) ggX6_behind_X6_daysGo
set_option maxRecDepth 20000 in
theorem ggX6_behind_X6_copies : GoodIn wsX6_behind wsX6_copies := goodIn_r _ [72] (by decide +kernel) (by decide +kernel)
set_option maxRecDepth 20000 in
theorem gX6_behind_X6_copies : GoodIn wsX6_behind (va_wsS RX6 158 yX6_copies wsX6_copies) := goodIn_app (goodIn_of _ (by decide +kernel)) ggX6_behind_X6_copies
theorem dX6_behind_0 : decode cX6_behind 0 = .ok (.aload_n 0, 1) := by decide +kernel
theorem dX6_behind_1 : decode cX6_behind 1 = .ok (.iload_n 1, 1) := by decide +kernel
theorem dX6_behind_2 : decode cX6_behind 2 = .ok (.invokevirtual 144, 3) := by decide +kernel
theorem dX6_behind_5 : decode cX6_behind 5 = .ok (.aload_n 0, 1) := by decide +kernel
theorem dX6_behind_6 : decode cX6_behind 6 = .ok (.getfield 7, 3) := by decide +kernel
theorem dX6_behind_9 : decode cX6_behind 9 = .ok (.iload_n 2, 1) := by decide +kernel
theorem dX6_behind_10 : decode cX6_behind 10 = .ok (.iaload, 1) := by decide +kernel
theorem dX6_behind_11 : decode cX6_behind 11 = .ok (.istore_n 3, 1) := by decide +kernel
theorem dX6_behind_12 : decode cX6_behind 12 = .ok (.aload_n 0, 1) := by decide +kernel
theorem dX6_behind_13 : decode cX6_behind 13 = .ok (.getfield 16, 3) := by decide +kernel
theorem dX6_behind_16 : decode cX6_behind 16 = .ok (.aload_n 0, 1) := by decide +kernel
theorem dX6_behind_17 : decode cX6_behind 17 = .ok (.getfield 7, 3) := by decide +kernel
theorem dX6_behind_20 : decode cX6_behind 20 = .ok (.invokestatic 158, 3) := by decide +kernel
theorem dX6_behind_23 : decode cX6_behind 23 = .ok (.iload_n 3, 1) := by decide +kernel
theorem dX6_behind_24 : decode cX6_behind 24 = .ok (.ireturn, 1) := by decide +kernel
set_option maxRecDepth 20000 in
theorem ggX6_ahead_X6_isResident : GoodIn wsX6_ahead wsX6_isResident := goodIn_r _ [10, 4, 11, 12, 9, 13, 89, 90, 91, 92, 93, 94, 95, 96, 97, 98, 99, 100, 101, 102, 103, 104, 105] (by decide +kernel) (by decide +kernel)
set_option maxRecDepth 20000 in
theorem gX6_ahead_X6_isResident : GoodIn wsX6_ahead (wsV RX6 134 RX6 yX6_isResident wsX6_isResident) := goodIn_app (goodIn_of _ (by decide +kernel)) ggX6_ahead_X6_isResident
set_option maxRecDepth 20000 in
theorem ggX6_ahead_X6_in : GoodIn wsX6_ahead wsX6_in := goodIn_r _ [13] (by decide +kernel) (by decide +kernel)
set_option maxRecDepth 20000 in
theorem gX6_ahead_X6_in : GoodIn wsX6_ahead (va_wsS RX6 42 yX6_in wsX6_in) := goodIn_app (goodIn_of _ (by decide +kernel)) ggX6_ahead_X6_in
set_option maxRecDepth 20000 in
theorem ggX6_ahead_X6_finds : GoodIn wsX6_ahead wsX6_finds := goodIn_r _ [17, 18, 19, 89, 90, 91, 92, 93, 94, 95, 96, 97, 98, 99, 100, 101, 102, 103, 104, 105] (by decide +kernel) (by decide +kernel)
set_option maxRecDepth 20000 in
theorem gX6_ahead_X6_finds : GoodIn wsX6_ahead (wsV RX6 121 RX6 yX6_finds wsX6_finds) := goodIn_app (goodIn_of _ (by decide +kernel)) ggX6_ahead_X6_finds
set_option maxRecDepth 20000 in
theorem ggX6_ahead_X6_copies : GoodIn wsX6_ahead wsX6_copies := goodIn_r _ [22] (by decide +kernel) (by decide +kernel)
set_option maxRecDepth 20000 in
theorem gX6_ahead_X6_copies : GoodIn wsX6_ahead (va_wsS RX6 158 yX6_copies wsX6_copies) := goodIn_app (goodIn_of _ (by decide +kernel)) ggX6_ahead_X6_copies
set_option maxRecDepth 20000 in
theorem ggX6_ahead_X6_daysGo : GoodIn wsX6_ahead wsX6_daysGo := goodIn_r _ [26, 27, 28, 29, 9, 30, 4, 31, 32, 33, 34, 35, 36, 37, 38, 39, 40, 41, 42, 43, 44, 45, 46, 47, 48, 49, 50, 51, 52, 53, 54, 55, 56, 57, 58, 59, 60, 61, 62, 63, 64, 65, 66, 67, 68, 69, 70, 71, 72, 73, 74, 75, 76, 77, 78, 79, 80, 81, 82, 83, 84, 85, 86, 87, 88, 89, 90, 91, 92, 93, 94, 95, 96, 97, 98, 99, 100, 101, 102, 103, 104, 105] (by decide +kernel) (by decide +kernel)
set_option maxRecDepth 20000 in
theorem gX6_ahead_X6_daysGo : GoodIn wsX6_ahead (wsV RX6 144 RX6 yX6_daysGo wsX6_daysGo) := goodIn_app (goodIn_of _ (by decide +kernel)) ggX6_ahead_X6_daysGo
set_option maxRecDepth 20000 in
theorem ggX6_ahead_X6_hears : GoodIn wsX6_ahead wsX6_hears := goodIn_r _ [54, 4, 36, 37, 38, 9, 39, 89, 90, 91, 92, 93, 94, 95, 96, 97, 98, 99, 100, 101, 102, 103, 104, 105] (by decide +kernel) (by decide +kernel)
set_option maxRecDepth 20000 in
theorem gX6_ahead_X6_hears : GoodIn wsX6_ahead (wsV RX6 70 RX6 yX6_hears wsX6_hears) := goodIn_app (goodIn_of _ (by decide +kernel)) ggX6_ahead_X6_hears
set_option maxRecDepth 20000 in
theorem ggX6_ahead_X6_its : GoodIn wsX6_ahead wsX6_its := goodIn_r _ [39, 4, 89, 90, 91, 92, 93, 94, 95, 96, 97, 98, 99, 100, 101, 102, 103, 104, 105] (by decide +kernel) (by decide +kernel)
set_option maxRecDepth 20000 in
theorem gX6_ahead_X6_its : GoodIn wsX6_ahead (wsV RX6 52 RX6 yX6_its wsX6_its) := goodIn_app (goodIn_of _ (by decide +kernel)) ggX6_ahead_X6_its
theorem dX6_ahead_0 : decode cX6_ahead 0 = .ok (.aload_n 0, 1) := by decide +kernel
theorem dX6_ahead_1 : decode cX6_ahead 1 = .ok (.iload_n 1, 1) := by decide +kernel
theorem dX6_ahead_2 : decode cX6_ahead 2 = .ok (.invokevirtual 134, 3) := by decide +kernel
theorem dX6_ahead_5 : decode cX6_ahead 5 = .ok (.ifCond .eq 35, 3) := by decide +kernel
theorem dX6_ahead_8 : decode cX6_ahead 8 = .ok (.iload_n 2, 1) := by decide +kernel
theorem dX6_ahead_9 : decode cX6_ahead 9 = .ok (.i2l, 1) := by decide +kernel
theorem dX6_ahead_10 : decode cX6_ahead 10 = .ok (.ldc2_w 124, 3) := by decide +kernel
theorem dX6_ahead_13 : decode cX6_ahead 13 = .ok (.ldc2_w 162, 3) := by decide +kernel
theorem dX6_ahead_16 : decode cX6_ahead 16 = .ok (.invokestatic 42, 3) := by decide +kernel
theorem dX6_ahead_19 : decode cX6_ahead 19 = .ok (.ifCond .ne 9, 3) := by decide +kernel
theorem dX6_ahead_22 : decode cX6_ahead 22 = .ok (.iload_n 2, 1) := by decide +kernel
theorem dX6_ahead_23 : decode cX6_ahead 23 = .ok (.bipush 6, 2) := by decide +kernel
theorem dX6_ahead_25 : decode cX6_ahead 25 = .ok (.if_icmp .ne 15, 3) := by decide +kernel
theorem dX6_ahead_28 : decode cX6_ahead 28 = .ok (.iload_n 3, 1) := by decide +kernel
theorem dX6_ahead_29 : decode cX6_ahead 29 = .ok (.i2l, 1) := by decide +kernel
theorem dX6_ahead_30 : decode cX6_ahead 30 = .ok (.lconst 0, 1) := by decide +kernel
theorem dX6_ahead_31 : decode cX6_ahead 31 = .ok (.ldc2_w 164, 3) := by decide +kernel
theorem dX6_ahead_34 : decode cX6_ahead 34 = .ok (.invokestatic 42, 3) := by decide +kernel
theorem dX6_ahead_37 : decode cX6_ahead 37 = .ok (.ifCond .ne 9, 3) := by decide +kernel
theorem dX6_ahead_40 : decode cX6_ahead 40 = .ok (.aload_n 0, 1) := by decide +kernel
theorem dX6_ahead_41 : decode cX6_ahead 41 = .ok (.iconst 0, 1) := by decide +kernel
theorem dX6_ahead_42 : decode cX6_ahead 42 = .ok (.invokevirtual 121, 3) := by decide +kernel
theorem dX6_ahead_45 : decode cX6_ahead 45 = .ok (.ireturn, 1) := by decide +kernel
theorem dX6_ahead_46 : decode cX6_ahead 46 = .ok (.aload_n 0, 1) := by decide +kernel
theorem dX6_ahead_47 : decode cX6_ahead 47 = .ok (.getfield 7, 3) := by decide +kernel
theorem dX6_ahead_50 : decode cX6_ahead 50 = .ok (.aload_n 0, 1) := by decide +kernel
theorem dX6_ahead_51 : decode cX6_ahead 51 = .ok (.getfield 16, 3) := by decide +kernel
theorem dX6_ahead_54 : decode cX6_ahead 54 = .ok (.invokestatic 158, 3) := by decide +kernel
theorem dX6_ahead_57 : decode cX6_ahead 57 = .ok (.aload_n 0, 1) := by decide +kernel
theorem dX6_ahead_58 : decode cX6_ahead 58 = .ok (.iload_n 3, 1) := by decide +kernel
theorem dX6_ahead_59 : decode cX6_ahead 59 = .ok (.invokevirtual 144, 3) := by decide +kernel
theorem dX6_ahead_62 : decode cX6_ahead 62 = .ok (.iload_n 2, 1) := by decide +kernel
theorem dX6_ahead_63 : decode cX6_ahead 63 = .ok (.bipush 6, 2) := by decide +kernel
theorem dX6_ahead_65 : decode cX6_ahead 65 = .ok (.if_icmp .ne 11, 3) := by decide +kernel
theorem dX6_ahead_68 : decode cX6_ahead 68 = .ok (.aload_n 0, 1) := by decide +kernel
theorem dX6_ahead_69 : decode cX6_ahead 69 = .ok (.iload_n 1, 1) := by decide +kernel
theorem dX6_ahead_70 : decode cX6_ahead 70 = .ok (.invokevirtual 70, 3) := by decide +kernel
theorem dX6_ahead_73 : decode cX6_ahead 73 = .ok (.goto 9, 3) := by decide +kernel
theorem dX6_ahead_76 : decode cX6_ahead 76 = .ok (.aload_n 0, 1) := by decide +kernel
theorem dX6_ahead_77 : decode cX6_ahead 77 = .ok (.iload_n 1, 1) := by decide +kernel
theorem dX6_ahead_78 : decode cX6_ahead 78 = .ok (.iload_n 2, 1) := by decide +kernel
theorem dX6_ahead_79 : decode cX6_ahead 79 = .ok (.invokevirtual 52, 3) := by decide +kernel
theorem dX6_ahead_82 : decode cX6_ahead 82 = .ok (.istore 4, 2) := by decide +kernel
theorem dX6_ahead_84 : decode cX6_ahead 84 = .ok (.aload_n 0, 1) := by decide +kernel
theorem dX6_ahead_85 : decode cX6_ahead 85 = .ok (.getfield 16, 3) := by decide +kernel
theorem dX6_ahead_88 : decode cX6_ahead 88 = .ok (.aload_n 0, 1) := by decide +kernel
theorem dX6_ahead_89 : decode cX6_ahead 89 = .ok (.getfield 7, 3) := by decide +kernel
theorem dX6_ahead_92 : decode cX6_ahead 92 = .ok (.invokestatic 158, 3) := by decide +kernel
theorem dX6_ahead_95 : decode cX6_ahead 95 = .ok (.iload 4, 2) := by decide +kernel
theorem dX6_ahead_97 : decode cX6_ahead 97 = .ok (.ireturn, 1) := by decide +kernel
set_option maxRecDepth 20000 in
theorem ggX6_gold_X6_in : GoodIn wsX6_gold wsX6_in := goodIn_r _ [7] (by decide +kernel) (by decide +kernel)
set_option maxRecDepth 20000 in
theorem gX6_gold_X6_in : GoodIn wsX6_gold (va_wsS RX6 42 yX6_in wsX6_in) := goodIn_app (goodIn_of _ (by decide +kernel)) ggX6_gold_X6_in
set_option maxRecDepth 20000 in
theorem ggX6_gold_X6_finds : GoodIn wsX6_gold wsX6_finds := goodIn_r _ [11, 12, 13, 87, 88, 89, 90, 91, 92, 93, 94, 95, 96, 97, 98, 99, 100, 101, 102, 103] (by decide +kernel) (by decide +kernel)
set_option maxRecDepth 20000 in
theorem gX6_gold_X6_finds : GoodIn wsX6_gold (wsV RX6 121 RX6 yX6_finds wsX6_finds) := goodIn_app (goodIn_of _ (by decide +kernel)) ggX6_gold_X6_finds
set_option maxRecDepth 20000 in
theorem ggX6_gold_X6_copies : GoodIn wsX6_gold wsX6_copies := goodIn_r _ [16] (by decide +kernel) (by decide +kernel)
set_option maxRecDepth 20000 in
theorem gX6_gold_X6_copies : GoodIn wsX6_gold (va_wsS RX6 158 yX6_copies wsX6_copies) := goodIn_app (goodIn_of _ (by decide +kernel)) ggX6_gold_X6_copies
set_option maxRecDepth 20000 in
theorem ggX6_gold_X6_behind : GoodIn wsX6_gold wsX6_behind := goodIn_r _ [20, 2, 3, 21, 22, 23, 6, 24, 25, 26, 27, 28, 29, 30, 31, 32, 33, 34, 35, 36, 37, 38, 39, 40, 41, 42, 43, 44, 45, 46, 47, 48, 49, 50, 51, 52, 53, 54, 55, 56, 57, 58, 59, 60, 61, 62, 63, 64, 65, 66, 67, 68, 69, 70, 71, 72, 73, 74, 75, 76, 77, 78, 79, 80, 81, 82, 83, 84, 85, 86, 14, 15, 16, 87, 88, 89, 90, 91, 92, 93, 94, 95, 96, 97, 98, 99, 100, 101, 102, 103] (by decide +kernel) (by decide +kernel)
set_option maxRecDepth 20000 in
theorem gX6_gold_X6_behind : GoodIn wsX6_gold (wsV RX6 166 RX6 yX6_behind wsX6_behind) := goodIn_app (goodIn_of _ (by decide +kernel)) ggX6_gold_X6_behind
theorem dX6_gold_0 : decode cX6_gold 0 = .ok (.iload_n 1, 1) := by decide +kernel
theorem dX6_gold_1 : decode cX6_gold 1 = .ok (.i2l, 1) := by decide +kernel
theorem dX6_gold_2 : decode cX6_gold 2 = .ok (.lconst 0, 1) := by decide +kernel
theorem dX6_gold_3 : decode cX6_gold 3 = .ok (.ldc2_w 164, 3) := by decide +kernel
theorem dX6_gold_6 : decode cX6_gold 6 = .ok (.invokestatic 42, 3) := by decide +kernel
theorem dX6_gold_9 : decode cX6_gold 9 = .ok (.ifCond .ne 9, 3) := by decide +kernel
theorem dX6_gold_12 : decode cX6_gold 12 = .ok (.aload_n 0, 1) := by decide +kernel
theorem dX6_gold_13 : decode cX6_gold 13 = .ok (.iconst 0, 1) := by decide +kernel
theorem dX6_gold_14 : decode cX6_gold 14 = .ok (.invokevirtual 121, 3) := by decide +kernel
theorem dX6_gold_17 : decode cX6_gold 17 = .ok (.ireturn, 1) := by decide +kernel
theorem dX6_gold_18 : decode cX6_gold 18 = .ok (.aload_n 0, 1) := by decide +kernel
theorem dX6_gold_19 : decode cX6_gold 19 = .ok (.getfield 7, 3) := by decide +kernel
theorem dX6_gold_22 : decode cX6_gold 22 = .ok (.aload_n 0, 1) := by decide +kernel
theorem dX6_gold_23 : decode cX6_gold 23 = .ok (.getfield 16, 3) := by decide +kernel
theorem dX6_gold_26 : decode cX6_gold 26 = .ok (.invokestatic 158, 3) := by decide +kernel
theorem dX6_gold_29 : decode cX6_gold 29 = .ok (.aload_n 0, 1) := by decide +kernel
theorem dX6_gold_30 : decode cX6_gold 30 = .ok (.iload_n 1, 1) := by decide +kernel
theorem dX6_gold_31 : decode cX6_gold 31 = .ok (.bipush 6, 2) := by decide +kernel
theorem dX6_gold_33 : decode cX6_gold 33 = .ok (.invokevirtual 166, 3) := by decide +kernel
theorem dX6_gold_36 : decode cX6_gold 36 = .ok (.ireturn, 1) := by decide +kernel
set_option maxRecDepth 20000 in
theorem ggX6_firstOf_X6_copies : GoodIn wsX6_firstOf wsX6_copies := goodIn_r _ [6] (by decide +kernel) (by decide +kernel)
set_option maxRecDepth 20000 in
theorem gX6_firstOf_X6_copies : GoodIn wsX6_firstOf (va_wsS RX6 158 yX6_copies wsX6_copies) := goodIn_app (goodIn_of _ (by decide +kernel)) ggX6_firstOf_X6_copies
set_option maxRecDepth 20000 in
theorem ggX6_firstOf_X6_in : GoodIn wsX6_firstOf wsX6_in := goodIn_r _ [9] (by decide +kernel) (by decide +kernel)
set_option maxRecDepth 20000 in
theorem gX6_firstOf_X6_in : GoodIn wsX6_firstOf (va_wsS RX6 42 yX6_in wsX6_in) := goodIn_app (goodIn_of _ (by decide +kernel)) ggX6_firstOf_X6_in
set_option maxRecDepth 20000 in
theorem ggX6_firstOf_X6_dayGoes : GoodIn wsX6_firstOf wsX6_dayGoes := goodIn_r _ [13, 1, 14, 15, 16, 17, 5, 18, 19, 20, 21, 22, 23, 24, 25, 26, 27, 28, 29, 30, 31, 32, 33, 34, 35, 36, 37, 38, 39, 40, 41, 42, 43, 44, 45, 46, 47, 48, 49, 50, 51, 52, 53, 54, 55, 56, 57, 58, 59, 60, 61, 62, 63, 64, 65, 66, 67, 68, 69, 70, 71, 78, 79, 80, 81, 82, 83, 84, 85, 86, 87, 88, 89, 90, 91, 92, 93, 94] (by decide +kernel) (by decide +kernel)
set_option maxRecDepth 20000 in
theorem gX6_firstOf_X6_dayGoes : GoodIn wsX6_firstOf (wsV RX6 105 RX6 yX6_dayGoes wsX6_dayGoes) := goodIn_app (goodIn_of _ (by decide +kernel)) ggX6_firstOf_X6_dayGoes
set_option maxRecDepth 20000 in
theorem ggX6_firstOf_X6_finds : GoodIn wsX6_firstOf wsX6_finds := goodIn_r _ [75, 76, 77, 78, 79, 80, 81, 82, 83, 84, 85, 86, 87, 88, 89, 90, 91, 92, 93, 94] (by decide +kernel) (by decide +kernel)
set_option maxRecDepth 20000 in
theorem gX6_firstOf_X6_finds : GoodIn wsX6_firstOf (wsV RX6 121 RX6 yX6_finds wsX6_finds) := goodIn_app (goodIn_of _ (by decide +kernel)) ggX6_firstOf_X6_finds
theorem dX6_firstOf_0 : decode cX6_firstOf 0 = .ok (.aload_n 0, 1) := by decide +kernel
theorem dX6_firstOf_1 : decode cX6_firstOf 1 = .ok (.getfield 7, 3) := by decide +kernel
theorem dX6_firstOf_4 : decode cX6_firstOf 4 = .ok (.aload_n 0, 1) := by decide +kernel
theorem dX6_firstOf_5 : decode cX6_firstOf 5 = .ok (.getfield 16, 3) := by decide +kernel
theorem dX6_firstOf_8 : decode cX6_firstOf 8 = .ok (.invokestatic 158, 3) := by decide +kernel
theorem dX6_firstOf_11 : decode cX6_firstOf 11 = .ok (.iconst 0, 1) := by decide +kernel
theorem dX6_firstOf_12 : decode cX6_firstOf 12 = .ok (.istore 4, 2) := by decide +kernel
theorem dX6_firstOf_14 : decode cX6_firstOf 14 = .ok (.iload 4, 2) := by decide +kernel
theorem dX6_firstOf_16 : decode cX6_firstOf 16 = .ok (.sipush 200, 3) := by decide +kernel
theorem dX6_firstOf_19 : decode cX6_firstOf 19 = .ok (.if_icmp .ge 30, 3) := by decide +kernel
theorem dX6_firstOf_22 : decode cX6_firstOf 22 = .ok (.aload_n 0, 1) := by decide +kernel
theorem dX6_firstOf_23 : decode cX6_firstOf 23 = .ok (.getfield 7, 3) := by decide +kernel
theorem dX6_firstOf_26 : decode cX6_firstOf 26 = .ok (.iload_n 1, 1) := by decide +kernel
theorem dX6_firstOf_27 : decode cX6_firstOf 27 = .ok (.iaload, 1) := by decide +kernel
theorem dX6_firstOf_28 : decode cX6_firstOf 28 = .ok (.i2l, 1) := by decide +kernel
theorem dX6_firstOf_29 : decode cX6_firstOf 29 = .ok (.iload_n 2, 1) := by decide +kernel
theorem dX6_firstOf_30 : decode cX6_firstOf 30 = .ok (.i2l, 1) := by decide +kernel
theorem dX6_firstOf_31 : decode cX6_firstOf 31 = .ok (.iload_n 3, 1) := by decide +kernel
theorem dX6_firstOf_32 : decode cX6_firstOf 32 = .ok (.i2l, 1) := by decide +kernel
theorem dX6_firstOf_33 : decode cX6_firstOf 33 = .ok (.invokestatic 42, 3) := by decide +kernel
theorem dX6_firstOf_36 : decode cX6_firstOf 36 = .ok (.ifCond .ne 13, 3) := by decide +kernel
theorem dX6_firstOf_39 : decode cX6_firstOf 39 = .ok (.aload_n 0, 1) := by decide +kernel
theorem dX6_firstOf_40 : decode cX6_firstOf 40 = .ok (.invokevirtual 105, 3) := by decide +kernel
theorem dX6_firstOf_43 : decode cX6_firstOf 43 = .ok (.iinc 4 1, 3) := by decide +kernel
theorem dX6_firstOf_46 : decode cX6_firstOf 46 = .ok (.goto (-32), 3) := by decide +kernel
theorem dX6_firstOf_49 : decode cX6_firstOf 49 = .ok (.aload_n 0, 1) := by decide +kernel
theorem dX6_firstOf_50 : decode cX6_firstOf 50 = .ok (.getfield 7, 3) := by decide +kernel
theorem dX6_firstOf_53 : decode cX6_firstOf 53 = .ok (.iload_n 1, 1) := by decide +kernel
theorem dX6_firstOf_54 : decode cX6_firstOf 54 = .ok (.iaload, 1) := by decide +kernel
theorem dX6_firstOf_55 : decode cX6_firstOf 55 = .ok (.i2l, 1) := by decide +kernel
theorem dX6_firstOf_56 : decode cX6_firstOf 56 = .ok (.iload_n 2, 1) := by decide +kernel
theorem dX6_firstOf_57 : decode cX6_firstOf 57 = .ok (.i2l, 1) := by decide +kernel
theorem dX6_firstOf_58 : decode cX6_firstOf 58 = .ok (.iload_n 3, 1) := by decide +kernel
theorem dX6_firstOf_59 : decode cX6_firstOf 59 = .ok (.i2l, 1) := by decide +kernel
theorem dX6_firstOf_60 : decode cX6_firstOf 60 = .ok (.invokestatic 42, 3) := by decide +kernel
theorem dX6_firstOf_63 : decode cX6_firstOf 63 = .ok (.istore 5, 2) := by decide +kernel
theorem dX6_firstOf_65 : decode cX6_firstOf 65 = .ok (.aload_n 0, 1) := by decide +kernel
theorem dX6_firstOf_66 : decode cX6_firstOf 66 = .ok (.getfield 16, 3) := by decide +kernel
theorem dX6_firstOf_69 : decode cX6_firstOf 69 = .ok (.aload_n 0, 1) := by decide +kernel
theorem dX6_firstOf_70 : decode cX6_firstOf 70 = .ok (.getfield 7, 3) := by decide +kernel
theorem dX6_firstOf_73 : decode cX6_firstOf 73 = .ok (.invokestatic 158, 3) := by decide +kernel
theorem dX6_firstOf_76 : decode cX6_firstOf 76 = .ok (.iload 5, 2) := by decide +kernel
theorem dX6_firstOf_78 : decode cX6_firstOf 78 = .ok (.ifCond .eq 8, 3) := by decide +kernel
theorem dX6_firstOf_81 : decode cX6_firstOf 81 = .ok (.iload 4, 2) := by decide +kernel
theorem dX6_firstOf_83 : decode cX6_firstOf 83 = .ok (.goto 8, 3) := by decide +kernel
theorem dX6_firstOf_86 : decode cX6_firstOf 86 = .ok (.aload_n 0, 1) := by decide +kernel
theorem dX6_firstOf_87 : decode cX6_firstOf 87 = .ok (.iconst 3, 1) := by decide +kernel
theorem dX6_firstOf_88 : decode cX6_firstOf 88 = .ok (.invokevirtual 121, 3) := by decide +kernel
theorem dX6_firstOf_91 : decode cX6_firstOf 91 = .ok (.ireturn, 1) := by decide +kernel
set_option maxRecDepth 20000 in
theorem ggX6_stands_X6_isResident : GoodIn wsX6_stands wsX6_isResident := goodIn_r _ [6, 7, 8, 9, 5, 10, 87, 88, 89, 90, 91, 92, 93, 94, 95, 96, 97, 98, 99, 100, 101, 102, 103] (by decide +kernel) (by decide +kernel)
set_option maxRecDepth 20000 in
theorem gX6_stands_X6_isResident : GoodIn wsX6_stands (wsV RX6 134 RX6 yX6_isResident wsX6_isResident) := goodIn_app (goodIn_of _ (by decide +kernel)) ggX6_stands_X6_isResident
set_option maxRecDepth 20000 in
theorem ggX6_stands_X6_in : GoodIn wsX6_stands wsX6_in := goodIn_r _ [10] (by decide +kernel) (by decide +kernel)
set_option maxRecDepth 20000 in
theorem gX6_stands_X6_in : GoodIn wsX6_stands (va_wsS RX6 42 yX6_in wsX6_in) := goodIn_app (goodIn_of _ (by decide +kernel)) ggX6_stands_X6_in
set_option maxRecDepth 20000 in
theorem ggX6_stands_X6_firstOf : GoodIn wsX6_stands wsX6_firstOf := goodIn_r _ [14, 7, 15, 16, 17, 5, 18, 8, 9, 10, 19, 20, 21, 22, 23, 24, 25, 26, 27, 28, 29, 30, 31, 32, 33, 34, 35, 36, 37, 38, 39, 40, 41, 42, 43, 44, 45, 46, 47, 48, 49, 50, 51, 52, 53, 54, 55, 56, 57, 58, 59, 60, 61, 62, 63, 64, 65, 66, 67, 68, 69, 70, 71, 72, 73, 74, 75, 76, 77, 78, 79, 80, 81, 82, 83, 84, 85, 86, 87, 88, 89, 90, 91, 92, 93, 94, 95, 96, 97, 98, 99, 100, 101, 102, 103] (by decide +kernel) (by decide +kernel)
set_option maxRecDepth 20000 in
theorem gX6_stands_X6_firstOf : GoodIn wsX6_stands (wsV RX6 171 RX6 yX6_firstOf wsX6_firstOf) := goodIn_app (goodIn_of _ (by decide +kernel)) ggX6_stands_X6_firstOf
set_option maxRecDepth 20000 in
theorem ggX6_stands_X6_finds : GoodIn wsX6_stands wsX6_finds := goodIn_r _ [84, 85, 86, 87, 88, 89, 90, 91, 92, 93, 94, 95, 96, 97, 98, 99, 100, 101, 102, 103] (by decide +kernel) (by decide +kernel)
set_option maxRecDepth 20000 in
theorem gX6_stands_X6_finds : GoodIn wsX6_stands (wsV RX6 121 RX6 yX6_finds wsX6_finds) := goodIn_app (goodIn_of _ (by decide +kernel)) ggX6_stands_X6_finds
theorem dX6_stands_0 : decode cX6_stands 0 = .ok (.aload_n 0, 1) := by decide +kernel
theorem dX6_stands_1 : decode cX6_stands 1 = .ok (.iload_n 1, 1) := by decide +kernel
theorem dX6_stands_2 : decode cX6_stands 2 = .ok (.invokevirtual 134, 3) := by decide +kernel
theorem dX6_stands_5 : decode cX6_stands 5 = .ok (.ifCond .eq 30, 3) := by decide +kernel
theorem dX6_stands_8 : decode cX6_stands 8 = .ok (.iload_n 2, 1) := by decide +kernel
theorem dX6_stands_9 : decode cX6_stands 9 = .ok (.i2l, 1) := by decide +kernel
theorem dX6_stands_10 : decode cX6_stands 10 = .ok (.lconst 0, 1) := by decide +kernel
theorem dX6_stands_11 : decode cX6_stands 11 = .ok (.ldc2_w 169, 3) := by decide +kernel
theorem dX6_stands_14 : decode cX6_stands 14 = .ok (.invokestatic 42, 3) := by decide +kernel
theorem dX6_stands_17 : decode cX6_stands 17 = .ok (.ifCond .eq 18, 3) := by decide +kernel
theorem dX6_stands_20 : decode cX6_stands 20 = .ok (.aload_n 0, 1) := by decide +kernel
theorem dX6_stands_21 : decode cX6_stands 21 = .ok (.bipush 57, 2) := by decide +kernel
theorem dX6_stands_23 : decode cX6_stands 23 = .ok (.iload_n 1, 1) := by decide +kernel
theorem dX6_stands_24 : decode cX6_stands 24 = .ok (.iadd, 1) := by decide +kernel
theorem dX6_stands_25 : decode cX6_stands 25 = .ok (.iload_n 2, 1) := by decide +kernel
theorem dX6_stands_26 : decode cX6_stands 26 = .ok (.sipush 9999, 3) := by decide +kernel
theorem dX6_stands_29 : decode cX6_stands 29 = .ok (.invokevirtual 171, 3) := by decide +kernel
theorem dX6_stands_32 : decode cX6_stands 32 = .ok (.goto 8, 3) := by decide +kernel
theorem dX6_stands_35 : decode cX6_stands 35 = .ok (.aload_n 0, 1) := by decide +kernel
theorem dX6_stands_36 : decode cX6_stands 36 = .ok (.iconst 0, 1) := by decide +kernel
theorem dX6_stands_37 : decode cX6_stands 37 = .ok (.invokevirtual 121, 3) := by decide +kernel
theorem dX6_stands_40 : decode cX6_stands 40 = .ok (.ireturn, 1) := by decide +kernel
set_option maxRecDepth 20000 in
theorem ggX6_wants_X6_isResident : GoodIn wsX6_wants wsX6_isResident := goodIn_r _ [7, 1, 8, 9, 6, 10, 86, 87, 88, 89, 90, 91, 92, 93, 94, 95, 96, 97, 98, 99, 100, 101, 102] (by decide +kernel) (by decide +kernel)
set_option maxRecDepth 20000 in
theorem gX6_wants_X6_isResident : GoodIn wsX6_wants (wsV RX6 134 RX6 yX6_isResident wsX6_isResident) := goodIn_app (goodIn_of _ (by decide +kernel)) ggX6_wants_X6_isResident
set_option maxRecDepth 20000 in
theorem ggX6_wants_X6_isGood : GoodIn wsX6_wants wsX6_isGood := goodIn_r _ [13, 14, 8, 9, 6, 10] (by decide +kernel) (by decide +kernel)
set_option maxRecDepth 20000 in
theorem gX6_wants_X6_isGood : GoodIn wsX6_wants (va_wsS RX6 126 yX6_isGood wsX6_isGood) := goodIn_app (goodIn_of _ (by decide +kernel)) ggX6_wants_X6_isGood
set_option maxRecDepth 20000 in
theorem ggX6_wants_X6_finds : GoodIn wsX6_wants wsX6_finds := goodIn_r _ [18, 19, 20, 86, 87, 88, 89, 90, 91, 92, 93, 94, 95, 96, 97, 98, 99, 100, 101, 102] (by decide +kernel) (by decide +kernel)
set_option maxRecDepth 20000 in
theorem gX6_wants_X6_finds : GoodIn wsX6_wants (wsV RX6 121 RX6 yX6_finds wsX6_finds) := goodIn_app (goodIn_of _ (by decide +kernel)) ggX6_wants_X6_finds
set_option maxRecDepth 20000 in
theorem ggX6_wants_X6_copies : GoodIn wsX6_wants wsX6_copies := goodIn_r _ [23] (by decide +kernel) (by decide +kernel)
set_option maxRecDepth 20000 in
theorem gX6_wants_X6_copies : GoodIn wsX6_wants (va_wsS RX6 158 yX6_copies wsX6_copies) := goodIn_app (goodIn_of _ (by decide +kernel)) ggX6_wants_X6_copies
set_option maxRecDepth 20000 in
theorem ggX6_wants_X6_isWanting : GoodIn wsX6_wants wsX6_isWanting := goodIn_r _ [27, 28, 29, 30, 6, 31, 1, 86, 87, 88, 89, 90, 91, 92, 93, 94, 95, 96, 97, 98, 99, 100, 101, 102] (by decide +kernel) (by decide +kernel)
set_option maxRecDepth 20000 in
theorem gX6_wants_X6_isWanting : GoodIn wsX6_wants (wsV RX6 73 RX6 yX6_isWanting wsX6_isWanting) := goodIn_app (goodIn_of _ (by decide +kernel)) ggX6_wants_X6_isWanting
set_option maxRecDepth 20000 in
theorem ggX6_wants_X6_dayGoes : GoodIn wsX6_wants wsX6_dayGoes := goodIn_r _ [35, 1, 36, 37, 38, 39, 6, 40, 28, 29, 30, 31, 41, 42, 43, 44, 45, 46, 47, 48, 49, 50, 51, 52, 53, 54, 55, 24, 25, 26, 27, 56, 57, 58, 59, 60, 61, 62, 63, 64, 65, 66, 67, 68, 69, 70, 71, 72, 73, 74, 75, 76, 77, 78, 79, 80, 81, 82, 83, 84, 85, 86, 87, 88, 89, 90, 91, 92, 93, 94, 95, 96, 97, 98, 99, 100, 101, 102] (by decide +kernel) (by decide +kernel)
set_option maxRecDepth 20000 in
theorem gX6_wants_X6_dayGoes : GoodIn wsX6_wants (wsV RX6 105 RX6 yX6_dayGoes wsX6_dayGoes) := goodIn_app (goodIn_of _ (by decide +kernel)) ggX6_wants_X6_dayGoes
theorem dX6_wants_0 : decode cX6_wants 0 = .ok (.aload_n 0, 1) := by decide +kernel
theorem dX6_wants_1 : decode cX6_wants 1 = .ok (.iload_n 1, 1) := by decide +kernel
theorem dX6_wants_2 : decode cX6_wants 2 = .ok (.invokevirtual 134, 3) := by decide +kernel
theorem dX6_wants_5 : decode cX6_wants 5 = .ok (.ifCond .eq 10, 3) := by decide +kernel
theorem dX6_wants_8 : decode cX6_wants 8 = .ok (.iload_n 2, 1) := by decide +kernel
theorem dX6_wants_9 : decode cX6_wants 9 = .ok (.invokestatic 126, 3) := by decide +kernel
theorem dX6_wants_12 : decode cX6_wants 12 = .ok (.ifCond .ne 9, 3) := by decide +kernel
theorem dX6_wants_15 : decode cX6_wants 15 = .ok (.aload_n 0, 1) := by decide +kernel
theorem dX6_wants_16 : decode cX6_wants 16 = .ok (.iconst 0, 1) := by decide +kernel
theorem dX6_wants_17 : decode cX6_wants 17 = .ok (.invokevirtual 121, 3) := by decide +kernel
theorem dX6_wants_20 : decode cX6_wants 20 = .ok (.ireturn, 1) := by decide +kernel
theorem dX6_wants_21 : decode cX6_wants 21 = .ok (.aload_n 0, 1) := by decide +kernel
theorem dX6_wants_22 : decode cX6_wants 22 = .ok (.getfield 7, 3) := by decide +kernel
theorem dX6_wants_25 : decode cX6_wants 25 = .ok (.aload_n 0, 1) := by decide +kernel
theorem dX6_wants_26 : decode cX6_wants 26 = .ok (.getfield 16, 3) := by decide +kernel
theorem dX6_wants_29 : decode cX6_wants 29 = .ok (.invokestatic 158, 3) := by decide +kernel
theorem dX6_wants_32 : decode cX6_wants 32 = .ok (.iconst 0, 1) := by decide +kernel
theorem dX6_wants_33 : decode cX6_wants 33 = .ok (.istore_n 3, 1) := by decide +kernel
theorem dX6_wants_34 : decode cX6_wants 34 = .ok (.iload_n 3, 1) := by decide +kernel
theorem dX6_wants_35 : decode cX6_wants 35 = .ok (.sipush 200, 3) := by decide +kernel
theorem dX6_wants_38 : decode cX6_wants 38 = .ok (.if_icmp .ge 22, 3) := by decide +kernel
theorem dX6_wants_41 : decode cX6_wants 41 = .ok (.aload_n 0, 1) := by decide +kernel
theorem dX6_wants_42 : decode cX6_wants 42 = .ok (.iload_n 1, 1) := by decide +kernel
theorem dX6_wants_43 : decode cX6_wants 43 = .ok (.iload_n 2, 1) := by decide +kernel
theorem dX6_wants_44 : decode cX6_wants 44 = .ok (.invokevirtual 73, 3) := by decide +kernel
theorem dX6_wants_47 : decode cX6_wants 47 = .ok (.ifCond .ne 13, 3) := by decide +kernel
theorem dX6_wants_50 : decode cX6_wants 50 = .ok (.aload_n 0, 1) := by decide +kernel
theorem dX6_wants_51 : decode cX6_wants 51 = .ok (.invokevirtual 105, 3) := by decide +kernel
theorem dX6_wants_54 : decode cX6_wants 54 = .ok (.iinc 3 1, 3) := by decide +kernel
theorem dX6_wants_57 : decode cX6_wants 57 = .ok (.goto (-23), 3) := by decide +kernel
theorem dX6_wants_60 : decode cX6_wants 60 = .ok (.aload_n 0, 1) := by decide +kernel
theorem dX6_wants_61 : decode cX6_wants 61 = .ok (.iload_n 1, 1) := by decide +kernel
theorem dX6_wants_62 : decode cX6_wants 62 = .ok (.iload_n 2, 1) := by decide +kernel
theorem dX6_wants_63 : decode cX6_wants 63 = .ok (.invokevirtual 73, 3) := by decide +kernel
theorem dX6_wants_66 : decode cX6_wants 66 = .ok (.istore 4, 2) := by decide +kernel
theorem dX6_wants_68 : decode cX6_wants 68 = .ok (.aload_n 0, 1) := by decide +kernel
theorem dX6_wants_69 : decode cX6_wants 69 = .ok (.getfield 16, 3) := by decide +kernel
theorem dX6_wants_72 : decode cX6_wants 72 = .ok (.aload_n 0, 1) := by decide +kernel
theorem dX6_wants_73 : decode cX6_wants 73 = .ok (.getfield 7, 3) := by decide +kernel
theorem dX6_wants_76 : decode cX6_wants 76 = .ok (.invokestatic 158, 3) := by decide +kernel
theorem dX6_wants_79 : decode cX6_wants 79 = .ok (.iload 4, 2) := by decide +kernel
theorem dX6_wants_81 : decode cX6_wants 81 = .ok (.ifCond .eq 7, 3) := by decide +kernel
theorem dX6_wants_84 : decode cX6_wants 84 = .ok (.iload_n 3, 1) := by decide +kernel
theorem dX6_wants_85 : decode cX6_wants 85 = .ok (.goto 8, 3) := by decide +kernel
theorem dX6_wants_88 : decode cX6_wants 88 = .ok (.aload_n 0, 1) := by decide +kernel
theorem dX6_wants_89 : decode cX6_wants 89 = .ok (.iconst 3, 1) := by decide +kernel
theorem dX6_wants_90 : decode cX6_wants 90 = .ok (.invokevirtual 121, 3) := by decide +kernel
theorem dX6_wants_93 : decode cX6_wants 93 = .ok (.ireturn, 1) := by decide +kernel
set_option maxRecDepth 20000 in
theorem ggX6_despair_X6_isResident : GoodIn wsX6_despair wsX6_isResident := goodIn_r _ [6, 7, 8, 9, 5, 10, 87, 88, 89, 90, 91, 92, 93, 94, 95, 96, 97, 98, 99, 100, 101, 102, 103] (by decide +kernel) (by decide +kernel)
set_option maxRecDepth 20000 in
theorem gX6_despair_X6_isResident : GoodIn wsX6_despair (wsV RX6 134 RX6 yX6_isResident wsX6_isResident) := goodIn_app (goodIn_of _ (by decide +kernel)) ggX6_despair_X6_isResident
set_option maxRecDepth 20000 in
theorem ggX6_despair_X6_in : GoodIn wsX6_despair wsX6_in := goodIn_r _ [10] (by decide +kernel) (by decide +kernel)
set_option maxRecDepth 20000 in
theorem gX6_despair_X6_in : GoodIn wsX6_despair (va_wsS RX6 42 yX6_in wsX6_in) := goodIn_app (goodIn_of _ (by decide +kernel)) ggX6_despair_X6_in
set_option maxRecDepth 20000 in
theorem ggX6_despair_X6_firstOf : GoodIn wsX6_despair wsX6_firstOf := goodIn_r _ [14, 7, 15, 16, 17, 5, 18, 8, 9, 10, 19, 20, 21, 22, 23, 24, 25, 26, 27, 28, 29, 30, 31, 32, 33, 34, 35, 36, 37, 38, 39, 40, 41, 42, 43, 44, 45, 46, 47, 48, 49, 50, 51, 52, 53, 54, 55, 56, 57, 58, 59, 60, 61, 62, 63, 64, 65, 66, 67, 68, 69, 70, 71, 72, 73, 74, 75, 76, 77, 78, 79, 80, 81, 82, 83, 84, 85, 86, 87, 88, 89, 90, 91, 92, 93, 94, 95, 96, 97, 98, 99, 100, 101, 102, 103] (by decide +kernel) (by decide +kernel)
set_option maxRecDepth 20000 in
theorem gX6_despair_X6_firstOf : GoodIn wsX6_despair (wsV RX6 171 RX6 yX6_firstOf wsX6_firstOf) := goodIn_app (goodIn_of _ (by decide +kernel)) ggX6_despair_X6_firstOf
set_option maxRecDepth 20000 in
theorem ggX6_despair_X6_finds : GoodIn wsX6_despair wsX6_finds := goodIn_r _ [84, 85, 86, 87, 88, 89, 90, 91, 92, 93, 94, 95, 96, 97, 98, 99, 100, 101, 102, 103] (by decide +kernel) (by decide +kernel)
set_option maxRecDepth 20000 in
theorem gX6_despair_X6_finds : GoodIn wsX6_despair (wsV RX6 121 RX6 yX6_finds wsX6_finds) := goodIn_app (goodIn_of _ (by decide +kernel)) ggX6_despair_X6_finds
theorem dX6_despair_0 : decode cX6_despair 0 = .ok (.aload_n 0, 1) := by decide +kernel
theorem dX6_despair_1 : decode cX6_despair 1 = .ok (.iload_n 1, 1) := by decide +kernel
theorem dX6_despair_2 : decode cX6_despair 2 = .ok (.invokevirtual 134, 3) := by decide +kernel
theorem dX6_despair_5 : decode cX6_despair 5 = .ok (.ifCond .eq 28, 3) := by decide +kernel
theorem dX6_despair_8 : decode cX6_despair 8 = .ok (.iload_n 2, 1) := by decide +kernel
theorem dX6_despair_9 : decode cX6_despair 9 = .ok (.i2l, 1) := by decide +kernel
theorem dX6_despair_10 : decode cX6_despair 10 = .ok (.lconst 0, 1) := by decide +kernel
theorem dX6_despair_11 : decode cX6_despair 11 = .ok (.ldc2_w 174, 3) := by decide +kernel
theorem dX6_despair_14 : decode cX6_despair 14 = .ok (.invokestatic 42, 3) := by decide +kernel
theorem dX6_despair_17 : decode cX6_despair 17 = .ok (.ifCond .eq 16, 3) := by decide +kernel
theorem dX6_despair_20 : decode cX6_despair 20 = .ok (.aload_n 0, 1) := by decide +kernel
theorem dX6_despair_21 : decode cX6_despair 21 = .ok (.bipush 49, 2) := by decide +kernel
theorem dX6_despair_23 : decode cX6_despair 23 = .ok (.iload_n 1, 1) := by decide +kernel
theorem dX6_despair_24 : decode cX6_despair 24 = .ok (.iadd, 1) := by decide +kernel
theorem dX6_despair_25 : decode cX6_despair 25 = .ok (.iconst 0, 1) := by decide +kernel
theorem dX6_despair_26 : decode cX6_despair 26 = .ok (.iload_n 2, 1) := by decide +kernel
theorem dX6_despair_27 : decode cX6_despair 27 = .ok (.invokevirtual 171, 3) := by decide +kernel
theorem dX6_despair_30 : decode cX6_despair 30 = .ok (.goto 8, 3) := by decide +kernel
theorem dX6_despair_33 : decode cX6_despair 33 = .ok (.aload_n 0, 1) := by decide +kernel
theorem dX6_despair_34 : decode cX6_despair 34 = .ok (.iconst 0, 1) := by decide +kernel
theorem dX6_despair_35 : decode cX6_despair 35 = .ok (.invokevirtual 121, 3) := by decide +kernel
theorem dX6_despair_38 : decode cX6_despair 38 = .ok (.ireturn, 1) := by decide +kernel
set_option maxRecDepth 20000 in
theorem ggX6_isShort_X6_in : GoodIn wsX6_isShort wsX6_in := goodIn_r _ [5] (by decide +kernel) (by decide +kernel)
set_option maxRecDepth 20000 in
theorem gX6_isShort_X6_in : GoodIn wsX6_isShort (va_wsS RX6 42 yX6_in wsX6_in) := goodIn_app (goodIn_of _ (by decide +kernel)) ggX6_isShort_X6_in
theorem dX6_isShort_0 : decode cX6_isShort 0 = .ok (.iload_n 0, 1) := by decide +kernel
theorem dX6_isShort_1 : decode cX6_isShort 1 = .ok (.i2l, 1) := by decide +kernel
theorem dX6_isShort_2 : decode cX6_isShort 2 = .ok (.lconst 0, 1) := by decide +kernel
theorem dX6_isShort_3 : decode cX6_isShort 3 = .ok (.ldc2_w 142, 3) := by decide +kernel
theorem dX6_isShort_6 : decode cX6_isShort 6 = .ok (.invokestatic 42, 3) := by decide +kernel
theorem dX6_isShort_9 : decode cX6_isShort 9 = .ok (.ireturn, 1) := by decide +kernel
set_option maxRecDepth 20000 in
theorem ggX6_bestOf_X6_copies : GoodIn wsX6_bestOf wsX6_copies := goodIn_r _ [6] (by decide +kernel) (by decide +kernel)
set_option maxRecDepth 20000 in
theorem gX6_bestOf_X6_copies : GoodIn wsX6_bestOf (va_wsS RX6 158 yX6_copies wsX6_copies) := goodIn_app (goodIn_of _ (by decide +kernel)) ggX6_bestOf_X6_copies
set_option maxRecDepth 20000 in
theorem ggX6_bestOf_X6_behind : GoodIn wsX6_bestOf wsX6_behind := goodIn_r _ [10, 1, 2, 11, 12, 13, 5, 14, 15, 16, 17, 18, 19, 20, 21, 22, 23, 24, 25, 26, 27, 28, 29, 30, 31, 32, 33, 34, 35, 36, 37, 38, 39, 40, 41, 42, 43, 44, 45, 46, 47, 48, 49, 50, 51, 52, 53, 54, 55, 56, 57, 58, 59, 60, 61, 62, 63, 64, 65, 66, 67, 68, 69, 70, 71, 72, 73, 74, 75, 76, 3, 4, 6, 77, 78, 79, 80, 81, 82, 83, 84, 85, 86, 87, 88, 89, 90, 91, 92, 93] (by decide +kernel) (by decide +kernel)
set_option maxRecDepth 20000 in
theorem gX6_bestOf_X6_behind : GoodIn wsX6_bestOf (wsV RX6 166 RX6 yX6_behind wsX6_behind) := goodIn_app (goodIn_of _ (by decide +kernel)) ggX6_bestOf_X6_behind
theorem dX6_bestOf_0 : decode cX6_bestOf 0 = .ok (.aload_n 0, 1) := by decide +kernel
theorem dX6_bestOf_1 : decode cX6_bestOf 1 = .ok (.getfield 7, 3) := by decide +kernel
theorem dX6_bestOf_4 : decode cX6_bestOf 4 = .ok (.aload_n 0, 1) := by decide +kernel
theorem dX6_bestOf_5 : decode cX6_bestOf 5 = .ok (.getfield 16, 3) := by decide +kernel
theorem dX6_bestOf_8 : decode cX6_bestOf 8 = .ok (.invokestatic 158, 3) := by decide +kernel
theorem dX6_bestOf_11 : decode cX6_bestOf 11 = .ok (.iconst 0, 1) := by decide +kernel
theorem dX6_bestOf_12 : decode cX6_bestOf 12 = .ok (.istore 5, 2) := by decide +kernel
theorem dX6_bestOf_14 : decode cX6_bestOf 14 = .ok (.iconst (-1), 1) := by decide +kernel
theorem dX6_bestOf_15 : decode cX6_bestOf 15 = .ok (.istore 6, 2) := by decide +kernel
theorem dX6_bestOf_17 : decode cX6_bestOf 17 = .ok (.iconst 0, 1) := by decide +kernel
theorem dX6_bestOf_18 : decode cX6_bestOf 18 = .ok (.istore 7, 2) := by decide +kernel
theorem dX6_bestOf_20 : decode cX6_bestOf 20 = .ok (.iload 7, 2) := by decide +kernel
theorem dX6_bestOf_22 : decode cX6_bestOf 22 = .ok (.iload_n 2, 1) := by decide +kernel
theorem dX6_bestOf_23 : decode cX6_bestOf 23 = .ok (.if_icmp .gt 41, 3) := by decide +kernel
theorem dX6_bestOf_26 : decode cX6_bestOf 26 = .ok (.aload_n 0, 1) := by decide +kernel
theorem dX6_bestOf_27 : decode cX6_bestOf 27 = .ok (.getfield 7, 3) := by decide +kernel
theorem dX6_bestOf_30 : decode cX6_bestOf 30 = .ok (.iload_n 1, 1) := by decide +kernel
theorem dX6_bestOf_31 : decode cX6_bestOf 31 = .ok (.iload 7, 2) := by decide +kernel
theorem dX6_bestOf_33 : decode cX6_bestOf 33 = .ok (.iastore, 1) := by decide +kernel
theorem dX6_bestOf_34 : decode cX6_bestOf 34 = .ok (.aload_n 0, 1) := by decide +kernel
theorem dX6_bestOf_35 : decode cX6_bestOf 35 = .ok (.iload 4, 2) := by decide +kernel
theorem dX6_bestOf_37 : decode cX6_bestOf 37 = .ok (.iload_n 3, 1) := by decide +kernel
theorem dX6_bestOf_38 : decode cX6_bestOf 38 = .ok (.invokevirtual 166, 3) := by decide +kernel
theorem dX6_bestOf_41 : decode cX6_bestOf 41 = .ok (.istore 8, 2) := by decide +kernel
theorem dX6_bestOf_43 : decode cX6_bestOf 43 = .ok (.iload 8, 2) := by decide +kernel
theorem dX6_bestOf_45 : decode cX6_bestOf 45 = .ok (.iload 6, 2) := by decide +kernel
theorem dX6_bestOf_47 : decode cX6_bestOf 47 = .ok (.if_icmp .le 11, 3) := by decide +kernel
theorem dX6_bestOf_50 : decode cX6_bestOf 50 = .ok (.iload 7, 2) := by decide +kernel
theorem dX6_bestOf_52 : decode cX6_bestOf 52 = .ok (.istore 5, 2) := by decide +kernel
theorem dX6_bestOf_54 : decode cX6_bestOf 54 = .ok (.iload 8, 2) := by decide +kernel
theorem dX6_bestOf_56 : decode cX6_bestOf 56 = .ok (.istore 6, 2) := by decide +kernel
theorem dX6_bestOf_58 : decode cX6_bestOf 58 = .ok (.iinc 7 1, 3) := by decide +kernel
theorem dX6_bestOf_61 : decode cX6_bestOf 61 = .ok (.goto (-41), 3) := by decide +kernel
theorem dX6_bestOf_64 : decode cX6_bestOf 64 = .ok (.iload 5, 2) := by decide +kernel
theorem dX6_bestOf_66 : decode cX6_bestOf 66 = .ok (.ireturn, 1) := by decide +kernel
set_option maxRecDepth 20000 in
theorem ggX6_cryFor_X6_in : GoodIn wsX6_cryFor wsX6_in := goodIn_r _ [5] (by decide +kernel) (by decide +kernel)
set_option maxRecDepth 20000 in
theorem gX6_cryFor_X6_in : GoodIn wsX6_cryFor (va_wsS RX6 42 yX6_in wsX6_in) := goodIn_app (goodIn_of _ (by decide +kernel)) ggX6_cryFor_X6_in
set_option maxRecDepth 20000 in
theorem ggX6_cryFor_X6_isShort : GoodIn wsX6_cryFor wsX6_isShort := goodIn_r _ [8, 9, 2, 3, 4, 5] (by decide +kernel) (by decide +kernel)
set_option maxRecDepth 20000 in
theorem gX6_cryFor_X6_isShort : GoodIn wsX6_cryFor (va_wsS RX6 176 yX6_isShort wsX6_isShort) := goodIn_app (goodIn_of _ (by decide +kernel)) ggX6_cryFor_X6_isShort
set_option maxRecDepth 20000 in
theorem ggX6_cryFor_X6_bestOf : GoodIn wsX6_cryFor wsX6_bestOf := goodIn_r _ [13, 14, 15, 16, 17, 4, 18, 19, 20, 21, 22, 23, 24, 25, 26, 27, 28, 29, 30, 31, 32, 33, 34, 35, 36, 37, 38, 39, 40, 41, 42, 43, 44, 45, 46, 47, 48, 49, 50, 51, 52, 53, 54, 55, 56, 57, 58, 59, 60, 61, 62, 63, 64, 65, 66, 67, 68, 69, 70, 71, 72, 73, 74, 75, 76, 77, 78, 79, 80, 81, 82, 83, 84, 85, 86, 87, 88, 95, 96, 97, 98, 99, 100, 101, 102, 103, 104, 105, 106, 107, 108, 109, 110, 111] (by decide +kernel) (by decide +kernel)
set_option maxRecDepth 20000 in
theorem gX6_cryFor_X6_bestOf : GoodIn wsX6_cryFor (wsV RX6 179 RX6 yX6_bestOf wsX6_bestOf) := goodIn_app (goodIn_of _ (by decide +kernel)) ggX6_cryFor_X6_bestOf
set_option maxRecDepth 20000 in
theorem ggX6_cryFor_X6_finds : GoodIn wsX6_cryFor wsX6_finds := goodIn_r _ [92, 93, 94, 95, 96, 97, 98, 99, 100, 101, 102, 103, 104, 105, 106, 107, 108, 109, 110, 111] (by decide +kernel) (by decide +kernel)
set_option maxRecDepth 20000 in
theorem gX6_cryFor_X6_finds : GoodIn wsX6_cryFor (wsV RX6 121 RX6 yX6_finds wsX6_finds) := goodIn_app (goodIn_of _ (by decide +kernel)) ggX6_cryFor_X6_finds
theorem dX6_cryFor_0 : decode cX6_cryFor 0 = .ok (.iload_n 1, 1) := by decide +kernel
theorem dX6_cryFor_1 : decode cX6_cryFor 1 = .ok (.i2l, 1) := by decide +kernel
theorem dX6_cryFor_2 : decode cX6_cryFor 2 = .ok (.lconst 0, 1) := by decide +kernel
theorem dX6_cryFor_3 : decode cX6_cryFor 3 = .ok (.ldc2_w 111, 3) := by decide +kernel
theorem dX6_cryFor_6 : decode cX6_cryFor 6 = .ok (.invokestatic 42, 3) := by decide +kernel
theorem dX6_cryFor_9 : decode cX6_cryFor 9 = .ok (.ifCond .eq 26, 3) := by decide +kernel
theorem dX6_cryFor_12 : decode cX6_cryFor 12 = .ok (.iload_n 2, 1) := by decide +kernel
theorem dX6_cryFor_13 : decode cX6_cryFor 13 = .ok (.invokestatic 176, 3) := by decide +kernel
theorem dX6_cryFor_16 : decode cX6_cryFor 16 = .ok (.ifCond .eq 19, 3) := by decide +kernel
theorem dX6_cryFor_19 : decode cX6_cryFor 19 = .ok (.aload_n 0, 1) := by decide +kernel
theorem dX6_cryFor_20 : decode cX6_cryFor 20 = .ok (.bipush 7, 2) := by decide +kernel
theorem dX6_cryFor_22 : decode cX6_cryFor 22 = .ok (.iload_n 1, 1) := by decide +kernel
theorem dX6_cryFor_23 : decode cX6_cryFor 23 = .ok (.iadd, 1) := by decide +kernel
theorem dX6_cryFor_24 : decode cX6_cryFor 24 = .ok (.bipush 11, 2) := by decide +kernel
theorem dX6_cryFor_26 : decode cX6_cryFor 26 = .ok (.bipush 6, 2) := by decide +kernel
theorem dX6_cryFor_28 : decode cX6_cryFor 28 = .ok (.iload_n 2, 1) := by decide +kernel
theorem dX6_cryFor_29 : decode cX6_cryFor 29 = .ok (.invokevirtual 179, 3) := by decide +kernel
theorem dX6_cryFor_32 : decode cX6_cryFor 32 = .ok (.goto 8, 3) := by decide +kernel
theorem dX6_cryFor_35 : decode cX6_cryFor 35 = .ok (.aload_n 0, 1) := by decide +kernel
theorem dX6_cryFor_36 : decode cX6_cryFor 36 = .ok (.iconst 0, 1) := by decide +kernel
theorem dX6_cryFor_37 : decode cX6_cryFor 37 = .ok (.invokevirtual 121, 3) := by decide +kernel
theorem dX6_cryFor_40 : decode cX6_cryFor 40 = .ok (.ireturn, 1) := by decide +kernel
set_option maxRecDepth 20000 in
theorem ggX6_startFor_X6_isShort : GoodIn wsX6_startFor wsX6_isShort := goodIn_r _ [4, 5, 6, 7, 3, 8] (by decide +kernel) (by decide +kernel)
set_option maxRecDepth 20000 in
theorem gX6_startFor_X6_isShort : GoodIn wsX6_startFor (va_wsS RX6 176 yX6_isShort wsX6_isShort) := goodIn_app (goodIn_of _ (by decide +kernel)) ggX6_startFor_X6_isShort
set_option maxRecDepth 20000 in
theorem ggX6_startFor_X6_bestOf : GoodIn wsX6_startFor wsX6_bestOf := goodIn_r _ [12, 13, 14, 15, 16, 3, 17, 18, 19, 20, 21, 22, 23, 24, 25, 26, 27, 28, 29, 30, 31, 32, 33, 34, 35, 36, 37, 38, 39, 40, 41, 42, 43, 44, 45, 46, 47, 48, 49, 50, 51, 52, 53, 54, 55, 56, 57, 58, 59, 60, 61, 62, 63, 64, 65, 66, 67, 68, 69, 70, 71, 72, 73, 74, 75, 76, 77, 78, 79, 80, 81, 82, 83, 84, 85, 86, 87, 94, 95, 96, 97, 98, 99, 100, 101, 102, 103, 104, 105, 106, 107, 108, 109, 110] (by decide +kernel) (by decide +kernel)
set_option maxRecDepth 20000 in
theorem gX6_startFor_X6_bestOf : GoodIn wsX6_startFor (wsV RX6 179 RX6 yX6_bestOf wsX6_bestOf) := goodIn_app (goodIn_of _ (by decide +kernel)) ggX6_startFor_X6_bestOf
set_option maxRecDepth 20000 in
theorem ggX6_startFor_X6_finds : GoodIn wsX6_startFor wsX6_finds := goodIn_r _ [91, 92, 93, 94, 95, 96, 97, 98, 99, 100, 101, 102, 103, 104, 105, 106, 107, 108, 109, 110] (by decide +kernel) (by decide +kernel)
set_option maxRecDepth 20000 in
theorem gX6_startFor_X6_finds : GoodIn wsX6_startFor (wsV RX6 121 RX6 yX6_finds wsX6_finds) := goodIn_app (goodIn_of _ (by decide +kernel)) ggX6_startFor_X6_finds
theorem dX6_startFor_0 : decode cX6_startFor 0 = .ok (.iload_n 1, 1) := by decide +kernel
theorem dX6_startFor_1 : decode cX6_startFor 1 = .ok (.invokestatic 176, 3) := by decide +kernel
theorem dX6_startFor_4 : decode cX6_startFor 4 = .ok (.ifCond .eq 16, 3) := by decide +kernel
theorem dX6_startFor_7 : decode cX6_startFor 7 = .ok (.aload_n 0, 1) := by decide +kernel
theorem dX6_startFor_8 : decode cX6_startFor 8 = .ok (.iconst 3, 1) := by decide +kernel
theorem dX6_startFor_9 : decode cX6_startFor 9 = .ok (.bipush 15, 2) := by decide +kernel
theorem dX6_startFor_11 : decode cX6_startFor 11 = .ok (.bipush 6, 2) := by decide +kernel
theorem dX6_startFor_13 : decode cX6_startFor 13 = .ok (.iload_n 1, 1) := by decide +kernel
theorem dX6_startFor_14 : decode cX6_startFor 14 = .ok (.invokevirtual 179, 3) := by decide +kernel
theorem dX6_startFor_17 : decode cX6_startFor 17 = .ok (.goto 8, 3) := by decide +kernel
theorem dX6_startFor_20 : decode cX6_startFor 20 = .ok (.aload_n 0, 1) := by decide +kernel
theorem dX6_startFor_21 : decode cX6_startFor 21 = .ok (.iconst 0, 1) := by decide +kernel
theorem dX6_startFor_22 : decode cX6_startFor 22 = .ok (.invokevirtual 121, 3) := by decide +kernel
theorem dX6_startFor_25 : decode cX6_startFor 25 = .ok (.ireturn, 1) := by decide +kernel
set_option maxRecDepth 20000 in
theorem ggX6_loudFor_X6_in : GoodIn wsX6_loudFor wsX6_in := goodIn_r _ [7] (by decide +kernel) (by decide +kernel)
set_option maxRecDepth 20000 in
theorem gX6_loudFor_X6_in : GoodIn wsX6_loudFor (va_wsS RX6 42 yX6_in wsX6_in) := goodIn_app (goodIn_of _ (by decide +kernel)) ggX6_loudFor_X6_in
set_option maxRecDepth 20000 in
theorem ggX6_loudFor_X6_isShort : GoodIn wsX6_loudFor wsX6_isShort := goodIn_r _ [10, 11, 4, 5, 6, 7] (by decide +kernel) (by decide +kernel)
set_option maxRecDepth 20000 in
theorem gX6_loudFor_X6_isShort : GoodIn wsX6_loudFor (va_wsS RX6 176 yX6_isShort wsX6_isShort) := goodIn_app (goodIn_of _ (by decide +kernel)) ggX6_loudFor_X6_isShort
set_option maxRecDepth 20000 in
theorem ggX6_loudFor_X6_finds : GoodIn wsX6_loudFor wsX6_finds := goodIn_r _ [15, 16, 17, 91, 92, 93, 94, 95, 96, 97, 98, 99, 100, 101, 102, 103, 104, 105, 106, 107] (by decide +kernel) (by decide +kernel)
set_option maxRecDepth 20000 in
theorem gX6_loudFor_X6_finds : GoodIn wsX6_loudFor (wsV RX6 121 RX6 yX6_finds wsX6_finds) := goodIn_app (goodIn_of _ (by decide +kernel)) ggX6_loudFor_X6_finds
set_option maxRecDepth 20000 in
theorem ggX6_loudFor_X6_copies : GoodIn wsX6_loudFor wsX6_copies := goodIn_r _ [20] (by decide +kernel) (by decide +kernel)
set_option maxRecDepth 20000 in
theorem gX6_loudFor_X6_copies : GoodIn wsX6_loudFor (va_wsS RX6 158 yX6_copies wsX6_copies) := goodIn_app (goodIn_of _ (by decide +kernel)) ggX6_loudFor_X6_copies
set_option maxRecDepth 20000 in
theorem ggX6_loudFor_X6_behind : GoodIn wsX6_loudFor wsX6_behind := goodIn_r _ [24, 2, 3, 25, 26, 27, 6, 28, 29, 30, 31, 32, 33, 34, 35, 36, 37, 38, 39, 40, 41, 42, 43, 44, 45, 46, 47, 48, 49, 50, 51, 52, 53, 54, 55, 56, 57, 58, 59, 60, 61, 62, 63, 64, 65, 66, 67, 68, 69, 70, 71, 72, 73, 74, 75, 76, 77, 78, 79, 80, 81, 82, 83, 84, 85, 86, 87, 88, 89, 90, 18, 19, 20, 91, 92, 93, 94, 95, 96, 97, 98, 99, 100, 101, 102, 103, 104, 105, 106, 107] (by decide +kernel) (by decide +kernel)
set_option maxRecDepth 20000 in
theorem gX6_loudFor_X6_behind : GoodIn wsX6_loudFor (wsV RX6 166 RX6 yX6_behind wsX6_behind) := goodIn_app (goodIn_of _ (by decide +kernel)) ggX6_loudFor_X6_behind
theorem dX6_loudFor_0 : decode cX6_loudFor 0 = .ok (.iload_n 1, 1) := by decide +kernel
theorem dX6_loudFor_1 : decode cX6_loudFor 1 = .ok (.i2l, 1) := by decide +kernel
theorem dX6_loudFor_2 : decode cX6_loudFor 2 = .ok (.lconst 0, 1) := by decide +kernel
theorem dX6_loudFor_3 : decode cX6_loudFor 3 = .ok (.ldc2_w 183, 3) := by decide +kernel
theorem dX6_loudFor_6 : decode cX6_loudFor 6 = .ok (.invokestatic 42, 3) := by decide +kernel
theorem dX6_loudFor_9 : decode cX6_loudFor 9 = .ok (.ifCond .eq 10, 3) := by decide +kernel
theorem dX6_loudFor_12 : decode cX6_loudFor 12 = .ok (.iload_n 2, 1) := by decide +kernel
theorem dX6_loudFor_13 : decode cX6_loudFor 13 = .ok (.invokestatic 176, 3) := by decide +kernel
theorem dX6_loudFor_16 : decode cX6_loudFor 16 = .ok (.ifCond .ne 9, 3) := by decide +kernel
theorem dX6_loudFor_19 : decode cX6_loudFor 19 = .ok (.aload_n 0, 1) := by decide +kernel
theorem dX6_loudFor_20 : decode cX6_loudFor 20 = .ok (.iconst 0, 1) := by decide +kernel
theorem dX6_loudFor_21 : decode cX6_loudFor 21 = .ok (.invokevirtual 121, 3) := by decide +kernel
theorem dX6_loudFor_24 : decode cX6_loudFor 24 = .ok (.ireturn, 1) := by decide +kernel
theorem dX6_loudFor_25 : decode cX6_loudFor 25 = .ok (.aload_n 0, 1) := by decide +kernel
theorem dX6_loudFor_26 : decode cX6_loudFor 26 = .ok (.getfield 7, 3) := by decide +kernel
theorem dX6_loudFor_29 : decode cX6_loudFor 29 = .ok (.aload_n 0, 1) := by decide +kernel
theorem dX6_loudFor_30 : decode cX6_loudFor 30 = .ok (.getfield 16, 3) := by decide +kernel
theorem dX6_loudFor_33 : decode cX6_loudFor 33 = .ok (.invokestatic 158, 3) := by decide +kernel
theorem dX6_loudFor_36 : decode cX6_loudFor 36 = .ok (.iconst 0, 1) := by decide +kernel
theorem dX6_loudFor_37 : decode cX6_loudFor 37 = .ok (.istore_n 3, 1) := by decide +kernel
theorem dX6_loudFor_38 : decode cX6_loudFor 38 = .ok (.iload_n 3, 1) := by decide +kernel
theorem dX6_loudFor_39 : decode cX6_loudFor 39 = .ok (.bipush 10, 2) := by decide +kernel
theorem dX6_loudFor_41 : decode cX6_loudFor 41 = .ok (.if_icmp .ge 29, 3) := by decide +kernel
theorem dX6_loudFor_44 : decode cX6_loudFor 44 = .ok (.aload_n 0, 1) := by decide +kernel
theorem dX6_loudFor_45 : decode cX6_loudFor 45 = .ok (.getfield 7, 3) := by decide +kernel
theorem dX6_loudFor_48 : decode cX6_loudFor 48 = .ok (.iconst 5, 1) := by decide +kernel
theorem dX6_loudFor_49 : decode cX6_loudFor 49 = .ok (.iload_n 3, 1) := by decide +kernel
theorem dX6_loudFor_50 : decode cX6_loudFor 50 = .ok (.iastore, 1) := by decide +kernel
theorem dX6_loudFor_51 : decode cX6_loudFor 51 = .ok (.aload_n 0, 1) := by decide +kernel
theorem dX6_loudFor_52 : decode cX6_loudFor 52 = .ok (.iload_n 2, 1) := by decide +kernel
theorem dX6_loudFor_53 : decode cX6_loudFor 53 = .ok (.bipush 6, 2) := by decide +kernel
theorem dX6_loudFor_55 : decode cX6_loudFor 55 = .ok (.invokevirtual 166, 3) := by decide +kernel
theorem dX6_loudFor_58 : decode cX6_loudFor 58 = .ok (.iload_n 1, 1) := by decide +kernel
theorem dX6_loudFor_59 : decode cX6_loudFor 59 = .ok (.if_icmp .lt 5, 3) := by decide +kernel
theorem dX6_loudFor_62 : decode cX6_loudFor 62 = .ok (.iload_n 3, 1) := by decide +kernel
theorem dX6_loudFor_63 : decode cX6_loudFor 63 = .ok (.ireturn, 1) := by decide +kernel
theorem dX6_loudFor_64 : decode cX6_loudFor 64 = .ok (.iinc 3 1, 3) := by decide +kernel
