set_option maxRecDepth 20000 in
theorem ggX0_read_X0_peek : GoodIn wsX0_read wsX0_peek := goodIn_r _ [9, 10, 11, 12, 13, 14, 15, 16, 17, 2, 3, 4, 18, 19, 20, 21, 22, 23, 24, 25, 26, 27, 28, 29, 30, 31, 40, 41, 42, 43, 44, 45, 66, 67, 68, 46, 47, 48, 49, 50, 51, 52, 53, 54, 55, 56, 57, 58, 59, 60, 61, 62, 63, 64, 65, 69, 70] (by decide +kernel) (by decide +kernel)
set_option maxRecDepth 20000 in
theorem gX0_read_X0_peek : GoodIn wsX0_read (wsV RX0 87 RX0 yX0_peek wsX0_peek) := goodIn_app (goodIn_of _ (by decide +kernel)) ggX0_read_X0_peek
theorem dX0_read_0 : decode cX0_read 0 = .ok (.aload_n 0, 1) := by decide +kernel
theorem dX0_read_1 : decode cX0_read 1 = .ok (.iload_n 1, 1) := by decide +kernel
theorem dX0_read_2 : decode cX0_read 2 = .ok (.invokevirtual 87, 3) := by decide +kernel
theorem dX0_read_5 : decode cX0_read 5 = .ok (.istore_n 2, 1) := by decide +kernel
theorem dX0_read_6 : decode cX0_read 6 = .ok (.iload_n 1, 1) := by decide +kernel
theorem dX0_read_7 : decode cX0_read 7 = .ok (.ldc 91, 2) := by decide +kernel
theorem dX0_read_9 : decode cX0_read 9 = .ok (.if_icmp .ne 20, 3) := by decide +kernel
theorem dX0_read_12 : decode cX0_read 12 = .ok (.aload_n 0, 1) := by decide +kernel
theorem dX0_read_13 : decode cX0_read 13 = .ok (.getfield 30, 3) := by decide +kernel
theorem dX0_read_16 : decode cX0_read 16 = .ok (.aload_n 0, 1) := by decide +kernel
theorem dX0_read_17 : decode cX0_read 17 = .ok (.getfield 30, 3) := by decide +kernel
theorem dX0_read_20 : decode cX0_read 20 = .ok (.getfield 61, 3) := by decide +kernel
theorem dX0_read_23 : decode cX0_read 23 = .ok (.bipush 64, 2) := by decide +kernel
theorem dX0_read_25 : decode cX0_read 25 = .ok (.iand, 1) := by decide +kernel
theorem dX0_read_26 : decode cX0_read 26 = .ok (.invokevirtual 94, 3) := by decide +kernel
theorem dX0_read_29 : decode cX0_read 29 = .ok (.iload_n 2, 1) := by decide +kernel
theorem dX0_read_30 : decode cX0_read 30 = .ok (.ireturn, 1) := by decide +kernel
theorem dX0_write_0 : decode cX0_write 0 = .ok (.iload_n 1, 1) := by decide +kernel
theorem dX0_write_1 : decode cX0_write 1 = .ok (.ifCond .lt 21, 3) := by decide +kernel
theorem dX0_write_4 : decode cX0_write 4 = .ok (.iload_n 1, 1) := by decide +kernel
theorem dX0_write_5 : decode cX0_write 5 = .ok (.sipush 1024, 3) := by decide +kernel
theorem dX0_write_8 : decode cX0_write 8 = .ok (.if_icmp .ge 14, 3) := by decide +kernel
theorem dX0_write_11 : decode cX0_write 11 = .ok (.aload_n 0, 1) := by decide +kernel
theorem dX0_write_12 : decode cX0_write 12 = .ok (.getfield 9, 3) := by decide +kernel
theorem dX0_write_15 : decode cX0_write 15 = .ok (.iload_n 1, 1) := by decide +kernel
theorem dX0_write_16 : decode cX0_write 16 = .ok (.iconst 1, 1) := by decide +kernel
theorem dX0_write_17 : decode cX0_write 17 = .ok (.ishr, 1) := by decide +kernel
theorem dX0_write_18 : decode cX0_write 18 = .ok (.iload_n 2, 1) := by decide +kernel
theorem dX0_write_19 : decode cX0_write 19 = .ok (.iastore, 1) := by decide +kernel
theorem dX0_write_20 : decode cX0_write 20 = .ok (.iconst 1, 1) := by decide +kernel
theorem dX0_write_21 : decode cX0_write 21 = .ok (.ireturn, 1) := by decide +kernel
theorem dX0_write_22 : decode cX0_write 22 = .ok (.iload_n 1, 1) := by decide +kernel
theorem dX0_write_23 : decode cX0_write 23 = .ok (.ldc 48, 2) := by decide +kernel
theorem dX0_write_25 : decode cX0_write 25 = .ok (.if_icmp .lt 30, 3) := by decide +kernel
theorem dX0_write_28 : decode cX0_write 28 = .ok (.iload_n 1, 1) := by decide +kernel
theorem dX0_write_29 : decode cX0_write 29 = .ok (.ldc 49, 2) := by decide +kernel
theorem dX0_write_31 : decode cX0_write 31 = .ok (.if_icmp .ge 24, 3) := by decide +kernel
theorem dX0_write_34 : decode cX0_write 34 = .ok (.aload_n 0, 1) := by decide +kernel
theorem dX0_write_35 : decode cX0_write 35 = .ok (.getfield 16, 3) := by decide +kernel
theorem dX0_write_38 : decode cX0_write 38 = .ok (.getfield 50, 3) := by decide +kernel
theorem dX0_write_41 : decode cX0_write 41 = .ok (.iload_n 1, 1) := by decide +kernel
theorem dX0_write_42 : decode cX0_write 42 = .ok (.ldc 48, 2) := by decide +kernel
theorem dX0_write_44 : decode cX0_write 44 = .ok (.isub, 1) := by decide +kernel
theorem dX0_write_45 : decode cX0_write 45 = .ok (.iconst 1, 1) := by decide +kernel
theorem dX0_write_46 : decode cX0_write 46 = .ok (.ishr, 1) := by decide +kernel
theorem dX0_write_47 : decode cX0_write 47 = .ok (.iload_n 2, 1) := by decide +kernel
theorem dX0_write_48 : decode cX0_write 48 = .ok (.sipush 32515, 3) := by decide +kernel
theorem dX0_write_51 : decode cX0_write 51 = .ok (.iand, 1) := by decide +kernel
theorem dX0_write_52 : decode cX0_write 52 = .ok (.iastore, 1) := by decide +kernel
theorem dX0_write_53 : decode cX0_write 53 = .ok (.iconst 1, 1) := by decide +kernel
theorem dX0_write_54 : decode cX0_write 54 = .ok (.ireturn, 1) := by decide +kernel
theorem dX0_write_55 : decode cX0_write 55 = .ok (.iload_n 1, 1) := by decide +kernel
theorem dX0_write_56 : decode cX0_write 56 = .ok (.ldc 49, 2) := by decide +kernel
theorem dX0_write_58 : decode cX0_write 58 = .ok (.if_icmp .lt 30, 3) := by decide +kernel
theorem dX0_write_61 : decode cX0_write 61 = .ok (.iload_n 1, 1) := by decide +kernel
theorem dX0_write_62 : decode cX0_write 62 = .ok (.ldc 53, 2) := by decide +kernel
theorem dX0_write_64 : decode cX0_write 64 = .ok (.if_icmp .ge 24, 3) := by decide +kernel
theorem dX0_write_67 : decode cX0_write 67 = .ok (.aload_n 0, 1) := by decide +kernel
theorem dX0_write_68 : decode cX0_write 68 = .ok (.getfield 16, 3) := by decide +kernel
theorem dX0_write_71 : decode cX0_write 71 = .ok (.getfield 54, 3) := by decide +kernel
theorem dX0_write_74 : decode cX0_write 74 = .ok (.iload_n 1, 1) := by decide +kernel
theorem dX0_write_75 : decode cX0_write 75 = .ok (.ldc 49, 2) := by decide +kernel
theorem dX0_write_77 : decode cX0_write 77 = .ok (.isub, 1) := by decide +kernel
theorem dX0_write_78 : decode cX0_write 78 = .ok (.iconst 1, 1) := by decide +kernel
theorem dX0_write_79 : decode cX0_write 79 = .ok (.ishr, 1) := by decide +kernel
theorem dX0_write_80 : decode cX0_write 80 = .ok (.iload_n 2, 1) := by decide +kernel
theorem dX0_write_81 : decode cX0_write 81 = .ok (.sipush 1023, 3) := by decide +kernel
theorem dX0_write_84 : decode cX0_write 84 = .ok (.iand, 1) := by decide +kernel
theorem dX0_write_85 : decode cX0_write 85 = .ok (.iastore, 1) := by decide +kernel
theorem dX0_write_86 : decode cX0_write 86 = .ok (.iconst 1, 1) := by decide +kernel
theorem dX0_write_87 : decode cX0_write 87 = .ok (.ireturn, 1) := by decide +kernel
theorem dX0_write_88 : decode cX0_write 88 = .ok (.iload_n 1, 1) := by decide +kernel
theorem dX0_write_89 : decode cX0_write 89 = .ok (.lookupswitch 282 #[(57408, 91), (57424, 104), (57426, 129), (57428, 131), (57430, 156), (57440, 166), (57442, 232), (57444, 245), (57446, 255), (57470, 268)], 91) := by decide +kernel
theorem dX0_write_180 : decode cX0_write 180 = .ok (.aload_n 0, 1) := by decide +kernel
theorem dX0_write_181 : decode cX0_write 181 = .ok (.getfield 16, 3) := by decide +kernel
theorem dX0_write_184 : decode cX0_write 184 = .ok (.iload_n 2, 1) := by decide +kernel
theorem dX0_write_185 : decode cX0_write 185 = .ok (.ldc 98, 2) := by decide +kernel
theorem dX0_write_187 : decode cX0_write 187 = .ok (.iand, 1) := by decide +kernel
theorem dX0_write_188 : decode cX0_write 188 = .ok (.putfield 57, 3) := by decide +kernel
theorem dX0_write_191 : decode cX0_write 191 = .ok (.iconst 1, 1) := by decide +kernel
theorem dX0_write_192 : decode cX0_write 192 = .ok (.ireturn, 1) := by decide +kernel
theorem dX0_write_193 : decode cX0_write 193 = .ok (.aload_n 0, 1) := by decide +kernel
theorem dX0_write_194 : decode cX0_write 194 = .ok (.getfield 30, 3) := by decide +kernel
theorem dX0_write_197 : decode cX0_write 197 = .ok (.aload_n 0, 1) := by decide +kernel
theorem dX0_write_198 : decode cX0_write 198 = .ok (.getfield 30, 3) := by decide +kernel
theorem dX0_write_201 : decode cX0_write 201 = .ok (.getfield 61, 3) := by decide +kernel
theorem dX0_write_204 : decode cX0_write 204 = .ok (.sipush 128, 3) := by decide +kernel
theorem dX0_write_207 : decode cX0_write 207 = .ok (.iand, 1) := by decide +kernel
theorem dX0_write_208 : decode cX0_write 208 = .ok (.iload_n 2, 1) := by decide +kernel
theorem dX0_write_209 : decode cX0_write 209 = .ok (.bipush 64, 2) := by decide +kernel
theorem dX0_write_211 : decode cX0_write 211 = .ok (.iand, 1) := by decide +kernel
theorem dX0_write_212 : decode cX0_write 212 = .ok (.ior, 1) := by decide +kernel
theorem dX0_write_213 : decode cX0_write 213 = .ok (.invokevirtual 94, 3) := by decide +kernel
theorem dX0_write_216 : decode cX0_write 216 = .ok (.iconst 1, 1) := by decide +kernel
theorem dX0_write_217 : decode cX0_write 217 = .ok (.ireturn, 1) := by decide +kernel
theorem dX0_write_218 : decode cX0_write 218 = .ok (.iconst 1, 1) := by decide +kernel
theorem dX0_write_219 : decode cX0_write 219 = .ok (.ireturn, 1) := by decide +kernel
theorem dX0_write_220 : decode cX0_write 220 = .ok (.aload_n 0, 1) := by decide +kernel
theorem dX0_write_221 : decode cX0_write 221 = .ok (.getfield 37, 3) := by decide +kernel
theorem dX0_write_224 : decode cX0_write 224 = .ok (.aload_n 0, 1) := by decide +kernel
theorem dX0_write_225 : decode cX0_write 225 = .ok (.getfield 37, 3) := by decide +kernel
theorem dX0_write_228 : decode cX0_write 228 = .ok (.getfield 67, 3) := by decide +kernel
theorem dX0_write_231 : decode cX0_write 231 = .ok (.sipush 128, 3) := by decide +kernel
theorem dX0_write_234 : decode cX0_write 234 = .ok (.iand, 1) := by decide +kernel
theorem dX0_write_235 : decode cX0_write 235 = .ok (.iload_n 2, 1) := by decide +kernel
theorem dX0_write_236 : decode cX0_write 236 = .ok (.bipush 64, 2) := by decide +kernel
theorem dX0_write_238 : decode cX0_write 238 = .ok (.iand, 1) := by decide +kernel
theorem dX0_write_239 : decode cX0_write 239 = .ok (.ior, 1) := by decide +kernel
theorem dX0_write_240 : decode cX0_write 240 = .ok (.invokevirtual 99, 3) := by decide +kernel
theorem dX0_write_243 : decode cX0_write 243 = .ok (.iconst 1, 1) := by decide +kernel
theorem dX0_write_244 : decode cX0_write 244 = .ok (.ireturn, 1) := by decide +kernel
theorem dX0_write_245 : decode cX0_write 245 = .ok (.aload_n 0, 1) := by decide +kernel
theorem dX0_write_246 : decode cX0_write 246 = .ok (.getfield 37, 3) := by decide +kernel
theorem dX0_write_249 : decode cX0_write 249 = .ok (.iload_n 2, 1) := by decide +kernel
theorem dX0_write_250 : decode cX0_write 250 = .ok (.invokevirtual 100, 3) := by decide +kernel
theorem dX0_write_253 : decode cX0_write 253 = .ok (.iconst 1, 1) := by decide +kernel
theorem dX0_write_254 : decode cX0_write 254 = .ok (.ireturn, 1) := by decide +kernel
theorem dX0_write_255 : decode cX0_write 255 = .ok (.aload_n 0, 1) := by decide +kernel
theorem dX0_write_256 : decode cX0_write 256 = .ok (.getfield 44, 3) := by decide +kernel
theorem dX0_write_259 : decode cX0_write 259 = .ok (.iload_n 2, 1) := by decide +kernel
theorem dX0_write_260 : decode cX0_write 260 = .ok (.iconst 2, 1) := by decide +kernel
theorem dX0_write_261 : decode cX0_write 261 = .ok (.iand, 1) := by decide +kernel
theorem dX0_write_262 : decode cX0_write 262 = .ok (.putfield 69, 3) := by decide +kernel
theorem dX0_write_265 : decode cX0_write 265 = .ok (.iload_n 2, 1) := by decide +kernel
theorem dX0_write_266 : decode cX0_write 266 = .ok (.iconst 1, 1) := by decide +kernel
theorem dX0_write_267 : decode cX0_write 267 = .ok (.iand, 1) := by decide +kernel
theorem dX0_write_268 : decode cX0_write 268 = .ok (.ifCond .eq 28, 3) := by decide +kernel
theorem dX0_write_271 : decode cX0_write 271 = .ok (.aload_n 0, 1) := by decide +kernel
theorem dX0_write_272 : decode cX0_write 272 = .ok (.getfield 44, 3) := by decide +kernel
theorem dX0_write_275 : decode cX0_write 275 = .ok (.getfield 68, 3) := by decide +kernel
theorem dX0_write_278 : decode cX0_write 278 = .ok (.sipush 128, 3) := by decide +kernel
theorem dX0_write_281 : decode cX0_write 281 = .ok (.iand, 1) := by decide +kernel
theorem dX0_write_282 : decode cX0_write 282 = .ok (.ifCond .eq 14, 3) := by decide +kernel
theorem dX0_write_285 : decode cX0_write 285 = .ok (.aload_n 0, 1) := by decide +kernel
theorem dX0_write_286 : decode cX0_write 286 = .ok (.getfield 44, 3) := by decide +kernel
theorem dX0_write_289 : decode cX0_write 289 = .ok (.iload_n 2, 1) := by decide +kernel
theorem dX0_write_290 : decode cX0_write 290 = .ok (.invokevirtual 103, 3) := by decide +kernel
theorem dX0_write_293 : decode cX0_write 293 = .ok (.goto 26, 3) := by decide +kernel
theorem dX0_write_296 : decode cX0_write 296 = .ok (.aload_n 0, 1) := by decide +kernel
theorem dX0_write_297 : decode cX0_write 297 = .ok (.getfield 44, 3) := by decide +kernel
theorem dX0_write_300 : decode cX0_write 300 = .ok (.aload_n 0, 1) := by decide +kernel
theorem dX0_write_301 : decode cX0_write 301 = .ok (.getfield 44, 3) := by decide +kernel
theorem dX0_write_304 : decode cX0_write 304 = .ok (.getfield 68, 3) := by decide +kernel
theorem dX0_write_307 : decode cX0_write 307 = .ok (.sipush 128, 3) := by decide +kernel
theorem dX0_write_310 : decode cX0_write 310 = .ok (.iand, 1) := by decide +kernel
theorem dX0_write_311 : decode cX0_write 311 = .ok (.iload_n 2, 1) := by decide +kernel
theorem dX0_write_312 : decode cX0_write 312 = .ok (.bipush 64, 2) := by decide +kernel
theorem dX0_write_314 : decode cX0_write 314 = .ok (.iand, 1) := by decide +kernel
theorem dX0_write_315 : decode cX0_write 315 = .ok (.ior, 1) := by decide +kernel
theorem dX0_write_316 : decode cX0_write 316 = .ok (.invokevirtual 104, 3) := by decide +kernel
theorem dX0_write_319 : decode cX0_write 319 = .ok (.iconst 1, 1) := by decide +kernel
theorem dX0_write_320 : decode cX0_write 320 = .ok (.ireturn, 1) := by decide +kernel
theorem dX0_write_321 : decode cX0_write 321 = .ok (.aload_n 0, 1) := by decide +kernel
theorem dX0_write_322 : decode cX0_write 322 = .ok (.getfield 44, 3) := by decide +kernel
theorem dX0_write_325 : decode cX0_write 325 = .ok (.iload_n 2, 1) := by decide +kernel
theorem dX0_write_326 : decode cX0_write 326 = .ok (.bipush 63, 2) := by decide +kernel
theorem dX0_write_328 : decode cX0_write 328 = .ok (.iand, 1) := by decide +kernel
theorem dX0_write_329 : decode cX0_write 329 = .ok (.putfield 75, 3) := by decide +kernel
theorem dX0_write_332 : decode cX0_write 332 = .ok (.iconst 1, 1) := by decide +kernel
theorem dX0_write_333 : decode cX0_write 333 = .ok (.ireturn, 1) := by decide +kernel
theorem dX0_write_334 : decode cX0_write 334 = .ok (.aload_n 0, 1) := by decide +kernel
theorem dX0_write_335 : decode cX0_write 335 = .ok (.getfield 44, 3) := by decide +kernel
theorem dX0_write_338 : decode cX0_write 338 = .ok (.iload_n 2, 1) := by decide +kernel
theorem dX0_write_339 : decode cX0_write 339 = .ok (.putfield 78, 3) := by decide +kernel
theorem dX0_write_342 : decode cX0_write 342 = .ok (.iconst 1, 1) := by decide +kernel
theorem dX0_write_343 : decode cX0_write 343 = .ok (.ireturn, 1) := by decide +kernel
theorem dX0_write_344 : decode cX0_write 344 = .ok (.aload_n 0, 1) := by decide +kernel
theorem dX0_write_345 : decode cX0_write 345 = .ok (.getfield 44, 3) := by decide +kernel
theorem dX0_write_348 : decode cX0_write 348 = .ok (.iload_n 2, 1) := by decide +kernel
theorem dX0_write_349 : decode cX0_write 349 = .ok (.bipush 7, 2) := by decide +kernel
theorem dX0_write_351 : decode cX0_write 351 = .ok (.iand, 1) := by decide +kernel
theorem dX0_write_352 : decode cX0_write 352 = .ok (.putfield 81, 3) := by decide +kernel
theorem dX0_write_355 : decode cX0_write 355 = .ok (.iconst 1, 1) := by decide +kernel
theorem dX0_write_356 : decode cX0_write 356 = .ok (.ireturn, 1) := by decide +kernel
theorem dX0_write_357 : decode cX0_write 357 = .ok (.aload_n 0, 1) := by decide +kernel
theorem dX0_write_358 : decode cX0_write 358 = .ok (.getfield 23, 3) := by decide +kernel
theorem dX0_write_361 : decode cX0_write 361 = .ok (.iload_n 2, 1) := by decide +kernel
theorem dX0_write_362 : decode cX0_write 362 = .ok (.sipush 20719, 3) := by decide +kernel
theorem dX0_write_365 : decode cX0_write 365 = .ok (.iand, 1) := by decide +kernel
theorem dX0_write_366 : decode cX0_write 366 = .ok (.putfield 105, 3) := by decide +kernel
theorem dX0_write_369 : decode cX0_write 369 = .ok (.iconst 1, 1) := by decide +kernel
theorem dX0_write_370 : decode cX0_write 370 = .ok (.ireturn, 1) := by decide +kernel
theorem dX0_write_371 : decode cX0_write 371 = .ok (.iconst 0, 1) := by decide +kernel
theorem dX0_write_372 : decode cX0_write 372 = .ok (.ireturn, 1) := by decide +kernel
theorem dX0_nextInstruction_0 : decode cX0_nextInstruction 0 = .ok (.aload_n 0, 1) := by decide +kernel
theorem dX0_nextInstruction_1 : decode cX0_nextInstruction 1 = .ok (.getfield 37, 3) := by decide +kernel
theorem dX0_nextInstruction_4 : decode cX0_nextInstruction 4 = .ok (.iconst 0, 1) := by decide +kernel
theorem dX0_nextInstruction_5 : decode cX0_nextInstruction 5 = .ok (.putfield 108, 3) := by decide +kernel
theorem dX0_nextInstruction_8 : decode cX0_nextInstruction 8 = .ok (.aload_n 0, 1) := by decide +kernel
theorem dX0_nextInstruction_9 : decode cX0_nextInstruction 9 = .ok (.getfield 44, 3) := by decide +kernel
theorem dX0_nextInstruction_12 : decode cX0_nextInstruction 12 = .ok (.iconst 0, 1) := by decide +kernel
theorem dX0_nextInstruction_13 : decode cX0_nextInstruction 13 = .ok (.putfield 112, 3) := by decide +kernel
theorem dX0_nextInstruction_16 : decode cX0_nextInstruction 16 = .ok (.return_, 1) := by decide +kernel
set_option maxRecDepth 20000 in
theorem ggX0_goOn_X5_goOn : GoodIn wsX0_goOn wsX5_goOn := goodIn_r _ [8, 9, 10, 11, 12, 13, 14, 15, 16, 17, 18, 19, 20, 21, 22, 23, 53, 54, 55, 56, 57, 58, 59, 60, 61, 62, 63, 64, 65, 66, 67, 68, 69, 70, 71, 72] (by decide +kernel) (by decide +kernel)
set_option maxRecDepth 20000 in
theorem gX0_goOn_X5_goOn : GoodIn wsX0_goOn (wsV RX0 113 RX5 yX5_goOn wsX5_goOn) := goodIn_app (goodIn_of _ (by decide +kernel)) ggX0_goOn_X5_goOn
set_option maxRecDepth 20000 in
theorem ggX0_goOn_X1_goOn : GoodIn wsX0_goOn wsX1_goOn := goodIn_r _ [28, 29, 30, 31, 32, 33, 34, 35, 27, 36, 37, 38, 39, 40, 41, 42, 43, 44, 45, 46, 19, 20, 21, 22, 23, 60, 61, 62, 63, 64, 65, 66, 67, 68, 69, 70, 71, 72, 53, 54, 55, 56, 57, 58, 59] (by decide +kernel) (by decide +kernel)
set_option maxRecDepth 20000 in
theorem gX0_goOn_X1_goOn : GoodIn wsX0_goOn (wsV RX0 116 RX1 yX1_goOn wsX1_goOn) := goodIn_app (goodIn_of _ (by decide +kernel)) ggX0_goOn_X1_goOn
theorem dX0_goOn_0 : decode cX0_goOn 0 = .ok (.aload_n 0, 1) := by decide +kernel
theorem dX0_goOn_1 : decode cX0_goOn 1 = .ok (.getfield 37, 3) := by decide +kernel
theorem dX0_goOn_4 : decode cX0_goOn 4 = .ok (.invokevirtual 113, 3) := by decide +kernel
theorem dX0_goOn_7 : decode cX0_goOn 7 = .ok (.aload_n 0, 1) := by decide +kernel
theorem dX0_goOn_8 : decode cX0_goOn 8 = .ok (.getfield 44, 3) := by decide +kernel
theorem dX0_goOn_11 : decode cX0_goOn 11 = .ok (.aload_n 0, 1) := by decide +kernel
theorem dX0_goOn_12 : decode cX0_goOn 12 = .ok (.getfield 9, 3) := by decide +kernel
theorem dX0_goOn_15 : decode cX0_goOn 15 = .ok (.invokevirtual 116, 3) := by decide +kernel
theorem dX0_goOn_18 : decode cX0_goOn 18 = .ok (.return_, 1) := by decide +kernel
theorem dX1_goOn_0 : decode cX1_goOn 0 = .ok (.aload_n 0, 1) := by decide +kernel
theorem dX1_goOn_1 : decode cX1_goOn 1 = .ok (.getfield 29, 3) := by decide +kernel
theorem dX1_goOn_4 : decode cX1_goOn 4 = .ok (.ifCond .eq 10, 3) := by decide +kernel
theorem dX1_goOn_7 : decode cX1_goOn 7 = .ok (.aload_n 0, 1) := by decide +kernel
theorem dX1_goOn_8 : decode cX1_goOn 8 = .ok (.getfield 32, 3) := by decide +kernel
theorem dX1_goOn_11 : decode cX1_goOn 11 = .ok (.ifCond .eq 4, 3) := by decide +kernel
theorem dX1_goOn_14 : decode cX1_goOn 14 = .ok (.return_, 1) := by decide +kernel
theorem dX1_goOn_15 : decode cX1_goOn 15 = .ok (.aload_n 0, 1) := by decide +kernel
theorem dX1_goOn_16 : decode cX1_goOn 16 = .ok (.dup, 1) := by decide +kernel
theorem dX1_goOn_17 : decode cX1_goOn 17 = .ok (.getfield 29, 3) := by decide +kernel
theorem dX1_goOn_20 : decode cX1_goOn 20 = .ok (.iconst 1, 1) := by decide +kernel
theorem dX1_goOn_21 : decode cX1_goOn 21 = .ok (.isub, 1) := by decide +kernel
theorem dX1_goOn_22 : decode cX1_goOn 22 = .ok (.putfield 29, 3) := by decide +kernel
theorem dX1_goOn_25 : decode cX1_goOn 25 = .ok (.aload_n 0, 1) := by decide +kernel
theorem dX1_goOn_26 : decode cX1_goOn 26 = .ok (.getfield 29, 3) := by decide +kernel
theorem dX1_goOn_29 : decode cX1_goOn 29 = .ok (.ifCond .ne 20, 3) := by decide +kernel
theorem dX1_goOn_32 : decode cX1_goOn 32 = .ok (.aload_n 0, 1) := by decide +kernel
theorem dX1_goOn_33 : decode cX1_goOn 33 = .ok (.aload_n 1, 1) := by decide +kernel
theorem dX1_goOn_34 : decode cX1_goOn 34 = .ok (.invokevirtual 42, 3) := by decide +kernel
theorem dX1_goOn_37 : decode cX1_goOn 37 = .ok (.aload_n 0, 1) := by decide +kernel
theorem dX1_goOn_38 : decode cX1_goOn 38 = .ok (.aload_n 0, 1) := by decide +kernel
theorem dX1_goOn_39 : decode cX1_goOn 39 = .ok (.getfield 36, 3) := by decide +kernel
theorem dX1_goOn_42 : decode cX1_goOn 42 = .ok (.sipush 128, 3) := by decide +kernel
theorem dX1_goOn_45 : decode cX1_goOn 45 = .ok (.ior, 1) := by decide +kernel
theorem dX1_goOn_46 : decode cX1_goOn 46 = .ok (.invokevirtual 46, 3) := by decide +kernel
theorem dX1_goOn_49 : decode cX1_goOn 49 = .ok (.return_, 1) := by decide +kernel
theorem dX4_locate_0 : decode cX4_locate 0 = .ok (.aload_n 0, 1) := by decide +kernel
theorem dX4_locate_1 : decode cX4_locate 1 = .ok (.getfield 16, 3) := by decide +kernel
theorem dX4_locate_4 : decode cX4_locate 4 = .ok (.iconst 1, 1) := by decide +kernel
theorem dX4_locate_5 : decode cX4_locate 5 = .ok (.iand, 1) := by decide +kernel
theorem dX4_locate_6 : decode cX4_locate 6 = .ok (.ifCond .ne 5, 3) := by decide +kernel
theorem dX4_locate_9 : decode cX4_locate 9 = .ok (.iload_n 2, 1) := by decide +kernel
theorem dX4_locate_10 : decode cX4_locate 10 = .ok (.ireturn, 1) := by decide +kernel
theorem dX4_locate_11 : decode cX4_locate 11 = .ok (.iload_n 2, 1) := by decide +kernel
theorem dX4_locate_12 : decode cX4_locate 12 = .ok (.bipush 13, 2) := by decide +kernel
theorem dX4_locate_14 : decode cX4_locate 14 = .ok (.ishr, 1) := by decide +kernel
theorem dX4_locate_15 : decode cX4_locate 15 = .ok (.bipush 7, 2) := by decide +kernel
theorem dX4_locate_17 : decode cX4_locate 17 = .ok (.iand, 1) := by decide +kernel
theorem dX4_locate_18 : decode cX4_locate 18 = .ok (.istore 4, 2) := by decide +kernel
theorem dX4_locate_20 : decode cX4_locate 20 = .ok (.iload_n 2, 1) := by decide +kernel
theorem dX4_locate_21 : decode cX4_locate 21 = .ok (.sipush 8191, 3) := by decide +kernel
theorem dX4_locate_24 : decode cX4_locate 24 = .ok (.iand, 1) := by decide +kernel
theorem dX4_locate_25 : decode cX4_locate 25 = .ok (.istore 5, 2) := by decide +kernel
theorem dX4_locate_27 : decode cX4_locate 27 = .ok (.bipush 8, 2) := by decide +kernel
theorem dX4_locate_29 : decode cX4_locate 29 = .ok (.iload_n 1, 1) := by decide +kernel
theorem dX4_locate_30 : decode cX4_locate 30 = .ok (.iconst 1, 1) := by decide +kernel
theorem dX4_locate_31 : decode cX4_locate 31 = .ok (.iand, 1) := by decide +kernel
theorem dX4_locate_32 : decode cX4_locate 32 = .ok (.imul, 1) := by decide +kernel
theorem dX4_locate_33 : decode cX4_locate 33 = .ok (.iload 4, 2) := by decide +kernel
theorem dX4_locate_35 : decode cX4_locate 35 = .ok (.iadd, 1) := by decide +kernel
theorem dX4_locate_36 : decode cX4_locate 36 = .ok (.istore 6, 2) := by decide +kernel
theorem dX4_locate_38 : decode cX4_locate 38 = .ok (.aload_n 0, 1) := by decide +kernel
theorem dX4_locate_39 : decode cX4_locate 39 = .ok (.getfield 9, 3) := by decide +kernel
theorem dX4_locate_42 : decode cX4_locate 42 = .ok (.iload 6, 2) := by decide +kernel
theorem dX4_locate_44 : decode cX4_locate 44 = .ok (.iaload, 1) := by decide +kernel
theorem dX4_locate_45 : decode cX4_locate 45 = .ok (.iconst 3, 1) := by decide +kernel
theorem dX4_locate_46 : decode cX4_locate 46 = .ok (.iand, 1) := by decide +kernel
theorem dX4_locate_47 : decode cX4_locate 47 = .ok (.istore 7, 2) := by decide +kernel
theorem dX4_locate_49 : decode cX4_locate 49 = .ok (.iconst 0, 1) := by decide +kernel
theorem dX4_locate_50 : decode cX4_locate 50 = .ok (.istore 8, 2) := by decide +kernel
theorem dX4_locate_52 : decode cX4_locate 52 = .ok (.iload 7, 2) := by decide +kernel
theorem dX4_locate_54 : decode cX4_locate 54 = .ok (.ifCond .eq 9, 3) := by decide +kernel
theorem dX4_locate_57 : decode cX4_locate 57 = .ok (.iload 7, 2) := by decide +kernel
theorem dX4_locate_59 : decode cX4_locate 59 = .ok (.iconst 3, 1) := by decide +kernel
theorem dX4_locate_60 : decode cX4_locate 60 = .ok (.if_icmp .ne 10, 3) := by decide +kernel
theorem dX4_locate_63 : decode cX4_locate 63 = .ok (.ldc 20, 2) := by decide +kernel
theorem dX4_locate_65 : decode cX4_locate 65 = .ok (.istore 8, 2) := by decide +kernel
theorem dX4_locate_67 : decode cX4_locate 67 = .ok (.goto 44, 3) := by decide +kernel
theorem dX4_locate_70 : decode cX4_locate 70 = .ok (.iload 5, 2) := by decide +kernel
theorem dX4_locate_72 : decode cX4_locate 72 = .ok (.bipush 6, 2) := by decide +kernel
theorem dX4_locate_74 : decode cX4_locate 74 = .ok (.ishr, 1) := by decide +kernel
theorem dX4_locate_75 : decode cX4_locate 75 = .ok (.aload_n 0, 1) := by decide +kernel
theorem dX4_locate_76 : decode cX4_locate 76 = .ok (.getfield 9, 3) := by decide +kernel
theorem dX4_locate_79 : decode cX4_locate 79 = .ok (.iload 6, 2) := by decide +kernel
theorem dX4_locate_81 : decode cX4_locate 81 = .ok (.iaload, 1) := by decide +kernel
theorem dX4_locate_82 : decode cX4_locate 82 = .ok (.bipush 8, 2) := by decide +kernel
theorem dX4_locate_84 : decode cX4_locate 84 = .ok (.ishr, 1) := by decide +kernel
theorem dX4_locate_85 : decode cX4_locate 85 = .ok (.if_icmp .le 11, 3) := by decide +kernel
theorem dX4_locate_88 : decode cX4_locate 88 = .ok (.sipush 16384, 3) := by decide +kernel
theorem dX4_locate_91 : decode cX4_locate 91 = .ok (.istore 8, 2) := by decide +kernel
theorem dX4_locate_93 : decode cX4_locate 93 = .ok (.goto 18, 3) := by decide +kernel
theorem dX4_locate_96 : decode cX4_locate 96 = .ok (.iload_n 3, 1) := by decide +kernel
theorem dX4_locate_97 : decode cX4_locate 97 = .ok (.ifCond .eq 14, 3) := by decide +kernel
theorem dX4_locate_100 : decode cX4_locate 100 = .ok (.iload 7, 2) := by decide +kernel
theorem dX4_locate_102 : decode cX4_locate 102 = .ok (.iconst 1, 1) := by decide +kernel
theorem dX4_locate_103 : decode cX4_locate 103 = .ok (.if_icmp .ne 8, 3) := by decide +kernel
theorem dX4_locate_106 : decode cX4_locate 106 = .ok (.sipush 8192, 3) := by decide +kernel
theorem dX4_locate_109 : decode cX4_locate 109 = .ok (.istore 8, 2) := by decide +kernel
theorem dX4_locate_111 : decode cX4_locate 111 = .ok (.iload 8, 2) := by decide +kernel
theorem dX4_locate_113 : decode cX4_locate 113 = .ok (.ifCond .ne 20, 3) := by decide +kernel
theorem dX4_locate_116 : decode cX4_locate 116 = .ok (.bipush 64, 2) := by decide +kernel
theorem dX4_locate_118 : decode cX4_locate 118 = .ok (.aload_n 0, 1) := by decide +kernel
theorem dX4_locate_119 : decode cX4_locate 119 = .ok (.getfield 13, 3) := by decide +kernel
theorem dX4_locate_122 : decode cX4_locate 122 = .ok (.iload 6, 2) := by decide +kernel
theorem dX4_locate_124 : decode cX4_locate 124 = .ok (.iaload, 1) := by decide +kernel
theorem dX4_locate_125 : decode cX4_locate 125 = .ok (.imul, 1) := by decide +kernel
theorem dX4_locate_126 : decode cX4_locate 126 = .ok (.iload 5, 2) := by decide +kernel
theorem dX4_locate_128 : decode cX4_locate 128 = .ok (.iadd, 1) := by decide +kernel
theorem dX4_locate_129 : decode cX4_locate 129 = .ok (.ldc 21, 2) := by decide +kernel
theorem dX4_locate_131 : decode cX4_locate 131 = .ok (.iand, 1) := by decide +kernel
theorem dX4_locate_132 : decode cX4_locate 132 = .ok (.ireturn, 1) := by decide +kernel
theorem dX4_locate_133 : decode cX4_locate 133 = .ok (.aload_n 0, 1) := by decide +kernel
theorem dX4_locate_134 : decode cX4_locate 134 = .ok (.getfield 16, 3) := by decide +kernel
theorem dX4_locate_137 : decode cX4_locate 137 = .ok (.ldc 22, 2) := by decide +kernel
theorem dX4_locate_139 : decode cX4_locate 139 = .ok (.iand, 1) := by decide +kernel
theorem dX4_locate_140 : decode cX4_locate 140 = .ok (.ifCond .ne 25, 3) := by decide +kernel
theorem dX4_locate_143 : decode cX4_locate 143 = .ok (.aload_n 0, 1) := by decide +kernel
theorem dX4_locate_144 : decode cX4_locate 144 = .ok (.aload_n 0, 1) := by decide +kernel
theorem dX4_locate_145 : decode cX4_locate 145 = .ok (.getfield 16, 3) := by decide +kernel
theorem dX4_locate_148 : decode cX4_locate 148 = .ok (.iconst 1, 1) := by decide +kernel
theorem dX4_locate_149 : decode cX4_locate 149 = .ok (.iand, 1) := by decide +kernel
theorem dX4_locate_150 : decode cX4_locate 150 = .ok (.iload 8, 2) := by decide +kernel
theorem dX4_locate_152 : decode cX4_locate 152 = .ok (.ior, 1) := by decide +kernel
theorem dX4_locate_153 : decode cX4_locate 153 = .ok (.iload 4, 2) := by decide +kernel
theorem dX4_locate_155 : decode cX4_locate 155 = .ok (.iconst 1, 1) := by decide +kernel
theorem dX4_locate_156 : decode cX4_locate 156 = .ok (.ishl, 1) := by decide +kernel
theorem dX4_locate_157 : decode cX4_locate 157 = .ok (.ior, 1) := by decide +kernel
theorem dX4_locate_158 : decode cX4_locate 158 = .ok (.iload_n 1, 1) := by decide +kernel
theorem dX4_locate_159 : decode cX4_locate 159 = .ok (.iconst 4, 1) := by decide +kernel
theorem dX4_locate_160 : decode cX4_locate 160 = .ok (.ishl, 1) := by decide +kernel
theorem dX4_locate_161 : decode cX4_locate 161 = .ok (.ior, 1) := by decide +kernel
theorem dX4_locate_162 : decode cX4_locate 162 = .ok (.putfield 16, 3) := by decide +kernel
theorem dX4_locate_165 : decode cX4_locate 165 = .ok (.iconst (-1), 1) := by decide +kernel
theorem dX4_locate_166 : decode cX4_locate 166 = .ok (.ireturn, 1) := by decide +kernel
theorem dX5_goOn_0 : decode cX5_goOn 0 = .ok (.aload_n 0, 1) := by decide +kernel
theorem dX5_goOn_1 : decode cX5_goOn 1 = .ok (.getfield 20, 3) := by decide +kernel
theorem dX5_goOn_4 : decode cX5_goOn 4 = .ok (.ifCond .eq 10, 3) := by decide +kernel
theorem dX5_goOn_7 : decode cX5_goOn 7 = .ok (.aload_n 0, 1) := by decide +kernel
theorem dX5_goOn_8 : decode cX5_goOn 8 = .ok (.getfield 23, 3) := by decide +kernel
theorem dX5_goOn_11 : decode cX5_goOn 11 = .ok (.ifCond .eq 4, 3) := by decide +kernel
theorem dX5_goOn_14 : decode cX5_goOn 14 = .ok (.return_, 1) := by decide +kernel
theorem dX5_goOn_15 : decode cX5_goOn 15 = .ok (.aload_n 0, 1) := by decide +kernel
theorem dX5_goOn_16 : decode cX5_goOn 16 = .ok (.dup, 1) := by decide +kernel
theorem dX5_goOn_17 : decode cX5_goOn 17 = .ok (.getfield 20, 3) := by decide +kernel
theorem dX5_goOn_20 : decode cX5_goOn 20 = .ok (.iconst 1, 1) := by decide +kernel
theorem dX5_goOn_21 : decode cX5_goOn 21 = .ok (.isub, 1) := by decide +kernel
theorem dX5_goOn_22 : decode cX5_goOn 22 = .ok (.putfield 20, 3) := by decide +kernel
theorem dX5_goOn_25 : decode cX5_goOn 25 = .ok (.aload_n 0, 1) := by decide +kernel
theorem dX5_goOn_26 : decode cX5_goOn 26 = .ok (.getfield 20, 3) := by decide +kernel
theorem dX5_goOn_29 : decode cX5_goOn 29 = .ok (.ifCond .ne 41, 3) := by decide +kernel
theorem dX5_goOn_32 : decode cX5_goOn 32 = .ok (.aload_n 0, 1) := by decide +kernel
theorem dX5_goOn_33 : decode cX5_goOn 33 = .ok (.getfield 9, 3) := by decide +kernel
theorem dX5_goOn_36 : decode cX5_goOn 36 = .ok (.aload_n 0, 1) := by decide +kernel
theorem dX5_goOn_37 : decode cX5_goOn 37 = .ok (.getfield 13, 3) := by decide +kernel
theorem dX5_goOn_40 : decode cX5_goOn 40 = .ok (.bipush 32, 2) := by decide +kernel
theorem dX5_goOn_42 : decode cX5_goOn 42 = .ok (.irem, 1) := by decide +kernel
theorem dX5_goOn_43 : decode cX5_goOn 43 = .ok (.aload_n 0, 1) := by decide +kernel
theorem dX5_goOn_44 : decode cX5_goOn 44 = .ok (.getfield 17, 3) := by decide +kernel
theorem dX5_goOn_47 : decode cX5_goOn 47 = .ok (.iastore, 1) := by decide +kernel
theorem dX5_goOn_48 : decode cX5_goOn 48 = .ok (.aload_n 0, 1) := by decide +kernel
theorem dX5_goOn_49 : decode cX5_goOn 49 = .ok (.dup, 1) := by decide +kernel
theorem dX5_goOn_50 : decode cX5_goOn 50 = .ok (.getfield 13, 3) := by decide +kernel
theorem dX5_goOn_53 : decode cX5_goOn 53 = .ok (.iconst 1, 1) := by decide +kernel
theorem dX5_goOn_54 : decode cX5_goOn 54 = .ok (.iadd, 1) := by decide +kernel
theorem dX5_goOn_55 : decode cX5_goOn 55 = .ok (.putfield 13, 3) := by decide +kernel
theorem dX5_goOn_58 : decode cX5_goOn 58 = .ok (.aload_n 0, 1) := by decide +kernel
theorem dX5_goOn_59 : decode cX5_goOn 59 = .ok (.aload_n 0, 1) := by decide +kernel
theorem dX5_goOn_60 : decode cX5_goOn 60 = .ok (.getfield 27, 3) := by decide +kernel
theorem dX5_goOn_63 : decode cX5_goOn 63 = .ok (.sipush 128, 3) := by decide +kernel
theorem dX5_goOn_66 : decode cX5_goOn 66 = .ok (.ior, 1) := by decide +kernel
theorem dX5_goOn_67 : decode cX5_goOn 67 = .ok (.invokevirtual 33, 3) := by decide +kernel
theorem dX5_goOn_70 : decode cX5_goOn 70 = .ok (.return_, 1) := by decide +kernel
theorem dX6_mode_0 : decode cX6_mode 0 = .ok (.aload_n 0, 1) := by decide +kernel
theorem dX6_mode_1 : decode cX6_mode 1 = .ok (.getfield 43, 3) := by decide +kernel
theorem dX6_mode_4 : decode cX6_mode 4 = .ok (.getfield 44, 3) := by decide +kernel
theorem dX6_mode_7 : decode cX6_mode 7 = .ok (.bipush 14, 2) := by decide +kernel
theorem dX6_mode_9 : decode cX6_mode 9 = .ok (.ishr, 1) := by decide +kernel
theorem dX6_mode_10 : decode cX6_mode 10 = .ok (.iconst 1, 1) := by decide +kernel
theorem dX6_mode_11 : decode cX6_mode 11 = .ok (.iand, 1) := by decide +kernel
theorem dX6_mode_12 : decode cX6_mode 12 = .ok (.ireturn, 1) := by decide +kernel
theorem dX6_takeStatus_0 : decode cX6_takeStatus 0 = .ok (.iload_n 1, 1) := by decide +kernel
theorem dX6_takeStatus_1 : decode cX6_takeStatus 1 = .ok (.aload_n 0, 1) := by decide +kernel
theorem dX6_takeStatus_2 : decode cX6_takeStatus 2 = .ok (.getfield 43, 3) := by decide +kernel
theorem dX6_takeStatus_5 : decode cX6_takeStatus 5 = .ok (.getfield 44, 3) := by decide +kernel
theorem dX6_takeStatus_8 : decode cX6_takeStatus 8 = .ok (.ixor, 1) := by decide +kernel
theorem dX6_takeStatus_9 : decode cX6_takeStatus 9 = .ok (.sipush 16384, 3) := by decide +kernel
theorem dX6_takeStatus_12 : decode cX6_takeStatus 12 = .ok (.iand, 1) := by decide +kernel
theorem dX6_takeStatus_13 : decode cX6_takeStatus 13 = .ok (.ifCond .eq 27, 3) := by decide +kernel
theorem dX6_takeStatus_16 : decode cX6_takeStatus 16 = .ok (.aload_n 0, 1) := by decide +kernel
theorem dX6_takeStatus_17 : decode cX6_takeStatus 17 = .ok (.getfield 7, 3) := by decide +kernel
theorem dX6_takeStatus_20 : decode cX6_takeStatus 20 = .ok (.bipush 6, 2) := by decide +kernel
theorem dX6_takeStatus_22 : decode cX6_takeStatus 22 = .ok (.iaload, 1) := by decide +kernel
theorem dX6_takeStatus_23 : decode cX6_takeStatus 23 = .ok (.istore_n 2, 1) := by decide +kernel
theorem dX6_takeStatus_24 : decode cX6_takeStatus 24 = .ok (.aload_n 0, 1) := by decide +kernel
theorem dX6_takeStatus_25 : decode cX6_takeStatus 25 = .ok (.getfield 7, 3) := by decide +kernel
theorem dX6_takeStatus_28 : decode cX6_takeStatus 28 = .ok (.bipush 6, 2) := by decide +kernel
theorem dX6_takeStatus_30 : decode cX6_takeStatus 30 = .ok (.aload_n 0, 1) := by decide +kernel
theorem dX6_takeStatus_31 : decode cX6_takeStatus 31 = .ok (.getfield 13, 3) := by decide +kernel
theorem dX6_takeStatus_34 : decode cX6_takeStatus 34 = .ok (.iastore, 1) := by decide +kernel
theorem dX6_takeStatus_35 : decode cX6_takeStatus 35 = .ok (.aload_n 0, 1) := by decide +kernel
theorem dX6_takeStatus_36 : decode cX6_takeStatus 36 = .ok (.iload_n 2, 1) := by decide +kernel
theorem dX6_takeStatus_37 : decode cX6_takeStatus 37 = .ok (.putfield 13, 3) := by decide +kernel
theorem dX6_takeStatus_40 : decode cX6_takeStatus 40 = .ok (.aload_n 0, 1) := by decide +kernel
theorem dX6_takeStatus_41 : decode cX6_takeStatus 41 = .ok (.getfield 43, 3) := by decide +kernel
theorem dX6_takeStatus_44 : decode cX6_takeStatus 44 = .ok (.iload_n 1, 1) := by decide +kernel
theorem dX6_takeStatus_45 : decode cX6_takeStatus 45 = .ok (.putfield 44, 3) := by decide +kernel
theorem dX6_takeStatus_48 : decode cX6_takeStatus 48 = .ok (.return_, 1) := by decide +kernel
set_option maxRecDepth 20000 in
theorem ggX6_perform_X0_nextInstruction : GoodIn wsX6_perform wsX0_nextInstruction := goodIn_r _ [11, 12, 13, 14, 15, 164, 165, 166, 167, 168, 169, 170, 171, 172, 173, 174, 175, 176, 177, 178, 179, 180, 181, 182, 183, 184, 185, 186] (by decide +kernel) (by decide +kernel)
set_option maxRecDepth 20000 in
theorem gX6_perform_X0_nextInstruction : GoodIn wsX6_perform (wsV RX6 49 RX0 yX0_nextInstruction wsX0_nextInstruction) := goodIn_app (goodIn_of _ (by decide +kernel)) ggX6_perform_X0_nextInstruction
set_option maxRecDepth 20000 in
theorem ggX6_perform_X6_mode : GoodIn wsX6_perform wsX6_mode := goodIn_r _ [20, 21, 22, 155, 156, 157, 158, 159, 160, 161, 162, 163, 187, 188] (by decide +kernel) (by decide +kernel)
set_option maxRecDepth 20000 in
theorem gX6_perform_X6_mode : GoodIn wsX6_perform (wsV RX6 52 RX6 yX6_mode wsX6_mode) := goodIn_app (goodIn_of _ (by decide +kernel)) ggX6_perform_X6_mode
set_option maxRecDepth 20000 in
theorem ggX6_perform_X6_readWord : GoodIn wsX6_perform wsX6_readWord := goodIn_ca (goodIn_r _ [26, 2, 27, 28, 29, 19, 30, 1, 31, 6, 32, 33, 34, 35, 36, 37, 38, 39, 40, 41, 42, 43, 44, 45, 46, 47, 48, 49, 50, 10, 51, 52, 53, 54, 55, 56, 57, 58, 59, 60, 61, 62, 63, 64, 65, 66, 67, 68, 12, 69, 70, 14, 71, 72, 73, 74, 75, 76, 77, 78, 79, 80, 81, 82, 83, 84, 85, 86, 87, 155, 156, 157, 158, 159, 160, 161, 162, 163, 164, 165, 166, 167, 168, 169, 189, 190, 191, 177, 178, 179, 180, 181, 182, 183, 184, 185, 186, 192, 193, 194, 170, 171, 172, 173, 174, 175, 176, 187, 188] (by decide +kernel) (by decide +kernel)) (goodIn_sub (fun _ h => List.mem_cons_of_mem _ (List.mem_append_right _ h)) (by decide +kernel))
set_option maxRecDepth 20000 in
theorem gX6_perform_X6_readWord : GoodIn wsX6_perform (wsV RX6 56 RX6 yX6_readWord wsX6_readWord) := goodIn_app (goodIn_of _ (by decide +kernel)) ggX6_perform_X6_readWord
set_option maxRecDepth 20000 in
theorem ggX6_perform_X6_enter : GoodIn wsX6_perform wsX6_enter := goodIn_ca (goodIn_r _ [145, 1, 141, 146, 147, 148, 19, 149, 21, 22, 4, 23, 24, 25, 26, 2, 27, 28, 29, 30, 31, 6, 32, 33, 34, 35, 36, 37, 38, 39, 40, 41, 42, 43, 44, 45, 46, 47, 48, 49, 50, 10, 51, 52, 53, 54, 55, 56, 57, 58, 59, 60, 61, 62, 63, 64, 65, 66, 67, 68, 12, 69, 70, 14, 71, 72, 73, 74, 75, 76, 77, 78, 79, 80, 81, 82, 83, 84, 85, 86, 87, 16, 17, 18, 20, 136, 137, 138, 139, 140, 132, 133, 134, 135, 88, 89, 90, 91, 5, 126, 127, 128, 129, 92, 93, 94, 95, 96, 97, 98, 99, 100, 101, 102, 103, 104, 105, 106, 107, 108, 109, 110, 111, 112, 113, 114, 115, 116, 117, 118, 119, 120, 121, 122, 123, 124, 125, 150, 151, 152, 153, 154, 130, 131, 155, 156, 157, 158, 159, 160, 161, 162, 163, 187, 188, 164, 165, 166, 167, 168, 169, 189, 190, 191, 177, 178, 179, 180, 181, 182, 183, 184, 185, 186, 192, 193, 194, 170, 171, 172, 173, 174, 175, 176] (by decide +kernel) (by decide +kernel)) (goodIn_sub (fun _ h => List.mem_cons_of_mem _ (List.mem_append_right _ h)) (by decide +kernel))
set_option maxRecDepth 20000 in
theorem gX6_perform_X6_enter : GoodIn wsX6_perform (wsV RX6 67 RX6 yX6_enter wsX6_enter) := goodIn_app (goodIn_of _ (by decide +kernel)) ggX6_perform_X6_enter
theorem dX6_perform_0 : decode cX6_perform 0 = .ok (.aload_n 0, 1) := by decide +kernel
theorem dX6_perform_1 : decode cX6_perform 1 = .ok (.getfield 33, 3) := by decide +kernel
theorem dX6_perform_4 : decode cX6_perform 4 = .ok (.invokevirtual 49, 3) := by decide +kernel
theorem dX6_perform_7 : decode cX6_perform 7 = .ok (.aload_n 0, 1) := by decide +kernel
theorem dX6_perform_8 : decode cX6_perform 8 = .ok (.getfield 20, 3) := by decide +kernel
theorem dX6_perform_11 : decode cX6_perform 11 = .ok (.ifCond .eq 4, 3) := by decide +kernel
theorem dX6_perform_14 : decode cX6_perform 14 = .ok (.return_, 1) := by decide +kernel
theorem dX6_perform_15 : decode cX6_perform 15 = .ok (.iconst 0, 1) := by decide +kernel
theorem dX6_perform_16 : decode cX6_perform 16 = .ok (.istore_n 1, 1) := by decide +kernel
theorem dX6_perform_17 : decode cX6_perform 17 = .ok (.aload_n 0, 1) := by decide +kernel
theorem dX6_perform_18 : decode cX6_perform 18 = .ok (.aload_n 0, 1) := by decide +kernel
theorem dX6_perform_19 : decode cX6_perform 19 = .ok (.invokevirtual 52, 3) := by decide +kernel
theorem dX6_perform_22 : decode cX6_perform 22 = .ok (.aload_n 0, 1) := by decide +kernel
theorem dX6_perform_23 : decode cX6_perform 23 = .ok (.getfield 7, 3) := by decide +kernel
theorem dX6_perform_26 : decode cX6_perform 26 = .ok (.bipush 7, 2) := by decide +kernel
theorem dX6_perform_28 : decode cX6_perform 28 = .ok (.iaload, 1) := by decide +kernel
theorem dX6_perform_29 : decode cX6_perform 29 = .ok (.invokevirtual 56, 3) := by decide +kernel
theorem dX6_perform_32 : decode cX6_perform 32 = .ok (.istore_n 2, 1) := by decide +kernel
theorem dX6_perform_33 : decode cX6_perform 33 = .ok (.aload_n 0, 1) := by decide +kernel
theorem dX6_perform_34 : decode cX6_perform 34 = .ok (.getfield 7, 3) := by decide +kernel
theorem dX6_perform_37 : decode cX6_perform 37 = .ok (.bipush 7, 2) := by decide +kernel
theorem dX6_perform_39 : decode cX6_perform 39 = .ok (.aload_n 0, 1) := by decide +kernel
theorem dX6_perform_40 : decode cX6_perform 40 = .ok (.getfield 7, 3) := by decide +kernel
theorem dX6_perform_43 : decode cX6_perform 43 = .ok (.bipush 7, 2) := by decide +kernel
theorem dX6_perform_45 : decode cX6_perform 45 = .ok (.iaload, 1) := by decide +kernel
theorem dX6_perform_46 : decode cX6_perform 46 = .ok (.iconst 2, 1) := by decide +kernel
theorem dX6_perform_47 : decode cX6_perform 47 = .ok (.iadd, 1) := by decide +kernel
theorem dX6_perform_48 : decode cX6_perform 48 = .ok (.ldc 60, 2) := by decide +kernel
theorem dX6_perform_50 : decode cX6_perform 50 = .ok (.iand, 1) := by decide +kernel
theorem dX6_perform_51 : decode cX6_perform 51 = .ok (.iastore, 1) := by decide +kernel
theorem dX6_perform_52 : decode cX6_perform 52 = .ok (.aload_n 0, 1) := by decide +kernel
theorem dX6_perform_53 : decode cX6_perform 53 = .ok (.iload_n 2, 1) := by decide +kernel
theorem dX6_perform_54 : decode cX6_perform 54 = .ok (.invokevirtual 61, 3) := by decide +kernel
theorem dX6_perform_57 : decode cX6_perform 57 = .ok (.goto 6, 3) := by decide +kernel
theorem dX6_perform_60 : decode cX6_perform 60 = .ok (.astore_n 2, 1) := by decide +kernel
theorem dX6_perform_61 : decode cX6_perform 61 = .ok (.iconst 1, 1) := by decide +kernel
theorem dX6_perform_62 : decode cX6_perform 62 = .ok (.istore_n 1, 1) := by decide +kernel
theorem dX6_perform_63 : decode cX6_perform 63 = .ok (.iload_n 1, 1) := by decide +kernel
theorem dX6_perform_64 : decode cX6_perform 64 = .ok (.ifCond .eq 14, 3) := by decide +kernel
theorem dX6_perform_67 : decode cX6_perform 67 = .ok (.aload_n 0, 1) := by decide +kernel
theorem dX6_perform_68 : decode cX6_perform 68 = .ok (.aload_n 0, 1) := by decide +kernel
theorem dX6_perform_69 : decode cX6_perform 69 = .ok (.getfield 24, 3) := by decide +kernel
theorem dX6_perform_72 : decode cX6_perform 72 = .ok (.invokevirtual 67, 3) := by decide +kernel
theorem dX6_perform_75 : decode cX6_perform 75 = .ok (.goto 7, 3) := by decide +kernel
theorem dX6_perform_78 : decode cX6_perform 78 = .ok (.aload_n 0, 1) := by decide +kernel
theorem dX6_perform_79 : decode cX6_perform 79 = .ok (.invokevirtual 70, 3) := by decide +kernel
theorem dX6_perform_82 : decode cX6_perform 82 = .ok (.return_, 1) := by decide +kernel
set_option maxRecDepth 20000 in
theorem ggX6_settle_X6_takeStatus : GoodIn wsX6_settle wsX6_takeStatus := goodIn_r _ [10, 1, 3, 11, 12, 13, 14, 15, 16, 17, 18, 19, 20, 21, 22, 23] (by decide +kernel) (by decide +kernel)
set_option maxRecDepth 20000 in
theorem gX6_settle_X6_takeStatus : GoodIn wsX6_settle (wsV RX6 76 RX6 yX6_takeStatus wsX6_takeStatus) := goodIn_app (goodIn_of _ (by decide +kernel)) ggX6_settle_X6_takeStatus
theorem dX6_settle_0 : decode cX6_settle 0 = .ok (.aload_n 0, 1) := by decide +kernel
theorem dX6_settle_1 : decode cX6_settle 1 = .ok (.getfield 43, 3) := by decide +kernel
theorem dX6_settle_4 : decode cX6_settle 4 = .ok (.getfield 73, 3) := by decide +kernel
theorem dX6_settle_7 : decode cX6_settle 7 = .ok (.iconst (-1), 1) := by decide +kernel
theorem dX6_settle_8 : decode cX6_settle 8 = .ok (.if_icmp .ne 13, 3) := by decide +kernel
theorem dX6_settle_11 : decode cX6_settle 11 = .ok (.aload_n 0, 1) := by decide +kernel
theorem dX6_settle_12 : decode cX6_settle 12 = .ok (.getfield 43, 3) := by decide +kernel
theorem dX6_settle_15 : decode cX6_settle 15 = .ok (.getfield 44, 3) := by decide +kernel
theorem dX6_settle_18 : decode cX6_settle 18 = .ok (.goto 10, 3) := by decide +kernel
theorem dX6_settle_21 : decode cX6_settle 21 = .ok (.aload_n 0, 1) := by decide +kernel
theorem dX6_settle_22 : decode cX6_settle 22 = .ok (.getfield 43, 3) := by decide +kernel
theorem dX6_settle_25 : decode cX6_settle 25 = .ok (.getfield 73, 3) := by decide +kernel
theorem dX6_settle_28 : decode cX6_settle 28 = .ok (.istore_n 1, 1) := by decide +kernel
theorem dX6_settle_29 : decode cX6_settle 29 = .ok (.aload_n 0, 1) := by decide +kernel
theorem dX6_settle_30 : decode cX6_settle 30 = .ok (.getfield 27, 3) := by decide +kernel
theorem dX6_settle_33 : decode cX6_settle 33 = .ok (.ifCond .eq 36, 3) := by decide +kernel
theorem dX6_settle_36 : decode cX6_settle 36 = .ok (.iload_n 1, 1) := by decide +kernel
theorem dX6_settle_37 : decode cX6_settle 37 = .ok (.bipush (-16), 2) := by decide +kernel
theorem dX6_settle_39 : decode cX6_settle 39 = .ok (.iand, 1) := by decide +kernel
theorem dX6_settle_40 : decode cX6_settle 40 = .ok (.aload_n 0, 1) := by decide +kernel
theorem dX6_settle_41 : decode cX6_settle 41 = .ok (.getfield 43, 3) := by decide +kernel
theorem dX6_settle_44 : decode cX6_settle 44 = .ok (.getfield 44, 3) := by decide +kernel
theorem dX6_settle_47 : decode cX6_settle 47 = .ok (.bipush 15, 2) := by decide +kernel
theorem dX6_settle_49 : decode cX6_settle 49 = .ok (.iand, 1) := by decide +kernel
theorem dX6_settle_50 : decode cX6_settle 50 = .ok (.aload_n 0, 1) := by decide +kernel
theorem dX6_settle_51 : decode cX6_settle 51 = .ok (.getfield 27, 3) := by decide +kernel
theorem dX6_settle_54 : decode cX6_settle 54 = .ok (.iconst (-1), 1) := by decide +kernel
theorem dX6_settle_55 : decode cX6_settle 55 = .ok (.ixor, 1) := by decide +kernel
theorem dX6_settle_56 : decode cX6_settle 56 = .ok (.iand, 1) := by decide +kernel
theorem dX6_settle_57 : decode cX6_settle 57 = .ok (.ior, 1) := by decide +kernel
theorem dX6_settle_58 : decode cX6_settle 58 = .ok (.aload_n 0, 1) := by decide +kernel
theorem dX6_settle_59 : decode cX6_settle 59 = .ok (.getfield 30, 3) := by decide +kernel
theorem dX6_settle_62 : decode cX6_settle 62 = .ok (.aload_n 0, 1) := by decide +kernel
theorem dX6_settle_63 : decode cX6_settle 63 = .ok (.getfield 27, 3) := by decide +kernel
theorem dX6_settle_66 : decode cX6_settle 66 = .ok (.iand, 1) := by decide +kernel
theorem dX6_settle_67 : decode cX6_settle 67 = .ok (.ior, 1) := by decide +kernel
theorem dX6_settle_68 : decode cX6_settle 68 = .ok (.istore_n 1, 1) := by decide +kernel
theorem dX6_settle_69 : decode cX6_settle 69 = .ok (.aload_n 0, 1) := by decide +kernel
theorem dX6_settle_70 : decode cX6_settle 70 = .ok (.iconst 0, 1) := by decide +kernel
theorem dX6_settle_71 : decode cX6_settle 71 = .ok (.putfield 27, 3) := by decide +kernel
theorem dX6_settle_74 : decode cX6_settle 74 = .ok (.aload_n 0, 1) := by decide +kernel
theorem dX6_settle_75 : decode cX6_settle 75 = .ok (.getfield 43, 3) := by decide +kernel
theorem dX6_settle_78 : decode cX6_settle 78 = .ok (.iconst (-1), 1) := by decide +kernel
theorem dX6_settle_79 : decode cX6_settle 79 = .ok (.putfield 73, 3) := by decide +kernel
theorem dX6_settle_82 : decode cX6_settle 82 = .ok (.aload_n 0, 1) := by decide +kernel
theorem dX6_settle_83 : decode cX6_settle 83 = .ok (.iload_n 1, 1) := by decide +kernel
theorem dX6_settle_84 : decode cX6_settle 84 = .ok (.invokevirtual 76, 3) := by decide +kernel
theorem dX6_settle_87 : decode cX6_settle 87 = .ok (.return_, 1) := by decide +kernel
theorem dX6_lookForInterrupt_0 : decode cX6_lookForInterrupt 0 = .ok (.aload_n 0, 1) := by decide +kernel
theorem dX6_lookForInterrupt_1 : decode cX6_lookForInterrupt 1 = .ok (.getfield 43, 3) := by decide +kernel
theorem dX6_lookForInterrupt_4 : decode cX6_lookForInterrupt 4 = .ok (.getfield 44, 3) := by decide +kernel
theorem dX6_lookForInterrupt_7 : decode cX6_lookForInterrupt 7 = .ok (.iconst 5, 1) := by decide +kernel
theorem dX6_lookForInterrupt_8 : decode cX6_lookForInterrupt 8 = .ok (.ishr, 1) := by decide +kernel
theorem dX6_lookForInterrupt_9 : decode cX6_lookForInterrupt 9 = .ok (.bipush 7, 2) := by decide +kernel
theorem dX6_lookForInterrupt_11 : decode cX6_lookForInterrupt 11 = .ok (.iand, 1) := by decide +kernel
theorem dX6_lookForInterrupt_12 : decode cX6_lookForInterrupt 12 = .ok (.istore_n 1, 1) := by decide +kernel
theorem dX6_lookForInterrupt_13 : decode cX6_lookForInterrupt 13 = .ok (.aload_n 0, 1) := by decide +kernel
theorem dX6_lookForInterrupt_14 : decode cX6_lookForInterrupt 14 = .ok (.getfield 33, 3) := by decide +kernel
theorem dX6_lookForInterrupt_17 : decode cX6_lookForInterrupt 17 = .ok (.getfield 79, 3) := by decide +kernel
theorem dX6_lookForInterrupt_20 : decode cX6_lookForInterrupt 20 = .ok (.getfield 83, 3) := by decide +kernel
theorem dX6_lookForInterrupt_23 : decode cX6_lookForInterrupt 23 = .ok (.ifCond .eq 23, 3) := by decide +kernel
theorem dX6_lookForInterrupt_26 : decode cX6_lookForInterrupt 26 = .ok (.iload_n 1, 1) := by decide +kernel
theorem dX6_lookForInterrupt_27 : decode cX6_lookForInterrupt 27 = .ok (.iconst 5, 1) := by decide +kernel
theorem dX6_lookForInterrupt_28 : decode cX6_lookForInterrupt 28 = .ok (.if_icmp .ge 18, 3) := by decide +kernel
theorem dX6_lookForInterrupt_31 : decode cX6_lookForInterrupt 31 = .ok (.aload_n 0, 1) := by decide +kernel
theorem dX6_lookForInterrupt_32 : decode cX6_lookForInterrupt 32 = .ok (.getfield 33, 3) := by decide +kernel
theorem dX6_lookForInterrupt_35 : decode cX6_lookForInterrupt 35 = .ok (.getfield 79, 3) := by decide +kernel
theorem dX6_lookForInterrupt_38 : decode cX6_lookForInterrupt 38 = .ok (.astore_n 2, 1) := by decide +kernel
theorem dX6_lookForInterrupt_39 : decode cX6_lookForInterrupt 39 = .ok (.sipush 144, 3) := by decide +kernel
theorem dX6_lookForInterrupt_42 : decode cX6_lookForInterrupt 42 = .ok (.istore_n 3, 1) := by decide +kernel
theorem dX6_lookForInterrupt_43 : decode cX6_lookForInterrupt 43 = .ok (.goto 68, 3) := by decide +kernel
theorem dX6_lookForInterrupt_46 : decode cX6_lookForInterrupt 46 = .ok (.aload_n 0, 1) := by decide +kernel
theorem dX6_lookForInterrupt_47 : decode cX6_lookForInterrupt 47 = .ok (.getfield 33, 3) := by decide +kernel
theorem dX6_lookForInterrupt_50 : decode cX6_lookForInterrupt 50 = .ok (.getfield 88, 3) := by decide +kernel
theorem dX6_lookForInterrupt_53 : decode cX6_lookForInterrupt 53 = .ok (.getfield 92, 3) := by decide +kernel
theorem dX6_lookForInterrupt_56 : decode cX6_lookForInterrupt 56 = .ok (.ifCond .eq 22, 3) := by decide +kernel
theorem dX6_lookForInterrupt_59 : decode cX6_lookForInterrupt 59 = .ok (.iload_n 1, 1) := by decide +kernel
theorem dX6_lookForInterrupt_60 : decode cX6_lookForInterrupt 60 = .ok (.iconst 4, 1) := by decide +kernel
theorem dX6_lookForInterrupt_61 : decode cX6_lookForInterrupt 61 = .ok (.if_icmp .ge 17, 3) := by decide +kernel
theorem dX6_lookForInterrupt_64 : decode cX6_lookForInterrupt 64 = .ok (.aload_n 0, 1) := by decide +kernel
theorem dX6_lookForInterrupt_65 : decode cX6_lookForInterrupt 65 = .ok (.getfield 33, 3) := by decide +kernel
theorem dX6_lookForInterrupt_68 : decode cX6_lookForInterrupt 68 = .ok (.getfield 88, 3) := by decide +kernel
theorem dX6_lookForInterrupt_71 : decode cX6_lookForInterrupt 71 = .ok (.astore_n 2, 1) := by decide +kernel
theorem dX6_lookForInterrupt_72 : decode cX6_lookForInterrupt 72 = .ok (.bipush 48, 2) := by decide +kernel
theorem dX6_lookForInterrupt_74 : decode cX6_lookForInterrupt 74 = .ok (.istore_n 3, 1) := by decide +kernel
theorem dX6_lookForInterrupt_75 : decode cX6_lookForInterrupt 75 = .ok (.goto 36, 3) := by decide +kernel
theorem dX6_lookForInterrupt_78 : decode cX6_lookForInterrupt 78 = .ok (.aload_n 0, 1) := by decide +kernel
theorem dX6_lookForInterrupt_79 : decode cX6_lookForInterrupt 79 = .ok (.getfield 33, 3) := by decide +kernel
theorem dX6_lookForInterrupt_82 : decode cX6_lookForInterrupt 82 = .ok (.getfield 95, 3) := by decide +kernel
theorem dX6_lookForInterrupt_85 : decode cX6_lookForInterrupt 85 = .ok (.getfield 99, 3) := by decide +kernel
theorem dX6_lookForInterrupt_88 : decode cX6_lookForInterrupt 88 = .ok (.ifCond .eq 22, 3) := by decide +kernel
theorem dX6_lookForInterrupt_91 : decode cX6_lookForInterrupt 91 = .ok (.iload_n 1, 1) := by decide +kernel
theorem dX6_lookForInterrupt_92 : decode cX6_lookForInterrupt 92 = .ok (.iconst 4, 1) := by decide +kernel
theorem dX6_lookForInterrupt_93 : decode cX6_lookForInterrupt 93 = .ok (.if_icmp .ge 17, 3) := by decide +kernel
theorem dX6_lookForInterrupt_96 : decode cX6_lookForInterrupt 96 = .ok (.aload_n 0, 1) := by decide +kernel
theorem dX6_lookForInterrupt_97 : decode cX6_lookForInterrupt 97 = .ok (.getfield 33, 3) := by decide +kernel
theorem dX6_lookForInterrupt_100 : decode cX6_lookForInterrupt 100 = .ok (.getfield 95, 3) := by decide +kernel
theorem dX6_lookForInterrupt_103 : decode cX6_lookForInterrupt 103 = .ok (.astore_n 2, 1) := by decide +kernel
theorem dX6_lookForInterrupt_104 : decode cX6_lookForInterrupt 104 = .ok (.bipush 52, 2) := by decide +kernel
theorem dX6_lookForInterrupt_106 : decode cX6_lookForInterrupt 106 = .ok (.istore_n 3, 1) := by decide +kernel
theorem dX6_lookForInterrupt_107 : decode cX6_lookForInterrupt 107 = .ok (.goto 4, 3) := by decide +kernel
theorem dX6_lookForInterrupt_110 : decode cX6_lookForInterrupt 110 = .ok (.return_, 1) := by decide +kernel
theorem dX6_lookForInterrupt_111 : decode cX6_lookForInterrupt 111 = .ok (.aload_n 2, 1) := by decide +kernel
theorem dX6_lookForInterrupt_112 : decode cX6_lookForInterrupt 112 = .ok (.iconst 0, 1) := by decide +kernel
theorem dX6_lookForInterrupt_113 : decode cX6_lookForInterrupt 113 = .ok (.putfield 102, 3) := by decide +kernel
theorem dX6_lookForInterrupt_116 : decode cX6_lookForInterrupt 116 = .ok (.aload_n 0, 1) := by decide +kernel
theorem dX6_lookForInterrupt_117 : decode cX6_lookForInterrupt 117 = .ok (.iconst 0, 1) := by decide +kernel
theorem dX6_lookForInterrupt_118 : decode cX6_lookForInterrupt 118 = .ok (.putfield 20, 3) := by decide +kernel
theorem dX6_lookForInterrupt_121 : decode cX6_lookForInterrupt 121 = .ok (.aload_n 0, 1) := by decide +kernel
theorem dX6_lookForInterrupt_122 : decode cX6_lookForInterrupt 122 = .ok (.iload_n 3, 1) := by decide +kernel
theorem dX6_lookForInterrupt_123 : decode cX6_lookForInterrupt 123 = .ok (.invokevirtual 67, 3) := by decide +kernel
theorem dX6_lookForInterrupt_126 : decode cX6_lookForInterrupt 126 = .ok (.return_, 1) := by decide +kernel
set_option maxRecDepth 20000 in
theorem ggX6_enter_X6_trap : GoodIn wsX6_enter wsX6_trap := goodIn_ca (goodIn_r _ [7, 8, 9, 10, 11, 12, 13, 6, 14, 15, 16, 17, 18, 19, 1, 20, 21, 22, 23, 24, 25, 26, 27, 28, 29, 30, 31, 32, 33, 34, 35, 36, 37, 38, 39, 40, 41, 42, 43, 44, 45, 46, 47, 48, 49, 50, 51, 52, 53, 54, 55, 56, 57, 58, 59, 60, 61, 62, 63, 64, 65, 66, 67, 68, 69, 70, 71, 72, 73, 74, 75, 76, 77, 78, 79, 80, 81, 82, 83, 84, 85, 86, 87, 88, 89, 90, 91, 92, 93, 94, 95, 96, 97, 98, 99, 100, 101, 102, 103, 104, 105, 106, 107, 108, 109, 110, 111, 112, 113, 114, 115, 116, 117, 118, 119, 120, 121, 122, 123, 124, 125, 126, 127, 128, 129, 130, 131, 132, 133, 134, 135, 136, 144, 145, 146, 147, 148, 149, 150, 151, 152, 153, 154, 155, 156, 157, 158, 159, 160, 161, 162, 163, 164, 165, 166, 167, 168, 169, 170, 171, 172, 173, 174, 175, 176, 177, 178, 179, 180, 181, 182, 183] (by decide +kernel) (by decide +kernel)) (goodIn_sub (fun _ h => List.mem_cons_of_mem _ (List.mem_append_right _ h)) (by decide +kernel))
set_option maxRecDepth 20000 in
theorem gX6_enter_X6_trap : GoodIn wsX6_enter (wsV RX6 105 RX6 yX6_trap wsX6_trap) := goodIn_app (goodIn_of _ (by decide +kernel)) ggX6_enter_X6_trap
set_option maxRecDepth 20000 in
theorem ggX6_enter_X6_settle : GoodIn wsX6_enter wsX6_settle := goodIn_r _ [140, 8, 141, 9, 142, 143, 85, 86, 87, 6, 88, 10, 89, 144, 145, 146, 147, 148, 149, 150, 151, 152, 153, 154] (by decide +kernel) (by decide +kernel)
set_option maxRecDepth 20000 in
theorem gX6_enter_X6_settle : GoodIn wsX6_enter (wsV RX6 70 RX6 yX6_settle wsX6_settle) := goodIn_app (goodIn_of _ (by decide +kernel)) ggX6_enter_X6_settle
theorem dX6_enter_0 : decode cX6_enter 0 = .ok (.aload_n 0, 1) := by decide +kernel
theorem dX6_enter_1 : decode cX6_enter 1 = .ok (.iload_n 1, 1) := by decide +kernel
theorem dX6_enter_2 : decode cX6_enter 2 = .ok (.invokevirtual 105, 3) := by decide +kernel
theorem dX6_enter_5 : decode cX6_enter 5 = .ok (.goto 9, 3) := by decide +kernel
theorem dX6_enter_8 : decode cX6_enter 8 = .ok (.astore_n 2, 1) := by decide +kernel
theorem dX6_enter_9 : decode cX6_enter 9 = .ok (.aload_n 0, 1) := by decide +kernel
theorem dX6_enter_10 : decode cX6_enter 10 = .ok (.iconst 3, 1) := by decide +kernel
theorem dX6_enter_11 : decode cX6_enter 11 = .ok (.putfield 17, 3) := by decide +kernel
theorem dX6_enter_14 : decode cX6_enter 14 = .ok (.aload_n 0, 1) := by decide +kernel
theorem dX6_enter_15 : decode cX6_enter 15 = .ok (.invokevirtual 70, 3) := by decide +kernel
theorem dX6_enter_18 : decode cX6_enter 18 = .ok (.return_, 1) := by decide +kernel
set_option maxRecDepth 20000 in
theorem ggX6_trap_X6_readWord : GoodIn wsX6_trap wsX6_readWord := goodIn_ca (goodIn_r _ [8, 9, 10, 11, 12, 7, 13, 14, 15, 16, 17, 18, 19, 20, 21, 22, 23, 24, 25, 26, 27, 28, 29, 30, 31, 32, 33, 34, 35, 36, 37, 38, 39, 40, 41, 42, 43, 44, 45, 46, 47, 48, 49, 50, 51, 52, 53, 54, 55, 56, 57, 58, 59, 60, 61, 62, 63, 64, 65, 66, 67, 68, 69, 70, 71, 72, 73, 74, 75, 132, 133, 134, 135, 136, 137, 138, 139, 140, 143, 144, 145, 146, 147, 148, 149, 150, 151, 152, 153, 154, 155, 156, 157, 158, 159, 160, 161, 162, 163, 164, 165, 166, 167, 168, 169, 170, 171, 141, 142] (by decide +kernel) (by decide +kernel)) (goodIn_sub (fun _ h => List.mem_cons_of_mem _ (List.mem_append_right _ h)) (by decide +kernel))
set_option maxRecDepth 20000 in
theorem gX6_trap_X6_readWord : GoodIn wsX6_trap (wsV RX6 56 RX6 yX6_readWord wsX6_readWord) := goodIn_app (goodIn_of _ (by decide +kernel)) ggX6_trap_X6_readWord
set_option maxRecDepth 20000 in
theorem ggX6_trap_X6_mode : GoodIn wsX6_trap wsX6_mode := goodIn_r _ [79, 1, 2, 132, 133, 134, 135, 136, 137, 138, 139, 140, 141, 142] (by decide +kernel) (by decide +kernel)
set_option maxRecDepth 20000 in
theorem gX6_trap_X6_mode : GoodIn wsX6_trap (wsV RX6 52 RX6 yX6_mode wsX6_mode) := goodIn_app (goodIn_of _ (by decide +kernel)) ggX6_trap_X6_mode
set_option maxRecDepth 20000 in
theorem ggX6_trap_X6_takeStatus : GoodIn wsX6_trap wsX6_takeStatus := goodIn_r _ [83, 1, 2, 3, 84, 132, 133, 134, 135, 136, 137, 138, 139, 140, 141, 142] (by decide +kernel) (by decide +kernel)
set_option maxRecDepth 20000 in
theorem gX6_trap_X6_takeStatus : GoodIn wsX6_trap (wsV RX6 76 RX6 yX6_takeStatus wsX6_takeStatus) := goodIn_app (goodIn_of _ (by decide +kernel)) ggX6_trap_X6_takeStatus
set_option maxRecDepth 20000 in
theorem ggX6_trap_X6_push : GoodIn wsX6_trap wsX6_push := goodIn_ca (goodIn_r _ [88, 76, 77, 78, 7, 79, 1, 2, 89, 90, 91, 92, 3, 93, 94, 95, 96, 97, 9, 10, 11, 12, 13, 14, 15, 16, 17, 18, 19, 20, 21, 22, 23, 24, 25, 26, 27, 28, 29, 30, 31, 32, 98, 99, 100, 36, 101, 46, 47, 48, 49, 50, 51, 52, 102, 53, 39, 40, 41, 55, 56, 57, 58, 61, 59, 60, 63, 64, 65, 66, 103, 68, 69, 70, 71, 72, 73, 74, 75, 104, 105, 106, 107, 108, 109, 110, 111, 112, 113, 114, 115, 116, 117, 118, 119, 120, 121, 122, 123, 124, 125, 126, 127, 128, 129, 130, 131, 132, 133, 134, 135, 136, 137, 138, 139, 140, 141, 142, 143, 144, 145, 146, 147, 148, 149, 150, 151, 152, 153, 154, 155, 156, 157, 158, 159, 160, 161, 162, 163, 164, 165, 166, 167, 168, 169, 170, 171] (by decide +kernel) (by decide +kernel)) (goodIn_sub (fun _ h => List.mem_cons_of_mem _ (List.mem_append_right _ h)) (by decide +kernel))
set_option maxRecDepth 20000 in
theorem gX6_trap_X6_push : GoodIn wsX6_trap (wsV RX6 108 RX6 yX6_push wsX6_push) := goodIn_app (goodIn_of _ (by decide +kernel)) ggX6_trap_X6_push
theorem dX6_trap_0 : decode cX6_trap 0 = .ok (.aload_n 0, 1) := by decide +kernel
theorem dX6_trap_1 : decode cX6_trap 1 = .ok (.getfield 43, 3) := by decide +kernel
theorem dX6_trap_4 : decode cX6_trap 4 = .ok (.getfield 44, 3) := by decide +kernel
theorem dX6_trap_7 : decode cX6_trap 7 = .ok (.istore_n 2, 1) := by decide +kernel
theorem dX6_trap_8 : decode cX6_trap 8 = .ok (.aload_n 0, 1) := by decide +kernel
theorem dX6_trap_9 : decode cX6_trap 9 = .ok (.getfield 7, 3) := by decide +kernel
theorem dX6_trap_12 : decode cX6_trap 12 = .ok (.bipush 7, 2) := by decide +kernel
theorem dX6_trap_14 : decode cX6_trap 14 = .ok (.iaload, 1) := by decide +kernel
theorem dX6_trap_15 : decode cX6_trap 15 = .ok (.istore_n 3, 1) := by decide +kernel
theorem dX6_trap_16 : decode cX6_trap 16 = .ok (.aload_n 0, 1) := by decide +kernel
theorem dX6_trap_17 : decode cX6_trap 17 = .ok (.iconst 0, 1) := by decide +kernel
theorem dX6_trap_18 : decode cX6_trap 18 = .ok (.iload_n 1, 1) := by decide +kernel
theorem dX6_trap_19 : decode cX6_trap 19 = .ok (.invokevirtual 56, 3) := by decide +kernel
theorem dX6_trap_22 : decode cX6_trap 22 = .ok (.istore 4, 2) := by decide +kernel
theorem dX6_trap_24 : decode cX6_trap 24 = .ok (.aload_n 0, 1) := by decide +kernel
theorem dX6_trap_25 : decode cX6_trap 25 = .ok (.iconst 0, 1) := by decide +kernel
theorem dX6_trap_26 : decode cX6_trap 26 = .ok (.iload_n 1, 1) := by decide +kernel
theorem dX6_trap_27 : decode cX6_trap 27 = .ok (.iconst 2, 1) := by decide +kernel
theorem dX6_trap_28 : decode cX6_trap 28 = .ok (.iadd, 1) := by decide +kernel
theorem dX6_trap_29 : decode cX6_trap 29 = .ok (.invokevirtual 56, 3) := by decide +kernel
theorem dX6_trap_32 : decode cX6_trap 32 = .ok (.istore 5, 2) := by decide +kernel
theorem dX6_trap_34 : decode cX6_trap 34 = .ok (.aload_n 0, 1) := by decide +kernel
theorem dX6_trap_35 : decode cX6_trap 35 = .ok (.iload 5, 2) := by decide +kernel
theorem dX6_trap_37 : decode cX6_trap 37 = .ok (.sipush 20719, 3) := by decide +kernel
theorem dX6_trap_40 : decode cX6_trap 40 = .ok (.iand, 1) := by decide +kernel
theorem dX6_trap_41 : decode cX6_trap 41 = .ok (.sipush (-4097), 3) := by decide +kernel
theorem dX6_trap_44 : decode cX6_trap 44 = .ok (.iand, 1) := by decide +kernel
theorem dX6_trap_45 : decode cX6_trap 45 = .ok (.aload_n 0, 1) := by decide +kernel
theorem dX6_trap_46 : decode cX6_trap 46 = .ok (.invokevirtual 52, 3) := by decide +kernel
theorem dX6_trap_49 : decode cX6_trap 49 = .ok (.bipush 12, 2) := by decide +kernel
theorem dX6_trap_51 : decode cX6_trap 51 = .ok (.ishl, 1) := by decide +kernel
theorem dX6_trap_52 : decode cX6_trap 52 = .ok (.ior, 1) := by decide +kernel
theorem dX6_trap_53 : decode cX6_trap 53 = .ok (.invokevirtual 76, 3) := by decide +kernel
theorem dX6_trap_56 : decode cX6_trap 56 = .ok (.aload_n 0, 1) := by decide +kernel
theorem dX6_trap_57 : decode cX6_trap 57 = .ok (.iload_n 2, 1) := by decide +kernel
theorem dX6_trap_58 : decode cX6_trap 58 = .ok (.invokevirtual 108, 3) := by decide +kernel
theorem dX6_trap_61 : decode cX6_trap 61 = .ok (.aload_n 0, 1) := by decide +kernel
theorem dX6_trap_62 : decode cX6_trap 62 = .ok (.iload_n 3, 1) := by decide +kernel
theorem dX6_trap_63 : decode cX6_trap 63 = .ok (.invokevirtual 108, 3) := by decide +kernel
theorem dX6_trap_66 : decode cX6_trap 66 = .ok (.aload_n 0, 1) := by decide +kernel
theorem dX6_trap_67 : decode cX6_trap 67 = .ok (.getfield 7, 3) := by decide +kernel
theorem dX6_trap_70 : decode cX6_trap 70 = .ok (.bipush 7, 2) := by decide +kernel
theorem dX6_trap_72 : decode cX6_trap 72 = .ok (.iload 4, 2) := by decide +kernel
theorem dX6_trap_74 : decode cX6_trap 74 = .ok (.iastore, 1) := by decide +kernel
theorem dX6_trap_75 : decode cX6_trap 75 = .ok (.return_, 1) := by decide +kernel
theorem dX6_stop_0 : decode cX6_stop 0 = .ok (.aload_n 0, 1) := by decide +kernel
theorem dX6_stop_1 : decode cX6_stop 1 = .ok (.iload_n 1, 1) := by decide +kernel
theorem dX6_stop_2 : decode cX6_stop 2 = .ok (.putfield 24, 3) := by decide +kernel
theorem dX6_stop_5 : decode cX6_stop 5 = .ok (.new 65, 3) := by decide +kernel
theorem dX6_stop_8 : decode cX6_stop 8 = .ok (.dup, 1) := by decide +kernel
theorem dX6_stop_9 : decode cX6_stop 9 = .ok (.invokespecial 111, 3) := by decide +kernel
theorem dX6_stop_12 : decode cX6_stop 12 = .ok (.athrow, 1) := by decide +kernel
set_option maxRecDepth 20000 in
theorem ggX6_readWord_X6_stop : GoodIn wsX6_readWord wsX6_stop := goodIn_ca (goodIn_r _ [6, 7, 8, 9, 69, 70, 71, 72, 73, 74, 75, 76, 77] (by decide +kernel) (by decide +kernel)) (goodIn_sub (fun _ h => List.mem_cons_of_mem _ (List.mem_append_right _ h)) (by decide +kernel))
set_option maxRecDepth 20000 in
theorem gX6_readWord_X6_stop : GoodIn wsX6_readWord (wsV RX6 112 RX6 yX6_stop wsX6_stop) := goodIn_app (goodIn_of _ (by decide +kernel)) ggX6_readWord_X6_stop
set_option maxRecDepth 20000 in
theorem ggX6_readWord_X6_place : GoodIn wsX6_readWord wsX6_place := goodIn_ca (goodIn_r _ [13, 1, 14, 15, 16, 17, 18, 19, 20, 21, 22, 23, 24, 25, 2, 3, 4, 5, 6, 7, 8, 9, 69, 70, 71, 72, 73, 74, 75, 76, 77, 78, 79, 80, 81, 82, 83, 84, 85, 86] (by decide +kernel) (by decide +kernel)) (goodIn_sub (fun _ h => List.mem_cons_of_mem _ (List.mem_append_right _ h)) (by decide +kernel))
set_option maxRecDepth 20000 in
theorem gX6_readWord_X6_place : GoodIn wsX6_readWord (wsV RX6 115 RX6 yX6_place wsX6_place) := goodIn_app (goodIn_of _ (by decide +kernel)) ggX6_readWord_X6_place
set_option maxRecDepth 20000 in
theorem ggX6_readWord_X0_read : GoodIn wsX6_readWord wsX0_read := goodIn_r _ [30, 31, 32, 33, 34, 35, 36, 37, 29, 38, 39, 40, 41, 42, 43, 44, 45, 46, 47, 48, 49, 50, 51, 52, 53, 54, 55, 56, 57, 58, 59, 60, 61, 62, 63, 64, 65, 66, 67, 68, 78, 79, 80, 81, 82, 83, 87, 88, 89, 90, 91, 92, 93, 94, 95, 96, 97, 98, 99, 100, 101, 102, 103, 104, 105, 106, 84, 85, 86, 107, 108] (by decide +kernel) (by decide +kernel)
set_option maxRecDepth 20000 in
theorem gX6_readWord_X0_read : GoodIn wsX6_readWord (wsV RX6 119 RX0 yX0_read wsX0_read) := goodIn_app (goodIn_of _ (by decide +kernel)) ggX6_readWord_X0_read
theorem dX6_readWord_0 : decode cX6_readWord 0 = .ok (.iload_n 2, 1) := by decide +kernel
theorem dX6_readWord_1 : decode cX6_readWord 1 = .ok (.iconst 1, 1) := by decide +kernel
theorem dX6_readWord_2 : decode cX6_readWord 2 = .ok (.iand, 1) := by decide +kernel
theorem dX6_readWord_3 : decode cX6_readWord 3 = .ok (.ifCond .eq 8, 3) := by decide +kernel
theorem dX6_readWord_6 : decode cX6_readWord 6 = .ok (.aload_n 0, 1) := by decide +kernel
theorem dX6_readWord_7 : decode cX6_readWord 7 = .ok (.iconst 4, 1) := by decide +kernel
theorem dX6_readWord_8 : decode cX6_readWord 8 = .ok (.invokevirtual 112, 3) := by decide +kernel
theorem dX6_readWord_11 : decode cX6_readWord 11 = .ok (.aload_n 0, 1) := by decide +kernel
theorem dX6_readWord_12 : decode cX6_readWord 12 = .ok (.getfield 33, 3) := by decide +kernel
theorem dX6_readWord_15 : decode cX6_readWord 15 = .ok (.aload_n 0, 1) := by decide +kernel
theorem dX6_readWord_16 : decode cX6_readWord 16 = .ok (.iload_n 1, 1) := by decide +kernel
theorem dX6_readWord_17 : decode cX6_readWord 17 = .ok (.iload_n 2, 1) := by decide +kernel
theorem dX6_readWord_18 : decode cX6_readWord 18 = .ok (.iconst 0, 1) := by decide +kernel
theorem dX6_readWord_19 : decode cX6_readWord 19 = .ok (.invokevirtual 115, 3) := by decide +kernel
theorem dX6_readWord_22 : decode cX6_readWord 22 = .ok (.invokevirtual 119, 3) := by decide +kernel
theorem dX6_readWord_25 : decode cX6_readWord 25 = .ok (.istore_n 3, 1) := by decide +kernel
theorem dX6_readWord_26 : decode cX6_readWord 26 = .ok (.iload_n 3, 1) := by decide +kernel
theorem dX6_readWord_27 : decode cX6_readWord 27 = .ok (.ifCond .ge 8, 3) := by decide +kernel
theorem dX6_readWord_30 : decode cX6_readWord 30 = .ok (.aload_n 0, 1) := by decide +kernel
theorem dX6_readWord_31 : decode cX6_readWord 31 = .ok (.iconst 4, 1) := by decide +kernel
theorem dX6_readWord_32 : decode cX6_readWord 32 = .ok (.invokevirtual 112, 3) := by decide +kernel
theorem dX6_readWord_35 : decode cX6_readWord 35 = .ok (.iload_n 3, 1) := by decide +kernel
theorem dX6_readWord_36 : decode cX6_readWord 36 = .ok (.ireturn, 1) := by decide +kernel
set_option maxRecDepth 20000 in
theorem ggX6_writeWord_X6_stop : GoodIn wsX6_writeWord wsX6_stop := goodIn_ca (goodIn_r _ [6, 7, 8, 9, 91, 92, 93, 94, 95, 96, 97, 98, 99] (by decide +kernel) (by decide +kernel)) (goodIn_sub (fun _ h => List.mem_cons_of_mem _ (List.mem_append_right _ h)) (by decide +kernel))
set_option maxRecDepth 20000 in
theorem gX6_writeWord_X6_stop : GoodIn wsX6_writeWord (wsV RX6 112 RX6 yX6_stop wsX6_stop) := goodIn_app (goodIn_of _ (by decide +kernel)) ggX6_writeWord_X6_stop
set_option maxRecDepth 20000 in
theorem ggX6_writeWord_X6_place : GoodIn wsX6_writeWord wsX6_place := goodIn_ca (goodIn_r _ [13, 1, 14, 15, 16, 17, 18, 19, 20, 21, 22, 23, 24, 25, 2, 3, 4, 5, 6, 7, 8, 9, 91, 92, 93, 94, 95, 96, 97, 98, 99, 100, 101, 102, 103, 104, 105, 106, 107, 108] (by decide +kernel) (by decide +kernel)) (goodIn_sub (fun _ h => List.mem_cons_of_mem _ (List.mem_append_right _ h)) (by decide +kernel))
set_option maxRecDepth 20000 in
theorem gX6_writeWord_X6_place : GoodIn wsX6_writeWord (wsV RX6 115 RX6 yX6_place wsX6_place) := goodIn_app (goodIn_of _ (by decide +kernel)) ggX6_writeWord_X6_place
set_option maxRecDepth 20000 in
theorem ggX6_writeWord_X0_write : GoodIn wsX6_writeWord wsX0_write := goodIn_r _ [30, 31, 32, 33, 34, 35, 36, 37, 38, 39, 40, 41, 42, 43, 44, 45, 46, 47, 48, 49, 50, 51, 52, 53, 54, 55, 56, 57, 58, 59, 60, 61, 62, 63, 64, 65, 66, 67, 68, 69, 70, 71, 72, 73, 74, 75, 76, 77, 78, 79, 80, 81, 82, 83, 84, 85, 86, 87, 88, 89, 90, 100, 101, 102, 103, 104, 105, 106, 107, 108, 109, 110, 111, 112, 113, 114, 115, 116, 117, 118, 119, 120, 121, 122, 123, 124, 125, 126, 127, 128, 129, 130] (by decide +kernel) (by decide +kernel)
set_option maxRecDepth 20000 in
theorem gX6_writeWord_X0_write : GoodIn wsX6_writeWord (wsV RX6 123 RX0 yX0_write wsX0_write) := goodIn_app (goodIn_of _ (by decide +kernel)) ggX6_writeWord_X0_write
theorem dX6_writeWord_0 : decode cX6_writeWord 0 = .ok (.iload_n 2, 1) := by decide +kernel
theorem dX6_writeWord_1 : decode cX6_writeWord 1 = .ok (.iconst 1, 1) := by decide +kernel
theorem dX6_writeWord_2 : decode cX6_writeWord 2 = .ok (.iand, 1) := by decide +kernel
theorem dX6_writeWord_3 : decode cX6_writeWord 3 = .ok (.ifCond .eq 8, 3) := by decide +kernel
theorem dX6_writeWord_6 : decode cX6_writeWord 6 = .ok (.aload_n 0, 1) := by decide +kernel
theorem dX6_writeWord_7 : decode cX6_writeWord 7 = .ok (.iconst 4, 1) := by decide +kernel
theorem dX6_writeWord_8 : decode cX6_writeWord 8 = .ok (.invokevirtual 112, 3) := by decide +kernel
theorem dX6_writeWord_11 : decode cX6_writeWord 11 = .ok (.aload_n 0, 1) := by decide +kernel
theorem dX6_writeWord_12 : decode cX6_writeWord 12 = .ok (.getfield 33, 3) := by decide +kernel
theorem dX6_writeWord_15 : decode cX6_writeWord 15 = .ok (.aload_n 0, 1) := by decide +kernel
theorem dX6_writeWord_16 : decode cX6_writeWord 16 = .ok (.iload_n 1, 1) := by decide +kernel
theorem dX6_writeWord_17 : decode cX6_writeWord 17 = .ok (.iload_n 2, 1) := by decide +kernel
theorem dX6_writeWord_18 : decode cX6_writeWord 18 = .ok (.iconst 1, 1) := by decide +kernel
theorem dX6_writeWord_19 : decode cX6_writeWord 19 = .ok (.invokevirtual 115, 3) := by decide +kernel
theorem dX6_writeWord_22 : decode cX6_writeWord 22 = .ok (.iload_n 3, 1) := by decide +kernel
theorem dX6_writeWord_23 : decode cX6_writeWord 23 = .ok (.invokevirtual 123, 3) := by decide +kernel
theorem dX6_writeWord_26 : decode cX6_writeWord 26 = .ok (.ifCond .ne 8, 3) := by decide +kernel
theorem dX6_writeWord_29 : decode cX6_writeWord 29 = .ok (.aload_n 0, 1) := by decide +kernel
theorem dX6_writeWord_30 : decode cX6_writeWord 30 = .ok (.iconst 4, 1) := by decide +kernel
theorem dX6_writeWord_31 : decode cX6_writeWord 31 = .ok (.invokevirtual 112, 3) := by decide +kernel
theorem dX6_writeWord_34 : decode cX6_writeWord 34 = .ok (.return_, 1) := by decide +kernel
set_option maxRecDepth 20000 in
theorem ggX6_place_X4_locate : GoodIn wsX6_place wsX4_locate := goodIn_r _ [7, 8, 9, 10, 11, 12, 13, 37, 38, 39] (by decide +kernel) (by decide +kernel)
set_option maxRecDepth 20000 in
theorem gX6_place_X4_locate : GoodIn wsX6_place (wsV RX6 136 RX4 yX4_locate wsX4_locate) := goodIn_app (goodIn_of _ (by decide +kernel)) ggX6_place_X4_locate
set_option maxRecDepth 20000 in
theorem ggX6_place_X6_stop : GoodIn wsX6_place wsX6_stop := goodIn_ca (goodIn_r _ [18, 19, 20, 21, 22, 23, 24, 25, 26, 27, 28, 29, 30] (by decide +kernel) (by decide +kernel)) (goodIn_sub (fun _ h => List.mem_cons_of_mem _ (List.mem_append_right _ h)) (by decide +kernel))
set_option maxRecDepth 20000 in
theorem gX6_place_X6_stop : GoodIn wsX6_place (wsV RX6 112 RX6 yX6_stop wsX6_stop) := goodIn_app (goodIn_of _ (by decide +kernel)) ggX6_place_X6_stop
theorem dX6_place_0 : decode cX6_place 0 = .ok (.aload_n 0, 1) := by decide +kernel
theorem dX6_place_1 : decode cX6_place 1 = .ok (.getfield 33, 3) := by decide +kernel
theorem dX6_place_4 : decode cX6_place 4 = .ok (.getfield 132, 3) := by decide +kernel
theorem dX6_place_7 : decode cX6_place 7 = .ok (.iload_n 1, 1) := by decide +kernel
theorem dX6_place_8 : decode cX6_place 8 = .ok (.iload_n 2, 1) := by decide +kernel
theorem dX6_place_9 : decode cX6_place 9 = .ok (.iload_n 3, 1) := by decide +kernel
theorem dX6_place_10 : decode cX6_place 10 = .ok (.invokevirtual 136, 3) := by decide +kernel
theorem dX6_place_13 : decode cX6_place 13 = .ok (.istore 4, 2) := by decide +kernel
theorem dX6_place_15 : decode cX6_place 15 = .ok (.iload 4, 2) := by decide +kernel
theorem dX6_place_17 : decode cX6_place 17 = .ok (.ifCond .ge 10, 3) := by decide +kernel
theorem dX6_place_20 : decode cX6_place 20 = .ok (.aload_n 0, 1) := by decide +kernel
theorem dX6_place_21 : decode cX6_place 21 = .ok (.sipush 168, 3) := by decide +kernel
theorem dX6_place_24 : decode cX6_place 24 = .ok (.invokevirtual 112, 3) := by decide +kernel
theorem dX6_place_27 : decode cX6_place 27 = .ok (.iload 4, 2) := by decide +kernel
theorem dX6_place_29 : decode cX6_place 29 = .ok (.ireturn, 1) := by decide +kernel
set_option maxRecDepth 20000 in
theorem ggX6_push_X6_mode : GoodIn wsX6_push wsX6_mode := goodIn_r _ [5, 6, 7, 107, 108, 109, 110, 111, 112, 113, 114, 115, 116, 117] (by decide +kernel) (by decide +kernel)
set_option maxRecDepth 20000 in
theorem gX6_push_X6_mode : GoodIn wsX6_push (wsV RX6 52 RX6 yX6_mode wsX6_mode) := goodIn_app (goodIn_of _ (by decide +kernel)) ggX6_push_X6_mode
set_option maxRecDepth 20000 in
theorem ggX6_push_X6_fall : GoodIn wsX6_push wsX6_fall := goodIn_r _ [11, 12, 13, 107, 108, 109, 110, 111, 112, 113, 114, 115] (by decide +kernel) (by decide +kernel)
set_option maxRecDepth 20000 in
theorem gX6_push_X6_fall : GoodIn wsX6_push (wsV RX6 141 RX6 yX6_fall wsX6_fall) := goodIn_app (goodIn_of _ (by decide +kernel)) ggX6_push_X6_fall
set_option maxRecDepth 20000 in
theorem ggX6_push_X6_writeWord : GoodIn wsX6_push wsX6_writeWord := goodIn_ca (goodIn_r _ [17, 18, 19, 20, 21, 4, 22, 23, 24, 25, 26, 27, 28, 29, 30, 31, 32, 33, 34, 35, 36, 37, 38, 39, 40, 41, 42, 43, 44, 45, 46, 47, 48, 49, 50, 51, 52, 53, 54, 55, 56, 57, 58, 59, 60, 61, 62, 63, 64, 65, 66, 67, 68, 69, 70, 71, 72, 73, 74, 75, 76, 77, 78, 79, 80, 81, 82, 83, 84, 85, 86, 87, 88, 89, 90, 91, 92, 93, 94, 95, 96, 97, 98, 99, 100, 101, 102, 103, 104, 105, 106, 107, 108, 109, 110, 111, 112, 113, 114, 115, 118, 119, 120, 121, 122, 123, 124, 125, 126, 127, 128, 129, 130, 131, 132, 133, 134, 135, 136, 137, 138, 139, 140, 141, 142, 143, 144, 145, 146, 116, 117] (by decide +kernel) (by decide +kernel)) (goodIn_sub (fun _ h => List.mem_cons_of_mem _ (List.mem_append_right _ h)) (by decide +kernel))
set_option maxRecDepth 20000 in
theorem gX6_push_X6_writeWord : GoodIn wsX6_push (wsV RX6 144 RX6 yX6_writeWord wsX6_writeWord) := goodIn_app (goodIn_of _ (by decide +kernel)) ggX6_push_X6_writeWord
theorem dX6_push_0 : decode cX6_push 0 = .ok (.aload_n 0, 1) := by decide +kernel
theorem dX6_push_1 : decode cX6_push 1 = .ok (.aload_n 0, 1) := by decide +kernel
theorem dX6_push_2 : decode cX6_push 2 = .ok (.invokevirtual 52, 3) := by decide +kernel
theorem dX6_push_5 : decode cX6_push 5 = .ok (.aload_n 0, 1) := by decide +kernel
theorem dX6_push_6 : decode cX6_push 6 = .ok (.bipush 6, 2) := by decide +kernel
theorem dX6_push_8 : decode cX6_push 8 = .ok (.iconst 2, 1) := by decide +kernel
theorem dX6_push_9 : decode cX6_push 9 = .ok (.invokevirtual 141, 3) := by decide +kernel
theorem dX6_push_12 : decode cX6_push 12 = .ok (.iload_n 1, 1) := by decide +kernel
theorem dX6_push_13 : decode cX6_push 13 = .ok (.invokevirtual 144, 3) := by decide +kernel
theorem dX6_push_16 : decode cX6_push 16 = .ok (.return_, 1) := by decide +kernel
theorem dX6_fall_0 : decode cX6_fall 0 = .ok (.aload_n 0, 1) := by decide +kernel
theorem dX6_fall_1 : decode cX6_fall 1 = .ok (.getfield 7, 3) := by decide +kernel
theorem dX6_fall_4 : decode cX6_fall 4 = .ok (.iload_n 1, 1) := by decide +kernel
theorem dX6_fall_5 : decode cX6_fall 5 = .ok (.aload_n 0, 1) := by decide +kernel
theorem dX6_fall_6 : decode cX6_fall 6 = .ok (.getfield 7, 3) := by decide +kernel
theorem dX6_fall_9 : decode cX6_fall 9 = .ok (.iload_n 1, 1) := by decide +kernel
theorem dX6_fall_10 : decode cX6_fall 10 = .ok (.iaload, 1) := by decide +kernel
theorem dX6_fall_11 : decode cX6_fall 11 = .ok (.iload_n 2, 1) := by decide +kernel
theorem dX6_fall_12 : decode cX6_fall 12 = .ok (.isub, 1) := by decide +kernel
theorem dX6_fall_13 : decode cX6_fall 13 = .ok (.ldc 60, 2) := by decide +kernel
theorem dX6_fall_15 : decode cX6_fall 15 = .ok (.iand, 1) := by decide +kernel
theorem dX6_fall_16 : decode cX6_fall 16 = .ok (.iastore, 1) := by decide +kernel
theorem dX6_fall_17 : decode cX6_fall 17 = .ok (.aload_n 0, 1) := by decide +kernel
theorem dX6_fall_18 : decode cX6_fall 18 = .ok (.getfield 7, 3) := by decide +kernel
theorem dX6_fall_21 : decode cX6_fall 21 = .ok (.iload_n 1, 1) := by decide +kernel
theorem dX6_fall_22 : decode cX6_fall 22 = .ok (.iaload, 1) := by decide +kernel
theorem dX6_fall_23 : decode cX6_fall 23 = .ok (.ireturn, 1) := by decide +kernel
set_option maxRecDepth 20000 in
theorem ggX8_run_X6_perform : GoodIn wsX8_run wsX6_perform := goodIn_ca (goodIn_r _ [12, 13, 14, 15, 16, 17, 18, 19, 20, 21, 22, 23, 24, 25, 26, 27, 28, 29, 30, 11, 31, 32, 33, 34, 35, 36, 37, 38, 39, 40, 41, 42, 43, 44, 45, 46, 47, 48, 49, 50, 51, 52, 53, 54, 55, 56, 57, 58, 59, 60, 61, 62, 63, 64, 65, 66, 67, 68, 69, 70, 71, 72, 73, 74, 75, 76, 77, 78, 79, 80, 81, 82, 83, 84, 85, 86, 87, 88, 89, 90, 91, 92, 93, 94, 95, 96, 97, 98, 99, 100, 101, 102, 103, 104, 105, 106, 107, 108, 109, 110, 111, 112, 113, 114, 115, 116, 117, 118, 119, 120, 121, 122, 123, 124, 125, 126, 127, 128, 129, 130, 131, 132, 133, 134, 135, 136, 137, 138, 139, 140, 141, 142, 143, 144, 145, 146, 147, 148, 149, 150, 151, 152, 155, 156, 157, 158, 159, 160, 161, 162, 163, 164, 165, 166, 167, 206, 207, 208, 209, 210, 211, 212, 213, 214, 215, 216, 217, 218, 219, 220, 221, 222, 223, 224, 225, 226, 227, 228, 229, 230, 231, 232, 233, 234, 235, 236, 237, 238, 239, 240, 241, 242, 243, 244, 245] (by decide +kernel) (by decide +kernel)) (goodIn_sub (fun _ h => List.mem_cons_of_mem _ (List.mem_append_right _ h)) (by decide +kernel))
set_option maxRecDepth 20000 in
theorem gX8_run_X6_perform : GoodIn wsX8_run (wsV RX8 73 RX6 yX6_perform wsX6_perform) := goodIn_app (goodIn_of _ (by decide +kernel)) ggX8_run_X6_perform
set_option maxRecDepth 20000 in
theorem ggX8_run_X0_goOn : GoodIn wsX8_run wsX0_goOn := goodIn_r _ [171, 24, 26, 71, 172, 173, 174, 115, 175, 118, 119, 176, 177, 117, 120, 81, 153, 110, 111, 94, 95, 96, 97, 98, 178, 179, 180, 126, 181, 128, 129, 131, 83, 182, 183, 184, 185, 186, 187, 188, 130, 189, 190, 191, 154, 135, 136, 215, 216, 217, 218, 219, 220, 221, 222, 223, 224, 225, 226, 227, 228, 229, 230, 231, 232, 233, 234, 235, 236, 237, 243, 244, 245] (by decide +kernel) (by decide +kernel)
set_option maxRecDepth 20000 in
theorem gX8_run_X0_goOn : GoodIn wsX8_run (wsV RX8 76 RX0 yX0_goOn wsX0_goOn) := goodIn_app (goodIn_of _ (by decide +kernel)) ggX8_run_X0_goOn
set_option maxRecDepth 20000 in
theorem ggX8_run_X6_lookForInterrupt : GoodIn wsX8_run wsX6_lookForInterrupt := goodIn_ca (goodIn_r _ [195, 32, 33, 14, 196, 197, 133, 198, 199, 200, 201, 202, 122, 203, 15, 42, 66, 81, 83, 206, 207, 208, 209, 210, 211, 212, 213, 214, 238, 239, 215, 216, 217, 218, 219, 220, 228, 229, 230, 231, 232, 233, 234, 235, 236, 237, 243, 244, 245, 221, 222, 223, 224, 225, 226, 227, 240, 241, 242] (by decide +kernel) (by decide +kernel)) (goodIn_sub (fun _ h => List.mem_cons_of_mem _ (List.mem_append_right _ h)) (by decide +kernel))
set_option maxRecDepth 20000 in
theorem gX8_run_X6_lookForInterrupt : GoodIn wsX8_run (wsV RX8 79 RX6 yX6_lookForInterrupt wsX6_lookForInterrupt) := goodIn_app (goodIn_of _ (by decide +kernel)) ggX8_run_X6_lookForInterrupt
theorem dX8_run_0 : decode cX8_run 0 = .ok (.iload_n 1, 1) := by decide +kernel
theorem dX8_run_1 : decode cX8_run 1 = .ok (.iconst 1, 1) := by decide +kernel
theorem dX8_run_2 : decode cX8_run 2 = .ok (.if_icmp .lt 9, 3) := by decide +kernel
theorem dX8_run_5 : decode cX8_run 5 = .ok (.iload_n 1, 1) := by decide +kernel
theorem dX8_run_6 : decode cX8_run 6 = .ok (.bipush 40, 2) := by decide +kernel
theorem dX8_run_8 : decode cX8_run 8 = .ok (.if_icmp .le 11, 3) := by decide +kernel
theorem dX8_run_11 : decode cX8_run 11 = .ok (.new 32, 3) := by decide +kernel
theorem dX8_run_14 : decode cX8_run 14 = .ok (.dup, 1) := by decide +kernel
theorem dX8_run_15 : decode cX8_run 15 = .ok (.invokespecial 34, 3) := by decide +kernel
theorem dX8_run_18 : decode cX8_run 18 = .ok (.athrow, 1) := by decide +kernel
theorem dX8_run_19 : decode cX8_run 19 = .ok (.aload_n 0, 1) := by decide +kernel
theorem dX8_run_20 : decode cX8_run 20 = .ok (.getfield 21, 3) := by decide +kernel
theorem dX8_run_23 : decode cX8_run 23 = .ok (.getfield 63, 3) := by decide +kernel
theorem dX8_run_26 : decode cX8_run 26 = .ok (.ifCond .eq 11, 3) := by decide +kernel
theorem dX8_run_29 : decode cX8_run 29 = .ok (.new 70, 3) := by decide +kernel
theorem dX8_run_32 : decode cX8_run 32 = .ok (.dup, 1) := by decide +kernel
theorem dX8_run_33 : decode cX8_run 33 = .ok (.invokespecial 72, 3) := by decide +kernel
theorem dX8_run_36 : decode cX8_run 36 = .ok (.athrow, 1) := by decide +kernel
theorem dX8_run_37 : decode cX8_run 37 = .ok (.iconst 1, 1) := by decide +kernel
theorem dX8_run_38 : decode cX8_run 38 = .ok (.istore_n 2, 1) := by decide +kernel
theorem dX8_run_39 : decode cX8_run 39 = .ok (.iload_n 2, 1) := by decide +kernel
theorem dX8_run_40 : decode cX8_run 40 = .ok (.iload_n 1, 1) := by decide +kernel
theorem dX8_run_41 : decode cX8_run 41 = .ok (.if_icmp .gt 52, 3) := by decide +kernel
theorem dX8_run_44 : decode cX8_run 44 = .ok (.aload_n 0, 1) := by decide +kernel
theorem dX8_run_45 : decode cX8_run 45 = .ok (.getfield 21, 3) := by decide +kernel
theorem dX8_run_48 : decode cX8_run 48 = .ok (.invokevirtual 73, 3) := by decide +kernel
theorem dX8_run_51 : decode cX8_run 51 = .ok (.aload_n 0, 1) := by decide +kernel
theorem dX8_run_52 : decode cX8_run 52 = .ok (.getfield 21, 3) := by decide +kernel
theorem dX8_run_55 : decode cX8_run 55 = .ok (.getfield 63, 3) := by decide +kernel
theorem dX8_run_58 : decode cX8_run 58 = .ok (.ifCond .ne 17, 3) := by decide +kernel
theorem dX8_run_61 : decode cX8_run 61 = .ok (.aload_n 0, 1) := by decide +kernel
theorem dX8_run_62 : decode cX8_run 62 = .ok (.getfield 10, 3) := by decide +kernel
theorem dX8_run_65 : decode cX8_run 65 = .ok (.invokevirtual 76, 3) := by decide +kernel
theorem dX8_run_68 : decode cX8_run 68 = .ok (.aload_n 0, 1) := by decide +kernel
theorem dX8_run_69 : decode cX8_run 69 = .ok (.getfield 21, 3) := by decide +kernel
theorem dX8_run_72 : decode cX8_run 72 = .ok (.invokevirtual 79, 3) := by decide +kernel
theorem dX8_run_75 : decode cX8_run 75 = .ok (.aload_n 0, 1) := by decide +kernel
theorem dX8_run_76 : decode cX8_run 76 = .ok (.getfield 21, 3) := by decide +kernel
theorem dX8_run_79 : decode cX8_run 79 = .ok (.getfield 63, 3) := by decide +kernel
theorem dX8_run_82 : decode cX8_run 82 = .ok (.ifCond .eq 5, 3) := by decide +kernel
theorem dX8_run_85 : decode cX8_run 85 = .ok (.iload_n 2, 1) := by decide +kernel
theorem dX8_run_86 : decode cX8_run 86 = .ok (.ireturn, 1) := by decide +kernel
theorem dX8_run_87 : decode cX8_run 87 = .ok (.iinc 2 1, 3) := by decide +kernel
theorem dX8_run_90 : decode cX8_run 90 = .ok (.goto (-51), 3) := by decide +kernel
theorem dX8_run_93 : decode cX8_run 93 = .ok (.iload_n 1, 1) := by decide +kernel
theorem dX8_run_94 : decode cX8_run 94 = .ok (.ireturn, 1) := by decide +kernel
abbrev vwCl : List vw_C := [(RX0, TX0, 6), (RX1, TX1, 10), (RX2, TX2, 3), (RX4, TX4, 3), (RX5, TX5, 7), (RX6, TX6, 9), (RX7, TX7, 2), (RX8, TX8, 2), (RX9, TX9, 28)]
