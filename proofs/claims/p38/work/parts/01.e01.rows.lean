theorem dL_asks_89 : decode cL_asks 89 = .ok (.iinc 5 1, 3) := by decide +kernel
theorem dL_asks_92 : decode cL_asks 92 = .ok (.goto (-26), 3) := by decide +kernel
theorem dL_asks_95 : decode cL_asks 95 = .ok (.iconst 0, 1) := by decide +kernel
theorem dL_asks_96 : decode cL_asks 96 = .ok (.istore 5, 2) := by decide +kernel
theorem dL_asks_98 : decode cL_asks 98 = .ok (.iload 5, 2) := by decide +kernel
theorem dL_asks_100 : decode cL_asks 100 = .ok (.iload_n 3, 1) := by decide +kernel
theorem dL_asks_101 : decode cL_asks 101 = .ok (.if_icmp .ge 161, 3) := by decide +kernel
theorem dL_asks_104 : decode cL_asks 104 = .ok (.ldc2_w 174, 3) := by decide +kernel
theorem dL_asks_107 : decode cL_asks 107 = .ok (.ldc2_w 174, 3) := by decide +kernel
theorem dL_asks_110 : decode cL_asks 110 = .ok (.ldc2_w 174, 3) := by decide +kernel
theorem dL_asks_113 : decode cL_asks 113 = .ok (.ldc2_w 174, 3) := by decide +kernel
theorem dL_asks_116 : decode cL_asks 116 = .ok (.ldc2_w 174, 3) := by decide +kernel
theorem dL_asks_119 : decode cL_asks 119 = .ok (.ldc2_w 174, 3) := by decide +kernel
theorem dL_asks_122 : decode cL_asks 122 = .ok (.lload_n 1, 1) := by decide +kernel
theorem dL_asks_123 : decode cL_asks 123 = .ok (.lmul, 1) := by decide +kernel
theorem dL_asks_124 : decode cL_asks 124 = .ok (.aload_n 0, 1) := by decide +kernel
theorem dL_asks_125 : decode cL_asks 125 = .ok (.iload 4, 2) := by decide +kernel
theorem dL_asks_127 : decode cL_asks 127 = .ok (.iload 5, 2) := by decide +kernel
theorem dL_asks_129 : decode cL_asks 129 = .ok (.invokestatic 198, 3) := by decide +kernel
theorem dL_asks_132 : decode cL_asks 132 = .ok (.i2l, 1) := by decide +kernel
theorem dL_asks_133 : decode cL_asks 133 = .ok (.ladd, 1) := by decide +kernel
theorem dL_asks_134 : decode cL_asks 134 = .ok (.lmul, 1) := by decide +kernel
theorem dL_asks_135 : decode cL_asks 135 = .ok (.aload_n 0, 1) := by decide +kernel
theorem dL_asks_136 : decode cL_asks 136 = .ok (.iload 4, 2) := by decide +kernel
theorem dL_asks_138 : decode cL_asks 138 = .ok (.iload 5, 2) := by decide +kernel
theorem dL_asks_140 : decode cL_asks 140 = .ok (.invokestatic 200, 3) := by decide +kernel
theorem dL_asks_143 : decode cL_asks 143 = .ok (.i2l, 1) := by decide +kernel
theorem dL_asks_144 : decode cL_asks 144 = .ok (.ladd, 1) := by decide +kernel
theorem dL_asks_145 : decode cL_asks 145 = .ok (.lmul, 1) := by decide +kernel
theorem dL_asks_146 : decode cL_asks 146 = .ok (.aload_n 0, 1) := by decide +kernel
theorem dL_asks_147 : decode cL_asks 147 = .ok (.iload 4, 2) := by decide +kernel
theorem dL_asks_149 : decode cL_asks 149 = .ok (.iload 5, 2) := by decide +kernel
theorem dL_asks_151 : decode cL_asks 151 = .ok (.invokestatic 202, 3) := by decide +kernel
theorem dL_asks_154 : decode cL_asks 154 = .ok (.i2l, 1) := by decide +kernel
theorem dL_asks_155 : decode cL_asks 155 = .ok (.ladd, 1) := by decide +kernel
theorem dL_asks_156 : decode cL_asks 156 = .ok (.lmul, 1) := by decide +kernel
theorem dL_asks_157 : decode cL_asks 157 = .ok (.aload_n 0, 1) := by decide +kernel
theorem dL_asks_158 : decode cL_asks 158 = .ok (.iload 4, 2) := by decide +kernel
theorem dL_asks_160 : decode cL_asks 160 = .ok (.iload 5, 2) := by decide +kernel
theorem dL_asks_162 : decode cL_asks 162 = .ok (.invokestatic 204, 3) := by decide +kernel
theorem dL_asks_165 : decode cL_asks 165 = .ok (.i2l, 1) := by decide +kernel
theorem dL_asks_166 : decode cL_asks 166 = .ok (.ladd, 1) := by decide +kernel
theorem dL_asks_167 : decode cL_asks 167 = .ok (.lmul, 1) := by decide +kernel
theorem dL_asks_168 : decode cL_asks 168 = .ok (.aload_n 0, 1) := by decide +kernel
theorem dL_asks_169 : decode cL_asks 169 = .ok (.iload 4, 2) := by decide +kernel
theorem dL_asks_171 : decode cL_asks 171 = .ok (.iload 5, 2) := by decide +kernel
theorem dL_asks_173 : decode cL_asks 173 = .ok (.invokestatic 206, 3) := by decide +kernel
theorem dL_asks_176 : decode cL_asks 176 = .ok (.i2l, 1) := by decide +kernel
theorem dL_asks_177 : decode cL_asks 177 = .ok (.ladd, 1) := by decide +kernel
theorem dL_asks_178 : decode cL_asks 178 = .ok (.lmul, 1) := by decide +kernel
theorem dL_asks_179 : decode cL_asks 179 = .ok (.aload_n 0, 1) := by decide +kernel
theorem dL_asks_180 : decode cL_asks 180 = .ok (.iload 4, 2) := by decide +kernel
theorem dL_asks_182 : decode cL_asks 182 = .ok (.iload 5, 2) := by decide +kernel
theorem dL_asks_184 : decode cL_asks 184 = .ok (.invokestatic 208, 3) := by decide +kernel
theorem dL_asks_187 : decode cL_asks 187 = .ok (.i2l, 1) := by decide +kernel
theorem dL_asks_188 : decode cL_asks 188 = .ok (.ladd, 1) := by decide +kernel
theorem dL_asks_189 : decode cL_asks 189 = .ok (.lstore_n 1, 1) := by decide +kernel
theorem dL_asks_190 : decode cL_asks 190 = .ok (.iconst 0, 1) := by decide +kernel
theorem dL_asks_191 : decode cL_asks 191 = .ok (.istore 6, 2) := by decide +kernel
theorem dL_asks_193 : decode cL_asks 193 = .ok (.iload 6, 2) := by decide +kernel
theorem dL_asks_195 : decode cL_asks 195 = .ok (.iconst 3, 1) := by decide +kernel
theorem dL_asks_196 : decode cL_asks 196 = .ok (.if_icmp .ge 27, 3) := by decide +kernel
theorem dL_asks_199 : decode cL_asks 199 = .ok (.ldc2_w 174, 3) := by decide +kernel
theorem dL_asks_202 : decode cL_asks 202 = .ok (.lload_n 1, 1) := by decide +kernel
theorem dL_asks_203 : decode cL_asks 203 = .ok (.lmul, 1) := by decide +kernel
theorem dL_asks_204 : decode cL_asks 204 = .ok (.aload_n 0, 1) := by decide +kernel
theorem dL_asks_205 : decode cL_asks 205 = .ok (.iload 4, 2) := by decide +kernel
theorem dL_asks_207 : decode cL_asks 207 = .ok (.iload 5, 2) := by decide +kernel
theorem dL_asks_209 : decode cL_asks 209 = .ok (.iload 6, 2) := by decide +kernel
theorem dL_asks_211 : decode cL_asks 211 = .ok (.invokestatic 210, 3) := by decide +kernel
theorem dL_asks_214 : decode cL_asks 214 = .ok (.i2l, 1) := by decide +kernel
theorem dL_asks_215 : decode cL_asks 215 = .ok (.ladd, 1) := by decide +kernel
theorem dL_asks_216 : decode cL_asks 216 = .ok (.lstore_n 1, 1) := by decide +kernel
theorem dL_asks_217 : decode cL_asks 217 = .ok (.iinc 6 1, 3) := by decide +kernel
theorem dL_asks_220 : decode cL_asks 220 = .ok (.goto (-27), 3) := by decide +kernel
theorem dL_asks_223 : decode cL_asks 223 = .ok (.iconst 0, 1) := by decide +kernel
theorem dL_asks_224 : decode cL_asks 224 = .ok (.istore 6, 2) := by decide +kernel
theorem dL_asks_226 : decode cL_asks 226 = .ok (.iload 6, 2) := by decide +kernel
theorem dL_asks_228 : decode cL_asks 228 = .ok (.iload_n 3, 1) := by decide +kernel
theorem dL_asks_229 : decode cL_asks 229 = .ok (.if_icmp .ge 27, 3) := by decide +kernel
theorem dL_asks_232 : decode cL_asks 232 = .ok (.ldc2_w 174, 3) := by decide +kernel
theorem dL_asks_235 : decode cL_asks 235 = .ok (.lload_n 1, 1) := by decide +kernel
theorem dL_asks_236 : decode cL_asks 236 = .ok (.lmul, 1) := by decide +kernel
theorem dL_asks_237 : decode cL_asks 237 = .ok (.aload_n 0, 1) := by decide +kernel
theorem dL_asks_238 : decode cL_asks 238 = .ok (.iload 4, 2) := by decide +kernel
theorem dL_asks_240 : decode cL_asks 240 = .ok (.iload 5, 2) := by decide +kernel
theorem dL_asks_242 : decode cL_asks 242 = .ok (.iload 6, 2) := by decide +kernel
theorem dL_asks_244 : decode cL_asks 244 = .ok (.invokestatic 212, 3) := by decide +kernel
theorem dL_asks_247 : decode cL_asks 247 = .ok (.i2l, 1) := by decide +kernel
theorem dL_asks_248 : decode cL_asks 248 = .ok (.ladd, 1) := by decide +kernel
theorem dL_asks_249 : decode cL_asks 249 = .ok (.lstore_n 1, 1) := by decide +kernel
theorem dL_asks_250 : decode cL_asks 250 = .ok (.iinc 6 1, 3) := by decide +kernel
theorem dL_asks_253 : decode cL_asks 253 = .ok (.goto (-27), 3) := by decide +kernel
theorem dL_asks_256 : decode cL_asks 256 = .ok (.iinc 5 1, 3) := by decide +kernel
theorem dL_asks_259 : decode cL_asks 259 = .ok (.goto (-161), 3) := by decide +kernel
theorem dL_asks_262 : decode cL_asks 262 = .ok (.ldc2_w 174, 3) := by decide +kernel
theorem dL_asks_265 : decode cL_asks 265 = .ok (.ldc2_w 174, 3) := by decide +kernel
theorem dL_asks_268 : decode cL_asks 268 = .ok (.ldc2_w 174, 3) := by decide +kernel
theorem dL_asks_271 : decode cL_asks 271 = .ok (.lload_n 1, 1) := by decide +kernel
theorem dL_asks_272 : decode cL_asks 272 = .ok (.lmul, 1) := by decide +kernel
theorem dL_asks_273 : decode cL_asks 273 = .ok (.aload_n 0, 1) := by decide +kernel
theorem dL_asks_274 : decode cL_asks 274 = .ok (.iload 4, 2) := by decide +kernel
theorem dL_asks_276 : decode cL_asks 276 = .ok (.invokestatic 214, 3) := by decide +kernel
theorem dL_asks_279 : decode cL_asks 279 = .ok (.i2l, 1) := by decide +kernel
theorem dL_asks_280 : decode cL_asks 280 = .ok (.ladd, 1) := by decide +kernel
theorem dL_asks_281 : decode cL_asks 281 = .ok (.lmul, 1) := by decide +kernel
theorem dL_asks_282 : decode cL_asks 282 = .ok (.aload_n 0, 1) := by decide +kernel
theorem dL_asks_283 : decode cL_asks 283 = .ok (.iload 4, 2) := by decide +kernel
theorem dL_asks_285 : decode cL_asks 285 = .ok (.invokestatic 216, 3) := by decide +kernel
theorem dL_asks_288 : decode cL_asks 288 = .ok (.i2l, 1) := by decide +kernel
theorem dL_asks_289 : decode cL_asks 289 = .ok (.ladd, 1) := by decide +kernel
theorem dL_asks_290 : decode cL_asks 290 = .ok (.lmul, 1) := by decide +kernel
theorem dL_asks_291 : decode cL_asks 291 = .ok (.aload_n 0, 1) := by decide +kernel
theorem dL_asks_292 : decode cL_asks 292 = .ok (.iload 4, 2) := by decide +kernel
theorem dL_asks_294 : decode cL_asks 294 = .ok (.invokestatic 219, 3) := by decide +kernel
theorem dL_asks_297 : decode cL_asks 297 = .ok (.i2l, 1) := by decide +kernel
theorem dL_asks_298 : decode cL_asks 298 = .ok (.ladd, 1) := by decide +kernel
theorem dL_asks_299 : decode cL_asks 299 = .ok (.lstore_n 1, 1) := by decide +kernel
theorem dL_asks_300 : decode cL_asks 300 = .ok (.aload_n 0, 1) := by decide +kernel
theorem dL_asks_301 : decode cL_asks 301 = .ok (.iload 4, 2) := by decide +kernel
theorem dL_asks_303 : decode cL_asks 303 = .ok (.invokestatic 152, 3) := by decide +kernel
theorem dL_asks_306 : decode cL_asks 306 = .ok (.istore 5, 2) := by decide +kernel
theorem dL_asks_308 : decode cL_asks 308 = .ok (.iconst 0, 1) := by decide +kernel
theorem dL_asks_309 : decode cL_asks 309 = .ok (.istore 6, 2) := by decide +kernel
theorem dL_asks_311 : decode cL_asks 311 = .ok (.iload 6, 2) := by decide +kernel
theorem dL_asks_313 : decode cL_asks 313 = .ok (.iload 5, 2) := by decide +kernel
theorem dL_asks_315 : decode cL_asks 315 = .ok (.if_icmp .ge 23, 3) := by decide +kernel
theorem dL_asks_318 : decode cL_asks 318 = .ok (.ldc2_w 174, 3) := by decide +kernel
theorem dL_asks_321 : decode cL_asks 321 = .ok (.lload_n 1, 1) := by decide +kernel
theorem dL_asks_322 : decode cL_asks 322 = .ok (.lmul, 1) := by decide +kernel
theorem dL_asks_323 : decode cL_asks 323 = .ok (.aload_n 0, 1) := by decide +kernel
theorem dL_asks_324 : decode cL_asks 324 = .ok (.iload 6, 2) := by decide +kernel
theorem dL_asks_326 : decode cL_asks 326 = .ok (.invokestatic 155, 3) := by decide +kernel
theorem dL_asks_329 : decode cL_asks 329 = .ok (.i2l, 1) := by decide +kernel
theorem dL_asks_330 : decode cL_asks 330 = .ok (.ladd, 1) := by decide +kernel
theorem dL_asks_331 : decode cL_asks 331 = .ok (.lstore_n 1, 1) := by decide +kernel
theorem dL_asks_332 : decode cL_asks 332 = .ok (.iinc 6 1, 3) := by decide +kernel
theorem dL_asks_335 : decode cL_asks 335 = .ok (.goto (-24), 3) := by decide +kernel
theorem dL_asks_338 : decode cL_asks 338 = .ok (.iinc 4 1, 3) := by decide +kernel
theorem dL_asks_341 : decode cL_asks 341 = .ok (.goto (-284), 3) := by decide +kernel
theorem dL_asks_344 : decode cL_asks 344 = .ok (.iconst 0, 1) := by decide +kernel
theorem dL_asks_345 : decode cL_asks 345 = .ok (.istore 4, 2) := by decide +kernel
theorem dL_asks_347 : decode cL_asks 347 = .ok (.iload 4, 2) := by decide +kernel
theorem dL_asks_349 : decode cL_asks 349 = .ok (.bipush 30, 2) := by decide +kernel
theorem dL_asks_351 : decode cL_asks 351 = .ok (.aload_n 0, 1) := by decide +kernel
theorem dL_asks_352 : decode cL_asks 352 = .ok (.iconst 3, 1) := by decide +kernel
theorem dL_asks_353 : decode cL_asks 353 = .ok (.invokestatic 194, 3) := by decide +kernel
theorem dL_asks_356 : decode cL_asks 356 = .ok (.invokestatic 221, 3) := by decide +kernel
theorem dL_asks_359 : decode cL_asks 359 = .ok (.if_icmp .ge 40, 3) := by decide +kernel
theorem dL_asks_362 : decode cL_asks 362 = .ok (.iconst 0, 1) := by decide +kernel
theorem dL_asks_363 : decode cL_asks 363 = .ok (.istore 5, 2) := by decide +kernel
theorem dL_asks_365 : decode cL_asks 365 = .ok (.iload 5, 2) := by decide +kernel
theorem dL_asks_367 : decode cL_asks 367 = .ok (.iconst 4, 1) := by decide +kernel
theorem dL_asks_368 : decode cL_asks 368 = .ok (.if_icmp .ge 25, 3) := by decide +kernel
theorem dL_asks_371 : decode cL_asks 371 = .ok (.ldc2_w 174, 3) := by decide +kernel
theorem dL_asks_374 : decode cL_asks 374 = .ok (.lload_n 1, 1) := by decide +kernel
theorem dL_asks_375 : decode cL_asks 375 = .ok (.lmul, 1) := by decide +kernel
theorem dL_asks_376 : decode cL_asks 376 = .ok (.aload_n 0, 1) := by decide +kernel
theorem dL_asks_377 : decode cL_asks 377 = .ok (.iload 4, 2) := by decide +kernel
theorem dL_asks_379 : decode cL_asks 379 = .ok (.iload 5, 2) := by decide +kernel
theorem dL_asks_381 : decode cL_asks 381 = .ok (.invokestatic 226, 3) := by decide +kernel
theorem dL_asks_384 : decode cL_asks 384 = .ok (.i2l, 1) := by decide +kernel
theorem dL_asks_385 : decode cL_asks 385 = .ok (.ladd, 1) := by decide +kernel
theorem dL_asks_386 : decode cL_asks 386 = .ok (.lstore_n 1, 1) := by decide +kernel
theorem dL_asks_387 : decode cL_asks 387 = .ok (.iinc 5 1, 3) := by decide +kernel
theorem dL_asks_390 : decode cL_asks 390 = .ok (.goto (-25), 3) := by decide +kernel
theorem dL_asks_393 : decode cL_asks 393 = .ok (.iinc 4 1, 3) := by decide +kernel
theorem dL_asks_396 : decode cL_asks 396 = .ok (.goto (-49), 3) := by decide +kernel
theorem dL_asks_399 : decode cL_asks 399 = .ok (.iconst 0, 1) := by decide +kernel
theorem dL_asks_400 : decode cL_asks 400 = .ok (.istore 4, 2) := by decide +kernel
theorem dL_asks_402 : decode cL_asks 402 = .ok (.iload 4, 2) := by decide +kernel
theorem dL_asks_404 : decode cL_asks 404 = .ok (.iconst 3, 1) := by decide +kernel
theorem dL_asks_405 : decode cL_asks 405 = .ok (.if_icmp .ge 47, 3) := by decide +kernel
theorem dL_asks_408 : decode cL_asks 408 = .ok (.ldc2_w 174, 3) := by decide +kernel
theorem dL_asks_411 : decode cL_asks 411 = .ok (.ldc2_w 174, 3) := by decide +kernel
theorem dL_asks_414 : decode cL_asks 414 = .ok (.ldc2_w 174, 3) := by decide +kernel
theorem dL_asks_417 : decode cL_asks 417 = .ok (.lload_n 1, 1) := by decide +kernel
theorem dL_asks_418 : decode cL_asks 418 = .ok (.lmul, 1) := by decide +kernel
theorem dL_asks_419 : decode cL_asks 419 = .ok (.aload_n 0, 1) := by decide +kernel
theorem dL_asks_420 : decode cL_asks 420 = .ok (.iload 4, 2) := by decide +kernel
theorem dL_asks_422 : decode cL_asks 422 = .ok (.invokestatic 228, 3) := by decide +kernel
theorem dL_asks_425 : decode cL_asks 425 = .ok (.i2l, 1) := by decide +kernel
theorem dL_asks_426 : decode cL_asks 426 = .ok (.ladd, 1) := by decide +kernel
theorem dL_asks_427 : decode cL_asks 427 = .ok (.lmul, 1) := by decide +kernel
theorem dL_asks_428 : decode cL_asks 428 = .ok (.aload_n 0, 1) := by decide +kernel
theorem dL_asks_429 : decode cL_asks 429 = .ok (.iload 4, 2) := by decide +kernel
theorem dL_asks_431 : decode cL_asks 431 = .ok (.invokestatic 230, 3) := by decide +kernel
theorem dL_asks_434 : decode cL_asks 434 = .ok (.i2l, 1) := by decide +kernel
theorem dL_asks_435 : decode cL_asks 435 = .ok (.ladd, 1) := by decide +kernel
theorem dL_asks_436 : decode cL_asks 436 = .ok (.lmul, 1) := by decide +kernel
theorem dL_asks_437 : decode cL_asks 437 = .ok (.aload_n 0, 1) := by decide +kernel
theorem dL_asks_438 : decode cL_asks 438 = .ok (.iload 4, 2) := by decide +kernel
theorem dL_asks_440 : decode cL_asks 440 = .ok (.invokestatic 232, 3) := by decide +kernel
theorem dL_asks_443 : decode cL_asks 443 = .ok (.i2l, 1) := by decide +kernel
theorem dL_asks_444 : decode cL_asks 444 = .ok (.ladd, 1) := by decide +kernel
theorem dL_asks_445 : decode cL_asks 445 = .ok (.lstore_n 1, 1) := by decide +kernel
theorem dL_asks_446 : decode cL_asks 446 = .ok (.iinc 4 1, 3) := by decide +kernel
theorem dL_asks_449 : decode cL_asks 449 = .ok (.goto (-47), 3) := by decide +kernel
theorem dL_asks_452 : decode cL_asks 452 = .ok (.ldc2_w 174, 3) := by decide +kernel
theorem dL_asks_455 : decode cL_asks 455 = .ok (.lload_n 1, 1) := by decide +kernel
theorem dL_asks_456 : decode cL_asks 456 = .ok (.lmul, 1) := by decide +kernel
theorem dL_asks_457 : decode cL_asks 457 = .ok (.aload_n 0, 1) := by decide +kernel
theorem dL_asks_458 : decode cL_asks 458 = .ok (.invokestatic 234, 3) := by decide +kernel
theorem dL_asks_461 : decode cL_asks 461 = .ok (.i2l, 1) := by decide +kernel
theorem dL_asks_462 : decode cL_asks 462 = .ok (.ladd, 1) := by decide +kernel
theorem dL_asks_463 : decode cL_asks 463 = .ok (.lreturn, 1) := by decide +kernel
set_option maxRecDepth 20000 in
theorem ggL_changes_L_account : GoodIn wsL_changes wsL_account := goodIn_ca (goodIn_ca (goodIn_r _ [7, 8, 9, 10, 11, 12, 13, 14, 15, 16, 17, 18, 19, 20, 21, 22, 23, 24, 25, 26, 27, 28, 29, 30, 31, 32, 33, 34, 35, 36, 37, 38, 39, 40, 41, 42, 43, 44, 45, 46, 47, 48, 49, 50, 51, 52, 53, 54, 55, 56, 57, 58, 59, 60, 61, 62, 63, 64, 65, 66, 67, 68, 69, 70, 71, 72, 73, 74, 75, 76, 77, 78, 79, 80, 81, 82, 83, 84, 85, 86, 87, 722, 723, 724, 725, 726, 727, 728, 729, 730, 731, 732, 733, 734, 735, 736, 737, 738, 739, 740, 741, 742, 743, 744, 745, 746, 747, 748, 749, 750, 751, 752, 753, 754, 755, 756, 757, 758, 759, 760, 761] rfl (by decide +kernel)) (goodIn_sub (fun _ h => List.mem_cons_of_mem _ (List.mem_append_left _ (List.mem_append_left _ (List.mem_append_left _ (List.mem_append_left _ (List.mem_append_right _ h)))))) (by decide +kernel))) (goodIn_sub (fun _ h => List.mem_cons_of_mem _ (List.mem_append_left _ (List.mem_append_left _ (List.mem_append_left _ (List.mem_append_right _ h))))) (by decide +kernel))
set_option maxRecDepth 20000 in
theorem gL_changes_L_account : GoodIn wsL_changes (va_wsS RL 194 yL_account wsL_account) := goodIn_app (goodIn_of _ (by decide +kernel)) ggL_changes_L_account
set_option maxRecDepth 20000 in
theorem ggL_changes_L_some : GoodIn wsL_changes wsL_some := goodIn_ca (goodIn_r _ [90] rfl (by decide +kernel)) (goodIn_sub (fun _ h => List.mem_cons_of_mem _ (List.mem_append_left _ (List.mem_append_left _ (List.mem_append_right _ h)))) (by decide +kernel))
set_option maxRecDepth 20000 in
theorem gL_changes_L_some : GoodIn wsL_changes (va_wsS RL 161 yL_some wsL_some) := goodIn_app (goodIn_of _ (by decide +kernel)) ggL_changes_L_some
set_option maxRecDepth 20000 in
theorem ggL_changes_L_come : GoodIn wsL_changes wsL_come := goodIn_ca (goodIn_ca (goodIn_r _ [93, 94, 95, 96, 97, 12, 98, 99, 100, 101, 102, 103, 16, 17, 104, 105, 106, 22, 107, 108, 24, 109, 110, 111, 112, 113, 114, 115, 116, 117, 118, 119, 120, 121, 122, 123, 124, 125, 126, 127, 128, 129, 130, 131, 132, 133, 134, 135, 136, 137, 138, 139, 140, 141, 142, 143, 29, 30, 31, 32, 33, 34, 35, 36, 144, 145, 146, 147, 148, 149, 150, 151, 152, 153, 154, 155, 156, 157, 158, 159, 160, 161, 162, 163, 164, 165, 166, 167, 168, 169, 170, 171, 172, 173, 174, 175, 176, 177, 178, 179, 50, 180, 181, 182, 183, 184, 185, 186, 187, 188, 189, 190, 191, 192, 193, 194, 195, 196, 197, 198, 199, 200, 201, 202, 203, 204, 205, 49, 206, 207, 85, 208, 209, 210, 211, 45, 46, 47, 48, 51, 52, 53, 54, 55, 56, 57, 58, 59, 60, 61, 62, 63, 64, 65, 66, 67, 68, 69, 70, 71, 72, 73, 74, 75, 76, 77, 78, 79, 80, 81, 212, 213, 214, 215, 216, 87, 217, 218, 219, 220, 221, 222, 223, 224, 225, 226, 227, 228, 229, 230, 231, 232, 233, 234, 235, 236, 237, 238, 239, 240, 241, 242, 243, 244, 245, 246, 247, 248, 249, 250, 251, 252, 253, 254, 255, 256, 257, 258, 259, 260, 261, 262, 263, 264, 265, 266, 267, 268, 269, 270, 271, 272, 273, 274, 275, 276, 277, 278, 279, 280, 281, 282, 283, 284, 285, 286, 287, 288, 289, 290, 291, 292, 293, 294, 295, 296, 297, 298, 299, 300, 301, 302, 303, 304, 305, 306, 307, 308, 309, 310, 311, 312, 313, 314, 315, 316, 317, 318, 319, 320, 321, 322, 323, 324, 325, 326, 327, 328, 329, 330, 331, 332, 333, 334, 335, 336, 337, 338, 339, 340, 341, 342, 343, 344, 345, 346, 347, 348, 349, 350, 351, 352, 353, 354, 355, 356, 722, 723, 724, 725, 726, 727, 728, 729, 730, 731, 732, 733, 734, 735, 736, 737, 738, 739, 740, 741, 742, 743, 744, 762, 763, 764, 745, 746, 747, 758, 759, 760, 761, 753, 754, 755, 756, 757] rfl (by decide +kernel)) (goodIn_sub (fun _ h => List.mem_cons_of_mem _ (List.mem_append_left _ (List.mem_append_left _ (List.mem_append_left _ (List.mem_append_right _ h))))) (by decide +kernel))) (goodIn_sub (fun _ h => List.mem_cons_of_mem _ (List.mem_append_left _ (List.mem_append_right _ h))) (by decide +kernel))
set_option maxRecDepth 20000 in
theorem gL_changes_L_come : GoodIn wsL_changes (va_wsS RL 164 yL_come wsL_come) := goodIn_app (goodIn_of _ (by decide +kernel)) ggL_changes_L_come
set_option maxRecDepth 20000 in
theorem ggL_changes_L_canal : GoodIn wsL_changes wsL_canal := goodIn_ca (goodIn_ca (goodIn_r _ [359, 94, 360, 361, 362, 12, 363, 364, 100, 101, 102, 103, 16, 17, 104, 105, 106, 22, 107, 108, 24, 109, 110, 111, 112, 113, 114, 115, 116, 117, 118, 119, 120, 121, 122, 123, 124, 125, 126, 127, 128, 129, 130, 131, 132, 133, 134, 135, 136, 137, 138, 139, 140, 141, 142, 143, 29, 30, 31, 32, 33, 34, 35, 36, 144, 145, 146, 147, 148, 149, 150, 151, 152, 153, 154, 155, 156, 157, 158, 159, 160, 161, 162, 163, 164, 165, 166, 167, 168, 169, 170, 171, 172, 173, 174, 175, 176, 177, 178, 179, 50, 180, 181, 182, 183, 184, 185, 186, 187, 188, 189, 190, 191, 192, 193, 194, 195, 196, 197, 198, 199, 200, 201, 202, 203, 204, 205, 49, 206, 207, 85, 208, 209, 210, 211, 45, 46, 47, 48, 51, 52, 53, 54, 55, 56, 57, 58, 59, 60, 61, 62, 63, 64, 65, 66, 67, 68, 69, 70, 71, 72, 73, 74, 75, 76, 77, 78, 79, 80, 81, 212, 213, 214, 215, 216, 87, 217, 218, 219, 220, 221, 222, 223, 224, 225, 226, 227, 228, 229, 230, 231, 232, 233, 234, 235, 236, 237, 238, 239, 240, 241, 242, 243, 244, 245, 246, 247, 248, 249, 250, 251, 252, 253, 254, 255, 256, 257, 258, 259, 260, 261, 262, 263, 264, 265, 266, 267, 268, 269, 270, 271, 272, 273, 274, 275, 276, 277, 278, 279, 280, 281, 282, 283, 284, 285, 286, 287, 288, 289, 290, 291, 292, 293, 294, 295, 296, 297, 298, 299, 300, 301, 302, 303, 304, 305, 306, 307, 308, 309, 310, 311, 312, 313, 314, 315, 316, 317, 318, 319, 320, 321, 322, 323, 324, 325, 326, 327, 328, 329, 330, 331, 332, 333, 334, 335, 336, 337, 338, 339, 340, 341, 342, 343, 344, 345, 346, 347, 348, 349, 350, 351, 352, 353, 354, 355, 356, 722, 723, 724, 725, 726, 727, 728, 729, 730, 731, 732, 733, 734, 735, 736, 737, 738, 739, 740, 741, 742, 743, 744, 762, 763, 764, 745, 746, 747, 758, 759, 760, 761, 753, 754, 755, 756, 757] rfl (by decide +kernel)) (goodIn_sub (fun _ h => List.mem_cons_of_mem _ (List.mem_append_left _ (List.mem_append_left _ (List.mem_append_left _ (List.mem_append_right _ h))))) (by decide +kernel))) (goodIn_sub (fun _ h => List.mem_cons_of_mem _ (List.mem_append_left _ (List.mem_append_right _ h))) (by decide +kernel))
set_option maxRecDepth 20000 in
theorem gL_changes_L_canal : GoodIn wsL_changes (va_wsS RL 166 yL_canal wsL_canal) := goodIn_app (goodIn_of _ (by decide +kernel)) ggL_changes_L_canal
set_option maxRecDepth 20000 in
theorem ggL_changes_L_close : GoodIn wsL_changes wsL_close := goodIn_ca (goodIn_ca (goodIn_r _ [367, 94, 368, 369, 370, 12, 371, 372, 100, 101, 102, 103, 16, 17, 104, 105, 106, 22, 107, 108, 24, 109, 110, 111, 112, 113, 114, 115, 116, 117, 118, 119, 120, 121, 122, 123, 124, 125, 126, 127, 128, 129, 130, 131, 132, 133, 134, 135, 136, 137, 138, 139, 140, 141, 142, 143, 29, 30, 31, 32, 33, 34, 35, 36, 144, 145, 146, 147, 148, 149, 150, 151, 152, 153, 154, 155, 156, 157, 158, 159, 160, 161, 162, 163, 164, 165, 166, 167, 168, 169, 170, 171, 172, 173, 174, 175, 176, 177, 178, 179, 50, 180, 181, 182, 183, 184, 185, 186, 187, 188, 189, 190, 191, 192, 193, 194, 195, 196, 197, 198, 199, 200, 201, 202, 203, 204, 205, 49, 206, 207, 85, 208, 209, 210, 211, 45, 46, 47, 48, 51, 52, 53, 54, 55, 56, 57, 58, 59, 60, 61, 62, 63, 64, 65, 66, 67, 68, 69, 70, 71, 72, 73, 74, 75, 76, 77, 78, 79, 80, 81, 212, 213, 214, 215, 216, 87, 217, 218, 219, 220, 221, 222, 223, 224, 225, 226, 227, 228, 229, 230, 231, 232, 233, 234, 235, 236, 237, 238, 239, 240, 241, 242, 243, 244, 245, 246, 247, 248, 249, 250, 251, 252, 253, 254, 255, 256, 257, 258, 259, 260, 261, 262, 263, 264, 265, 266, 267, 268, 269, 270, 271, 272, 273, 274, 275, 276, 277, 278, 279, 280, 281, 282, 283, 284, 285, 286, 287, 288, 289, 290, 291, 292, 293, 294, 295, 296, 297, 298, 299, 300, 301, 302, 303, 304, 305, 306, 307, 308, 309, 310, 311, 312, 313, 314, 315, 316, 317, 318, 319, 320, 321, 322, 323, 324, 325, 326, 327, 328, 329, 330, 331, 332, 333, 334, 335, 336, 337, 338, 339, 340, 341, 342, 343, 344, 345, 346, 347, 348, 349, 350, 351, 352, 353, 354, 355, 356, 722, 723, 724, 725, 726, 727, 728, 729, 730, 731, 732, 733, 734, 735, 736, 737, 738, 739, 740, 741, 742, 743, 744, 762, 763, 764, 745, 746, 747, 758, 759, 760, 761, 753, 754, 755, 756, 757] rfl (by decide +kernel)) (goodIn_sub (fun _ h => List.mem_cons_of_mem _ (List.mem_append_left _ (List.mem_append_left _ (List.mem_append_left _ (List.mem_append_right _ h))))) (by decide +kernel))) (goodIn_sub (fun _ h => List.mem_cons_of_mem _ (List.mem_append_left _ (List.mem_append_right _ h))) (by decide +kernel))
set_option maxRecDepth 20000 in
theorem gL_changes_L_close : GoodIn wsL_changes (va_wsS RL 236 yL_close wsL_close) := goodIn_app (goodIn_of _ (by decide +kernel)) ggL_changes_L_close
set_option maxRecDepth 20000 in
theorem ggL_changes_L_district : GoodIn wsL_changes wsL_district := goodIn_ca (goodIn_ca (goodIn_r _ [375, 94, 376, 377, 378, 12, 379, 380, 100, 101, 102, 103, 16, 17, 104, 105, 106, 22, 107, 108, 24, 109, 110, 111, 112, 113, 114, 115, 116, 117, 118, 119, 120, 121, 122, 123, 124, 125, 126, 127, 128, 129, 130, 131, 132, 133, 134, 135, 136, 137, 138, 139, 140, 141, 142, 143, 29, 30, 31, 32, 33, 34, 35, 36, 144, 145, 146, 147, 148, 149, 150, 151, 152, 153, 154, 155, 156, 157, 158, 159, 160, 161, 162, 163, 164, 165, 166, 167, 168, 169, 170, 171, 172, 173, 174, 175, 176, 177, 178, 179, 50, 180, 181, 182, 183, 184, 185, 186, 187, 188, 189, 190, 191, 192, 193, 194, 195, 196, 197, 198, 199, 200, 201, 202, 203, 204, 205, 49, 206, 207, 85, 208, 209, 210, 211, 45, 46, 47, 48, 51, 52, 53, 54, 55, 56, 57, 58, 59, 60, 61, 62, 63, 64, 65, 66, 67, 68, 69, 70, 71, 72, 73, 74, 75, 76, 77, 78, 79, 80, 81, 212, 213, 214, 215, 216, 87, 217, 218, 219, 220, 221, 222, 223, 224, 225, 226, 227, 228, 229, 230, 231, 232, 233, 234, 235, 236, 237, 238, 239, 240, 241, 242, 243, 244, 245, 246, 247, 248, 249, 250, 251, 252, 253, 254, 255, 256, 257, 258, 259, 260, 261, 262, 263, 264, 265, 266, 267, 268, 269, 270, 271, 272, 273, 274, 275, 276, 277, 278, 279, 280, 281, 282, 283, 284, 285, 286, 287, 288, 289, 290, 291, 292, 293, 294, 295, 296, 297, 298, 299, 300, 301, 302, 303, 304, 305, 306, 307, 308, 309, 310, 311, 312, 313, 314, 315, 316, 317, 318, 319, 320, 321, 322, 323, 324, 325, 326, 327, 328, 329, 330, 331, 332, 333, 334, 335, 336, 337, 338, 339, 340, 341, 342, 343, 344, 345, 346, 347, 348, 349, 350, 351, 352, 353, 354, 355, 356, 722, 723, 724, 725, 726, 727, 728, 729, 730, 731, 732, 733, 734, 735, 736, 737, 738, 739, 740, 741, 742, 743, 744, 762, 763, 764, 745, 746, 747, 758, 759, 760, 761, 753, 754, 755, 756, 757] rfl (by decide +kernel)) (goodIn_sub (fun _ h => List.mem_cons_of_mem _ (List.mem_append_left _ (List.mem_append_left _ (List.mem_append_left _ (List.mem_append_right _ h))))) (by decide +kernel))) (goodIn_sub (fun _ h => List.mem_cons_of_mem _ (List.mem_append_left _ (List.mem_append_right _ h))) (by decide +kernel))
set_option maxRecDepth 20000 in
theorem gL_changes_L_district : GoodIn wsL_changes (va_wsS RL 171 yL_district wsL_district) := goodIn_app (goodIn_of _ (by decide +kernel)) ggL_changes_L_district
set_option maxRecDepth 20000 in
theorem ggL_changes_L_lose : GoodIn wsL_changes wsL_lose := goodIn_ca (goodIn_ca (goodIn_r _ [383, 94, 384, 385, 386, 12, 387, 388, 100, 101, 102, 103, 16, 17, 104, 105, 106, 22, 107, 108, 24, 109, 110, 111, 112, 113, 114, 115, 116, 117, 118, 119, 120, 121, 122, 123, 124, 125, 126, 127, 128, 129, 130, 131, 132, 133, 134, 135, 136, 137, 138, 139, 140, 141, 142, 143, 29, 30, 31, 32, 33, 34, 35, 36, 144, 145, 146, 147, 148, 149, 150, 151, 152, 153, 154, 155, 156, 157, 158, 159, 160, 161, 162, 163, 164, 165, 166, 167, 168, 169, 170, 171, 172, 173, 174, 175, 176, 177, 178, 179, 50, 180, 181, 182, 183, 184, 185, 186, 187, 188, 189, 190, 191, 192, 193, 194, 195, 196, 197, 198, 199, 200, 201, 202, 203, 204, 205, 49, 206, 207, 85, 208, 209, 210, 211, 45, 46, 47, 48, 51, 52, 53, 54, 55, 56, 57, 58, 59, 60, 61, 62, 63, 64, 65, 66, 67, 68, 69, 70, 71, 72, 73, 74, 75, 76, 77, 78, 79, 80, 81, 212, 213, 214, 215, 216, 87, 217, 218, 219, 220, 221, 222, 223, 224, 225, 226, 227, 228, 229, 230, 231, 232, 233, 234, 235, 236, 237, 238, 239, 240, 241, 242, 243, 244, 245, 246, 247, 248, 249, 250, 251, 252, 253, 254, 255, 256, 257, 258, 259, 260, 261, 262, 263, 264, 265, 266, 267, 268, 269, 270, 271, 272, 273, 274, 275, 276, 277, 278, 279, 280, 281, 282, 283, 284, 285, 286, 287, 288, 289, 290, 291, 292, 293, 294, 295, 296, 297, 298, 299, 300, 301, 302, 303, 304, 305, 306, 307, 308, 309, 310, 311, 312, 313, 314, 315, 316, 317, 318, 319, 320, 321, 322, 323, 324, 325, 326, 327, 328, 329, 330, 331, 332, 333, 334, 335, 336, 337, 338, 339, 340, 341, 342, 343, 344, 345, 346, 347, 348, 349, 350, 351, 352, 353, 354, 355, 356, 722, 723, 724, 725, 726, 727, 728, 729, 730, 731, 732, 733, 734, 735, 736, 737, 738, 739, 740, 741, 742, 743, 744, 762, 763, 764, 745, 746, 747, 758, 759, 760, 761, 753, 754, 755, 756, 757] rfl (by decide +kernel)) (goodIn_sub (fun _ h => List.mem_cons_of_mem _ (List.mem_append_left _ (List.mem_append_left _ (List.mem_append_left _ (List.mem_append_right _ h))))) (by decide +kernel))) (goodIn_sub (fun _ h => List.mem_cons_of_mem _ (List.mem_append_left _ (List.mem_append_right _ h))) (by decide +kernel))
set_option maxRecDepth 20000 in
theorem gL_changes_L_lose : GoodIn wsL_changes (va_wsS RL 238 yL_lose wsL_lose) := goodIn_app (goodIn_of _ (by decide +kernel)) ggL_changes_L_lose
set_option maxRecDepth 20000 in
theorem ggL_changes_L_pass : GoodIn wsL_changes wsL_pass := goodIn_ca (goodIn_ca (goodIn_r _ [391, 94, 392, 393, 394, 12, 395, 396, 100, 101, 102, 103, 16, 17, 104, 105, 106, 22, 107, 108, 24, 109, 110, 111, 112, 113, 114, 115, 116, 117, 118, 119, 120, 121, 122, 123, 124, 125, 126, 127, 128, 129, 130, 131, 132, 133, 134, 135, 136, 137, 138, 139, 140, 141, 142, 143, 29, 30, 31, 32, 33, 34, 35, 36, 144, 145, 146, 147, 148, 149, 150, 151, 152, 153, 154, 155, 156, 157, 158, 159, 160, 161, 162, 163, 164, 165, 166, 167, 168, 169, 170, 171, 172, 173, 174, 175, 176, 177, 178, 179, 50, 180, 181, 182, 183, 184, 185, 186, 187, 188, 189, 190, 191, 192, 193, 194, 195, 196, 197, 198, 199, 200, 201, 202, 203, 204, 205, 49, 206, 207, 85, 208, 209, 210, 211, 45, 46, 47, 48, 51, 52, 53, 54, 55, 56, 57, 58, 59, 60, 61, 62, 63, 64, 65, 66, 67, 68, 69, 70, 71, 72, 73, 74, 75, 76, 77, 78, 79, 80, 81, 212, 213, 214, 215, 216, 87, 217, 218, 219, 220, 221, 222, 223, 224, 225, 226, 227, 228, 229, 230, 231, 232, 233, 234, 235, 236, 237, 238, 239, 240, 241, 242, 243, 244, 245, 246, 247, 248, 249, 250, 251, 252, 253, 254, 255, 256, 257, 258, 259, 260, 261, 262, 263, 264, 265, 266, 267, 268, 269, 270, 271, 272, 273, 274, 275, 276, 277, 278, 279, 280, 281, 282, 283, 284, 285, 286, 287, 288, 289, 290, 291, 292, 293, 294, 295, 296, 297, 298, 299, 300, 301, 302, 303, 304, 305, 306, 307, 308, 309, 310, 311, 312, 313, 314, 315, 316, 317, 318, 319, 320, 321, 322, 323, 324, 325, 326, 327, 328, 329, 330, 331, 332, 333, 334, 335, 336, 337, 338, 339, 340, 341, 342, 343, 344, 345, 346, 347, 348, 349, 350, 351, 352, 353, 354, 355, 356, 722, 723, 724, 725, 726, 727, 728, 729, 730, 731, 732, 733, 734, 735, 736, 737, 738, 739, 740, 741, 742, 743, 744, 762, 763, 764, 745, 746, 747, 758, 759, 760, 761, 753, 754, 755, 756, 757] rfl (by decide +kernel)) (goodIn_sub (fun _ h => List.mem_cons_of_mem _ (List.mem_append_left _ (List.mem_append_left _ (List.mem_append_left _ (List.mem_append_right _ h))))) (by decide +kernel))) (goodIn_sub (fun _ h => List.mem_cons_of_mem _ (List.mem_append_left _ (List.mem_append_right _ h))) (by decide +kernel))
set_option maxRecDepth 20000 in
theorem gL_changes_L_pass : GoodIn wsL_changes (va_wsS RL 169 yL_pass wsL_pass) := goodIn_app (goodIn_of _ (by decide +kernel)) ggL_changes_L_pass
set_option maxRecDepth 20000 in
theorem ggL_changes_J4_init_da8c8 : GoodIn wsL_changes wsJ4_init_da8c8 := goodIn_r _ [399, 400, 401, 402, 403, 404, 127, 128, 405, 406, 407, 408, 409, 410, 411, 412, 413, 414, 415, 416, 718, 719, 720, 721] rfl (by decide +kernel)
set_option maxRecDepth 20000 in
theorem gL_changes_J4_init_da8c8 : GoodIn wsL_changes (wsJ4_init_da8c8) := ggL_changes_J4_init_da8c8
set_option maxRecDepth 20000 in
theorem ggL_changes_J4_append_15ec4 : GoodIn wsL_changes wsJ4_append_15ec4 := goodIn_r _ [420, 421, 422, 423, 424, 402, 425, 426, 427, 428, 429, 430, 431, 407, 432, 433, 434, 435, 436, 408, 437, 438, 439, 440, 441, 442, 443, 248, 249, 250, 251, 244, 170, 245, 252, 253, 254, 255, 444, 445, 258, 446, 447, 448, 285, 286, 449, 450, 406, 269, 169, 171, 270, 177, 178, 179, 451, 452, 453, 454, 455, 405, 456, 457, 411, 458, 459, 460, 461, 462, 463, 464, 465, 466, 467, 468, 469, 470, 471, 472, 75, 473, 474, 475, 476, 477, 478, 479, 480, 481, 482, 483, 484, 485, 486, 487, 488, 489, 490, 491, 492, 493, 494, 495, 496, 497, 498, 499, 500, 501, 502, 503, 504, 505, 409, 410, 412, 413, 414, 415, 416, 506, 507, 508, 509, 510, 511, 512, 513, 514, 515, 516, 517, 518, 519, 520, 521, 522, 523, 524, 525, 526, 527, 718, 719, 720, 721, 765, 766, 767, 768] rfl (by decide +kernel)
set_option maxRecDepth 20000 in
theorem gL_changes_J4_append_15ec4 : GoodIn wsL_changes (wsV RL 245 RJ4 yJ4_append_15ec4 wsJ4_append_15ec4) := goodIn_app (goodIn_of _ (by decide +kernel)) ggL_changes_J4_append_15ec4
set_option maxRecDepth 20000 in
theorem ggL_changes_J4_append_bf812 : GoodIn wsL_changes wsJ4_append_bf812 := goodIn_r _ [531, 532, 533, 423, 534, 402, 535, 426, 407, 536, 537, 538, 539, 432, 433, 434, 435, 436, 408, 437, 438, 439, 440, 441, 442, 443, 248, 249, 250, 251, 244, 170, 245, 252, 253, 254, 255, 444, 445, 258, 446, 447, 448, 285, 286, 449, 450, 406, 269, 169, 171, 270, 177, 178, 179, 451, 452, 453, 454, 455, 405, 540, 541, 542, 543, 544, 545, 546, 411, 547, 459, 460, 461, 462, 463, 464, 465, 466, 467, 468, 469, 470, 471, 472, 75, 473, 548, 549, 550, 551, 552, 474, 475, 476, 477, 478, 718, 719, 720, 721] rfl (by decide +kernel)
set_option maxRecDepth 20000 in
theorem gL_changes_J4_append_bf812 : GoodIn wsL_changes (wsV RL 248 RJ4 yJ4_append_bf812 wsJ4_append_bf812) := goodIn_app (goodIn_of _ (by decide +kernel)) ggL_changes_J4_append_bf812
set_option maxRecDepth 20000 in
theorem ggL_changes_J4_toString_0e30d : GoodIn wsL_changes wsJ4_toString_0e30d := goodIn_r _ [556, 557, 558, 468, 559, 560, 561, 562, 563, 564, 565, 127, 128, 489, 483, 488, 566, 567, 568, 569, 570, 402, 571, 407, 572, 573, 574, 575, 576, 3, 577, 578, 423, 579, 580, 426, 581, 452, 453, 454, 455, 405, 408, 582, 583, 258, 584, 447, 448, 285, 286, 449, 450, 585, 586, 587, 406, 269, 169, 170, 171, 270, 177, 178, 179, 588, 589, 590, 591, 2, 592, 593, 411, 594, 595, 596, 597, 513, 514, 515, 463, 464, 465, 516, 517, 518, 470, 519, 520, 75, 521, 598, 599, 600, 459, 477, 478, 413, 414, 415, 416, 601, 602, 603, 604, 765, 766, 767, 768, 718, 719, 720, 721] rfl (by decide +kernel)
set_option maxRecDepth 20000 in
theorem gL_changes_J4_toString_0e30d : GoodIn wsL_changes (wsV RL 255 RJ4 yJ4_toString_0e30d wsJ4_toString_0e30d) := goodIn_app (goodIn_of _ (by decide +kernel)) ggL_changes_J4_toString_0e30d
set_option maxRecDepth 20000 in
theorem ggL_changes_L_reads : GoodIn wsL_changes wsL_reads := goodIn_ca (goodIn_ca (goodIn_ca (goodIn_ca (goodIn_r _ [607, 608, 480, 481, 468, 482, 483, 484, 485, 486, 487, 488, 489, 609, 610, 611, 612, 613, 614, 615, 616, 617, 618, 508, 619, 620, 621, 622, 470, 623, 74, 75, 76, 624, 625, 411, 626, 627, 628, 629, 463, 464, 465, 630, 598, 599, 600, 459, 477, 478, 631, 632, 6, 633, 634, 635, 636, 637, 12, 638, 639, 640, 18, 641, 642, 643, 644, 645, 646, 647, 648, 649, 650, 651, 652, 653, 654, 655, 8, 656, 657, 658, 659, 14, 15, 660, 661, 16, 17, 662, 663, 664, 665, 666, 667, 668, 669, 670, 671, 672, 673, 674, 675, 676, 677, 678, 679, 680, 681, 682, 683, 684, 258, 685, 686, 687, 688, 689, 690, 691, 692, 693, 694, 695, 696, 697, 698, 699, 700, 701, 702, 703, 704, 173, 174, 22, 175, 152, 176, 177, 178, 179, 33, 50, 109, 24, 180, 181, 182, 183, 184, 185, 186, 187, 188, 189, 190, 191, 192, 193, 705, 706, 707, 708, 709, 121, 122, 710, 711, 712, 713, 714, 715, 104, 105, 106, 107, 108, 110, 111, 112, 113, 114, 115, 116, 117, 118, 119, 120, 123, 124, 125, 126, 127, 128, 129, 130, 131, 132, 133, 134, 135, 136, 137, 138, 139, 140, 141, 142, 143, 29, 30, 31, 32, 34, 35, 36, 144, 145, 146, 147, 148, 149, 150, 151, 716, 194, 195, 196, 197, 198, 199, 200, 201, 202, 203, 204, 205, 49, 206, 207, 85, 208, 209, 210, 211, 45, 46, 47, 48, 51, 52, 53, 54, 55, 56, 57, 58, 59, 60, 61, 62, 63, 64, 65, 66, 67, 68, 69, 70, 71, 72, 73, 77, 78, 79, 80, 81, 212, 213, 214, 215, 216, 87, 217, 218, 219, 220, 221, 222, 223, 224, 225, 226, 227, 228, 229, 230, 231, 232, 233, 234, 235, 236, 237, 238, 239, 240, 241, 242, 243, 244, 170, 245, 246, 247, 248, 249, 250, 251, 252, 253, 254, 255, 256, 257, 259, 260, 261, 262, 263, 264, 265, 266, 267, 268, 269, 169, 171, 270, 271, 272, 273, 274, 275, 276, 277, 278, 279, 280, 281, 282, 283, 284, 285, 286, 287, 288, 289, 290, 291, 292, 293, 294, 295, 296, 297, 298, 299, 300, 301, 302, 303, 304, 305, 306, 307, 308, 309, 310, 311, 312, 313, 314, 315, 316, 317, 318, 319, 320, 321, 322, 323, 324, 325, 326, 327, 328, 329, 330, 331, 332, 333, 334, 335, 336, 337, 338, 339, 340, 341, 342, 343, 344, 345, 346, 347, 348, 349, 350, 351, 352, 353, 354, 355, 356, 717, 153, 154, 155, 156, 157, 158, 159, 160, 161, 162, 163, 164, 165, 166, 167, 168, 172, 765, 766, 767, 768, 722, 723, 724, 725, 726, 727, 728, 729, 730, 731, 748, 749, 750, 751, 752, 732, 733, 734, 735, 736, 737, 738, 739, 740, 741, 742, 743, 744, 762, 763, 764, 758, 759, 760, 761, 753, 754, 755, 756, 757, 745, 746, 747] rfl (by decide +kernel)) (goodIn_sub (fun _ h => List.mem_cons_of_mem _ (List.mem_append_right _ h)) (by decide +kernel))) (goodIn_sub (fun _ h => List.mem_cons_of_mem _ (List.mem_append_left _ (List.mem_append_left _ (List.mem_append_left _ (List.mem_append_right _ h))))) (by decide +kernel))) (goodIn_sub (fun _ h => List.mem_cons_of_mem _ (List.mem_append_left _ (List.mem_append_left _ (List.mem_append_left _ (List.mem_append_left _ (List.mem_append_right _ h)))))) (by decide +kernel))) (goodIn_sub (fun _ h => List.mem_cons_of_mem _ (List.mem_append_left _ (List.mem_append_right _ h))) (by decide +kernel))
set_option maxRecDepth 20000 in
theorem gL_changes_L_reads : GoodIn wsL_changes (va_wsS RL 263 yL_reads wsL_reads) := goodIn_app (goodIn_of _ (by decide +kernel)) ggL_changes_L_reads
theorem dL_changes_0 : decode cL_changes 0 = .ok (.iload_n 1, 1) := by decide +kernel
theorem dL_changes_1 : decode cL_changes 1 = .ok (.iconst 4, 1) := by decide +kernel
theorem dL_changes_2 : decode cL_changes 2 = .ok (.ishr, 1) := by decide +kernel
theorem dL_changes_3 : decode cL_changes 3 = .ok (.aload_n 0, 1) := by decide +kernel
theorem dL_changes_4 : decode cL_changes 4 = .ok (.iconst 1, 1) := by decide +kernel
theorem dL_changes_5 : decode cL_changes 5 = .ok (.invokestatic 194, 3) := by decide +kernel
theorem dL_changes_8 : decode cL_changes 8 = .ok (.iconst 1, 1) := by decide +kernel
theorem dL_changes_9 : decode cL_changes 9 = .ok (.iadd, 1) := by decide +kernel
theorem dL_changes_10 : decode cL_changes 10 = .ok (.invokestatic 161, 3) := by decide +kernel
theorem dL_changes_13 : decode cL_changes 13 = .ok (.istore_n 2, 1) := by decide +kernel
theorem dL_changes_14 : decode cL_changes 14 = .ok (.iload_n 1, 1) := by decide +kernel
theorem dL_changes_15 : decode cL_changes 15 = .ok (.bipush 7, 2) := by decide +kernel
theorem dL_changes_17 : decode cL_changes 17 = .ok (.ishr, 1) := by decide +kernel
theorem dL_changes_18 : decode cL_changes 18 = .ok (.aload_n 0, 1) := by decide +kernel
theorem dL_changes_19 : decode cL_changes 19 = .ok (.iconst 1, 1) := by decide +kernel
theorem dL_changes_20 : decode cL_changes 20 = .ok (.invokestatic 194, 3) := by decide +kernel
theorem dL_changes_23 : decode cL_changes 23 = .ok (.iconst 1, 1) := by decide +kernel
theorem dL_changes_24 : decode cL_changes 24 = .ok (.iadd, 1) := by decide +kernel
theorem dL_changes_25 : decode cL_changes 25 = .ok (.invokestatic 161, 3) := by decide +kernel
theorem dL_changes_28 : decode cL_changes 28 = .ok (.istore_n 3, 1) := by decide +kernel
theorem dL_changes_29 : decode cL_changes 29 = .ok (.iload_n 1, 1) := by decide +kernel
theorem dL_changes_30 : decode cL_changes 30 = .ok (.bipush 18, 2) := by decide +kernel
theorem dL_changes_32 : decode cL_changes 32 = .ok (.invokestatic 161, 3) := by decide +kernel
theorem dL_changes_35 : decode cL_changes 35 = .ok (.tableswitch 190 0 13 #[69, 82, 82, 82, 82, 106, 106, 121, 121, 143, 143, 156, 156, 156], 69) := by decide +kernel
theorem dL_changes_104 : decode cL_changes 104 = .ok (.aload_n 0, 1) := by decide +kernel
theorem dL_changes_105 : decode cL_changes 105 = .ok (.invokestatic 164, 3) := by decide +kernel
theorem dL_changes_108 : decode cL_changes 108 = .ok (.ifCond .lt 7, 3) := by decide +kernel
theorem dL_changes_111 : decode cL_changes 111 = .ok (.iconst 1, 1) := by decide +kernel
theorem dL_changes_112 : decode cL_changes 112 = .ok (.goto 4, 3) := by decide +kernel
theorem dL_changes_115 : decode cL_changes 115 = .ok (.iconst 0, 1) := by decide +kernel
theorem dL_changes_116 : decode cL_changes 116 = .ok (.ireturn, 1) := by decide +kernel
theorem dL_changes_117 : decode cL_changes 117 = .ok (.aload_n 0, 1) := by decide +kernel
theorem dL_changes_118 : decode cL_changes 118 = .ok (.iload_n 2, 1) := by decide +kernel
theorem dL_changes_119 : decode cL_changes 119 = .ok (.iload_n 3, 1) := by decide +kernel
theorem dL_changes_120 : decode cL_changes 120 = .ok (.iload_n 1, 1) := by decide +kernel
theorem dL_changes_121 : decode cL_changes 121 = .ok (.bipush 9, 2) := by decide +kernel
theorem dL_changes_123 : decode cL_changes 123 = .ok (.ishr, 1) := by decide +kernel
theorem dL_changes_124 : decode cL_changes 124 = .ok (.bipush 11, 2) := by decide +kernel
theorem dL_changes_126 : decode cL_changes 126 = .ok (.invokestatic 161, 3) := by decide +kernel
theorem dL_changes_129 : decode cL_changes 129 = .ok (.invokestatic 166, 3) := by decide +kernel
theorem dL_changes_132 : decode cL_changes 132 = .ok (.ifCond .lt 7, 3) := by decide +kernel
theorem dL_changes_135 : decode cL_changes 135 = .ok (.iconst 1, 1) := by decide +kernel
theorem dL_changes_136 : decode cL_changes 136 = .ok (.goto 4, 3) := by decide +kernel
theorem dL_changes_139 : decode cL_changes 139 = .ok (.iconst 0, 1) := by decide +kernel
theorem dL_changes_140 : decode cL_changes 140 = .ok (.ireturn, 1) := by decide +kernel
theorem dL_changes_141 : decode cL_changes 141 = .ok (.aload_n 0, 1) := by decide +kernel
theorem dL_changes_142 : decode cL_changes 142 = .ok (.iload_n 2, 1) := by decide +kernel
theorem dL_changes_143 : decode cL_changes 143 = .ok (.iload_n 3, 1) := by decide +kernel
theorem dL_changes_144 : decode cL_changes 144 = .ok (.invokestatic 236, 3) := by decide +kernel
theorem dL_changes_147 : decode cL_changes 147 = .ok (.ifCond .lt 7, 3) := by decide +kernel
theorem dL_changes_150 : decode cL_changes 150 = .ok (.iconst 1, 1) := by decide +kernel
theorem dL_changes_151 : decode cL_changes 151 = .ok (.goto 4, 3) := by decide +kernel
theorem dL_changes_154 : decode cL_changes 154 = .ok (.iconst 0, 1) := by decide +kernel
theorem dL_changes_155 : decode cL_changes 155 = .ok (.ireturn, 1) := by decide +kernel
theorem dL_changes_156 : decode cL_changes 156 = .ok (.aload_n 0, 1) := by decide +kernel
theorem dL_changes_157 : decode cL_changes 157 = .ok (.iload_n 2, 1) := by decide +kernel
theorem dL_changes_158 : decode cL_changes 158 = .ok (.iload_n 1, 1) := by decide +kernel
theorem dL_changes_159 : decode cL_changes 159 = .ok (.bipush 7, 2) := by decide +kernel
theorem dL_changes_161 : decode cL_changes 161 = .ok (.ishr, 1) := by decide +kernel
theorem dL_changes_162 : decode cL_changes 162 = .ok (.iconst 4, 1) := by decide +kernel
theorem dL_changes_163 : decode cL_changes 163 = .ok (.invokestatic 161, 3) := by decide +kernel
theorem dL_changes_166 : decode cL_changes 166 = .ok (.invokestatic 171, 3) := by decide +kernel
theorem dL_changes_169 : decode cL_changes 169 = .ok (.ifCond .lt 7, 3) := by decide +kernel
theorem dL_changes_172 : decode cL_changes 172 = .ok (.iconst 1, 1) := by decide +kernel
theorem dL_changes_173 : decode cL_changes 173 = .ok (.goto 4, 3) := by decide +kernel
theorem dL_changes_176 : decode cL_changes 176 = .ok (.iconst 0, 1) := by decide +kernel
theorem dL_changes_177 : decode cL_changes 177 = .ok (.ireturn, 1) := by decide +kernel
theorem dL_changes_178 : decode cL_changes 178 = .ok (.aload_n 0, 1) := by decide +kernel
theorem dL_changes_179 : decode cL_changes 179 = .ok (.invokestatic 238, 3) := by decide +kernel
theorem dL_changes_182 : decode cL_changes 182 = .ok (.ifCond .lt 7, 3) := by decide +kernel
theorem dL_changes_185 : decode cL_changes 185 = .ok (.iconst 1, 1) := by decide +kernel
theorem dL_changes_186 : decode cL_changes 186 = .ok (.goto 4, 3) := by decide +kernel
theorem dL_changes_189 : decode cL_changes 189 = .ok (.iconst 0, 1) := by decide +kernel
theorem dL_changes_190 : decode cL_changes 190 = .ok (.ireturn, 1) := by decide +kernel
theorem dL_changes_191 : decode cL_changes 191 = .ok (.aload_n 0, 1) := by decide +kernel
theorem dL_changes_192 : decode cL_changes 192 = .ok (.iload_n 1, 1) := by decide +kernel
theorem dL_changes_193 : decode cL_changes 193 = .ok (.iconst 4, 1) := by decide +kernel
theorem dL_changes_194 : decode cL_changes 194 = .ok (.ishr, 1) := by decide +kernel
theorem dL_changes_195 : decode cL_changes 195 = .ok (.iload_n 1, 1) := by decide +kernel
theorem dL_changes_196 : decode cL_changes 196 = .ok (.bipush 9, 2) := by decide +kernel
theorem dL_changes_198 : decode cL_changes 198 = .ok (.ishr, 1) := by decide +kernel
theorem dL_changes_199 : decode cL_changes 199 = .ok (.iconst 1, 1) := by decide +kernel
theorem dL_changes_200 : decode cL_changes 200 = .ok (.iand, 1) := by decide +kernel
theorem dL_changes_201 : decode cL_changes 201 = .ok (.ifCond .ne 7, 3) := by decide +kernel
theorem dL_changes_204 : decode cL_changes 204 = .ok (.iconst 4, 1) := by decide +kernel
theorem dL_changes_205 : decode cL_changes 205 = .ok (.goto 5, 3) := by decide +kernel
theorem dL_changes_208 : decode cL_changes 208 = .ok (.bipush 101, 2) := by decide +kernel
theorem dL_changes_210 : decode cL_changes 210 = .ok (.invokestatic 161, 3) := by decide +kernel
theorem dL_changes_213 : decode cL_changes 213 = .ok (.invokestatic 169, 3) := by decide +kernel
theorem dL_changes_216 : decode cL_changes 216 = .ok (.ifCond .lt 7, 3) := by decide +kernel
theorem dL_changes_219 : decode cL_changes 219 = .ok (.iconst 1, 1) := by decide +kernel
theorem dL_changes_220 : decode cL_changes 220 = .ok (.goto 4, 3) := by decide +kernel
theorem dL_changes_223 : decode cL_changes 223 = .ok (.iconst 0, 1) := by decide +kernel
theorem dL_changes_224 : decode cL_changes 224 = .ok (.ireturn, 1) := by decide +kernel
theorem dL_changes_225 : decode cL_changes 225 = .ok (.aload_n 0, 1) := by decide +kernel
theorem dL_changes_226 : decode cL_changes 226 = .ok (.iload_n 1, 1) := by decide +kernel
theorem dL_changes_227 : decode cL_changes 227 = .ok (.bipush 6, 2) := by decide +kernel
theorem dL_changes_229 : decode cL_changes 229 = .ok (.ishr, 1) := by decide +kernel
theorem dL_changes_230 : decode cL_changes 230 = .ok (.iconst 1, 1) := by decide +kernel
theorem dL_changes_231 : decode cL_changes 231 = .ok (.iand, 1) := by decide +kernel
theorem dL_changes_232 : decode cL_changes 232 = .ok (.ifCond .ne 64, 3) := by decide +kernel
theorem dL_changes_235 : decode cL_changes 235 = .ok (.new 240, 3) := by decide +kernel
theorem dL_changes_238 : decode cL_changes 238 = .ok (.dup, 1) := by decide +kernel
theorem dL_changes_239 : decode cL_changes 239 = .ok (.invokespecial 242, 3) := by decide +kernel
theorem dL_changes_242 : decode cL_changes 242 = .ok (.ldc 243, 2) := by decide +kernel
theorem dL_changes_244 : decode cL_changes 244 = .ok (.invokevirtual 245, 3) := by decide +kernel
theorem dL_changes_247 : decode cL_changes 247 = .ok (.iload_n 1, 1) := by decide +kernel
theorem dL_changes_248 : decode cL_changes 248 = .ok (.iconst 4, 1) := by decide +kernel
theorem dL_changes_249 : decode cL_changes 249 = .ok (.ishr, 1) := by decide +kernel
theorem dL_changes_250 : decode cL_changes 250 = .ok (.iconst 4, 1) := by decide +kernel
theorem dL_changes_251 : decode cL_changes 251 = .ok (.invokestatic 161, 3) := by decide +kernel
theorem dL_changes_254 : decode cL_changes 254 = .ok (.invokevirtual 248, 3) := by decide +kernel
theorem dL_changes_257 : decode cL_changes 257 = .ok (.iload_n 1, 1) := by decide +kernel
theorem dL_changes_258 : decode cL_changes 258 = .ok (.bipush 7, 2) := by decide +kernel
theorem dL_changes_260 : decode cL_changes 260 = .ok (.ishr, 1) := by decide +kernel
theorem dL_changes_261 : decode cL_changes 261 = .ok (.iconst 4, 1) := by decide +kernel
theorem dL_changes_262 : decode cL_changes 262 = .ok (.invokestatic 161, 3) := by decide +kernel
theorem dL_changes_265 : decode cL_changes 265 = .ok (.invokevirtual 248, 3) := by decide +kernel
theorem dL_changes_268 : decode cL_changes 268 = .ok (.ldc 251, 2) := by decide +kernel
theorem dL_changes_270 : decode cL_changes 270 = .ok (.invokevirtual 245, 3) := by decide +kernel
theorem dL_changes_273 : decode cL_changes 273 = .ok (.iload_n 1, 1) := by decide +kernel
theorem dL_changes_274 : decode cL_changes 274 = .ok (.bipush 9, 2) := by decide +kernel
theorem dL_changes_276 : decode cL_changes 276 = .ok (.ishr, 1) := by decide +kernel
theorem dL_changes_277 : decode cL_changes 277 = .ok (.bipush 10, 2) := by decide +kernel
theorem dL_changes_279 : decode cL_changes 279 = .ok (.invokestatic 161, 3) := by decide +kernel
theorem dL_changes_282 : decode cL_changes 282 = .ok (.invokevirtual 248, 3) := by decide +kernel
theorem dL_changes_285 : decode cL_changes 285 = .ok (.ldc 253, 2) := by decide +kernel
theorem dL_changes_287 : decode cL_changes 287 = .ok (.invokevirtual 245, 3) := by decide +kernel
theorem dL_changes_290 : decode cL_changes 290 = .ok (.invokevirtual 255, 3) := by decide +kernel
theorem dL_changes_293 : decode cL_changes 293 = .ok (.goto 57, 3) := by decide +kernel
theorem dL_changes_296 : decode cL_changes 296 = .ok (.new 240, 3) := by decide +kernel
theorem dL_changes_299 : decode cL_changes 299 = .ok (.dup, 1) := by decide +kernel
theorem dL_changes_300 : decode cL_changes 300 = .ok (.invokespecial 242, 3) := by decide +kernel
theorem dL_changes_303 : decode cL_changes 303 = .ok (.ldc_w 259, 3) := by decide +kernel
theorem dL_changes_306 : decode cL_changes 306 = .ok (.invokevirtual 245, 3) := by decide +kernel
theorem dL_changes_309 : decode cL_changes 309 = .ok (.iload_n 1, 1) := by decide +kernel
theorem dL_changes_310 : decode cL_changes 310 = .ok (.iconst 4, 1) := by decide +kernel
theorem dL_changes_311 : decode cL_changes 311 = .ok (.ishr, 1) := by decide +kernel
theorem dL_changes_312 : decode cL_changes 312 = .ok (.bipush 9, 2) := by decide +kernel
theorem dL_changes_314 : decode cL_changes 314 = .ok (.invokestatic 161, 3) := by decide +kernel
theorem dL_changes_317 : decode cL_changes 317 = .ok (.invokevirtual 248, 3) := by decide +kernel
theorem dL_changes_320 : decode cL_changes 320 = .ok (.ldc_w 261, 3) := by decide +kernel
theorem dL_changes_323 : decode cL_changes 323 = .ok (.invokevirtual 245, 3) := by decide +kernel
theorem dL_changes_326 : decode cL_changes 326 = .ok (.iload_n 1, 1) := by decide +kernel
theorem dL_changes_327 : decode cL_changes 327 = .ok (.iconst 5, 1) := by decide +kernel
theorem dL_changes_328 : decode cL_changes 328 = .ok (.ishr, 1) := by decide +kernel
theorem dL_changes_329 : decode cL_changes 329 = .ok (.iconst 4, 1) := by decide +kernel
theorem dL_changes_330 : decode cL_changes 330 = .ok (.invokestatic 161, 3) := by decide +kernel
theorem dL_changes_333 : decode cL_changes 333 = .ok (.invokevirtual 248, 3) := by decide +kernel
theorem dL_changes_336 : decode cL_changes 336 = .ok (.iload_n 1, 1) := by decide +kernel
theorem dL_changes_337 : decode cL_changes 337 = .ok (.bipush 7, 2) := by decide +kernel
theorem dL_changes_339 : decode cL_changes 339 = .ok (.ishr, 1) := by decide +kernel
theorem dL_changes_340 : decode cL_changes 340 = .ok (.iconst 4, 1) := by decide +kernel
theorem dL_changes_341 : decode cL_changes 341 = .ok (.invokestatic 161, 3) := by decide +kernel
theorem dL_changes_344 : decode cL_changes 344 = .ok (.invokevirtual 248, 3) := by decide +kernel
theorem dL_changes_347 : decode cL_changes 347 = .ok (.invokevirtual 255, 3) := by decide +kernel
theorem dL_changes_350 : decode cL_changes 350 = .ok (.invokestatic 263, 3) := by decide +kernel
theorem dL_changes_353 : decode cL_changes 353 = .ok (.ifCond .lt 7, 3) := by decide +kernel
theorem dL_changes_356 : decode cL_changes 356 = .ok (.iconst 1, 1) := by decide +kernel
theorem dL_changes_357 : decode cL_changes 357 = .ok (.goto 4, 3) := by decide +kernel
theorem dL_changes_360 : decode cL_changes 360 = .ok (.iconst 0, 1) := by decide +kernel
theorem dL_changes_361 : decode cL_changes 361 = .ok (.ireturn, 1) := by decide +kernel
set_option maxRecDepth 20000 in
theorem ggL_isRange_L_is : GoodIn wsL_isRange wsL_is := goodIn_ca (goodIn_r _ [4, 5, 6, 3, 7, 8, 9, 10, 11, 12, 13, 14, 15, 16, 17, 18, 19, 20, 21, 22, 23, 24, 25, 26, 27, 28, 29] rfl (by decide +kernel)) (goodIn_sub (fun _ h => List.mem_cons_of_mem _ (List.mem_append_right _ h)) (by decide +kernel))
set_option maxRecDepth 20000 in
theorem gL_isRange_L_is : GoodIn wsL_isRange (va_wsS RL 267 yL_is wsL_is) := goodIn_app (goodIn_of _ (by decide +kernel)) ggL_isRange_L_is
theorem dL_isRange_0 : decode cL_isRange 0 = .ok (.iload_n 1, 1) := by decide +kernel
theorem dL_isRange_1 : decode cL_isRange 1 = .ok (.sipush (-1001), 3) := by decide +kernel
theorem dL_isRange_4 : decode cL_isRange 4 = .ok (.if_icmp .ne 16, 3) := by decide +kernel
theorem dL_isRange_7 : decode cL_isRange 7 = .ok (.aload_n 0, 1) := by decide +kernel
theorem dL_isRange_8 : decode cL_isRange 8 = .ok (.iconst 1, 1) := by decide +kernel
theorem dL_isRange_9 : decode cL_isRange 9 = .ok (.iconst 0, 1) := by decide +kernel
theorem dL_isRange_10 : decode cL_isRange 10 = .ok (.invokestatic 267, 3) := by decide +kernel
theorem dL_isRange_13 : decode cL_isRange 13 = .ok (.ifCond .eq 7, 3) := by decide +kernel
theorem dL_isRange_16 : decode cL_isRange 16 = .ok (.iconst 1, 1) := by decide +kernel
theorem dL_isRange_17 : decode cL_isRange 17 = .ok (.goto 4, 3) := by decide +kernel
theorem dL_isRange_20 : decode cL_isRange 20 = .ok (.iconst 0, 1) := by decide +kernel
theorem dL_isRange_21 : decode cL_isRange 21 = .ok (.ireturn, 1) := by decide +kernel
set_option maxRecDepth 20000 in
theorem ggL_refused_L_asks : GoodIn wsL_refused wsL_asks := goodIn_ca (goodIn_ca (goodIn_ca (goodIn_ca (goodIn_ca (goodIn_r _ [4, 5, 6, 7, 8, 9, 10, 11, 3, 12, 13, 14, 15, 16, 17, 18, 19, 20, 21, 22, 23, 24, 25, 26, 27, 28, 29, 30, 31, 32, 33, 34, 35, 36, 37, 38, 39, 40, 41, 42, 43, 44, 45, 46, 47, 48, 49, 50, 51, 52, 53, 54, 55, 56, 57, 58, 59, 60, 61, 62, 63, 64, 65, 66, 67, 68, 69, 70, 71, 72, 73, 74, 75, 76, 77, 78, 79, 80, 81, 82, 83, 84, 85, 86, 87, 88, 89, 90, 91, 92, 93, 94, 95, 96, 97, 98, 99, 100, 101, 102, 103, 104, 105, 106, 107, 108, 109, 110, 111, 112, 113, 114, 115, 116, 117, 118, 119, 120, 121, 122, 123, 124, 125, 126, 127, 128, 129, 130, 131, 132, 133, 134, 135, 136, 137, 138, 139, 140, 141, 142, 143, 144, 145, 146, 147, 148, 149, 150, 151, 152, 153, 154, 155, 156, 157, 158, 159, 160, 161, 162, 163, 164, 165, 166, 167, 168, 169, 170, 171, 172, 173, 174, 175, 176, 177, 178, 179, 180, 181, 182, 183, 184, 185, 186, 187, 188, 189, 190, 191, 192, 193, 194, 195, 196, 197, 198, 199, 200, 201, 202, 203, 204, 205, 206, 207, 208, 209, 210, 211, 212, 213, 214, 215, 216, 217, 218, 219, 220, 221, 222, 223, 224, 225, 226, 227, 228, 229, 230, 231, 232, 233, 234, 235, 236, 237, 238, 239, 240, 241, 242, 243, 244, 245, 246, 247, 248, 249, 250, 251, 252, 253, 254, 255, 256, 257, 258, 259, 260, 261, 262, 263, 264, 265, 266, 267, 268, 269, 270, 271, 272, 273, 274, 275, 276, 277, 278, 279, 280, 281, 282, 283, 284, 285, 286, 287, 288, 289, 290, 291, 292, 293, 294, 295, 296, 297, 298, 299, 300, 301, 302, 303, 304, 305, 306, 307, 308, 309, 310, 311, 312, 313, 314, 315, 316, 317, 318, 319, 320, 321, 322, 323, 324, 325, 326, 327, 328, 329, 330, 331, 332, 333, 334, 335, 336, 337, 338, 339, 340, 341, 342, 343, 344, 345, 346, 347, 348, 349, 350, 351, 352, 353, 354, 355, 356, 357, 358, 359, 360, 361, 362, 363, 364, 365, 366, 367, 368, 369, 370, 371, 372, 373, 374, 375, 376, 377, 378, 379, 380, 381, 382, 383, 384, 385, 386, 387, 388, 389, 390, 391, 392, 393, 394, 395, 396, 397, 398, 399, 400, 401, 402, 403, 404, 405, 406, 407, 408, 409, 410, 411, 412, 413, 414, 415, 416, 417, 418, 419, 420, 421, 422, 423, 424, 425, 426, 427, 428, 429, 430, 431, 432, 433, 434, 435, 436, 437, 438, 439, 440, 441, 442, 443, 444, 445, 446, 447, 448, 449, 450, 451, 452, 453, 454, 455, 456, 457, 458, 459, 460, 461, 462, 463, 464, 465, 466, 467, 468, 469, 470, 471, 472, 473, 474, 475, 476, 477, 478, 479, 480, 481, 482, 483, 484, 485, 486, 487, 488, 489, 490, 491, 492, 493, 494, 495, 496, 497, 498, 499, 500, 501, 502, 503, 504, 505, 506, 507, 508, 509, 510, 511, 512, 513, 514, 515, 516, 517, 518, 519, 520, 521, 522, 523, 524, 525, 526, 527, 528, 529, 530, 531, 532, 533, 534, 535, 536, 537, 538, 539, 540, 541, 542, 543, 544, 545, 546, 547, 548, 549, 550, 551, 552, 553, 554, 555, 556, 557, 558, 559, 560, 561, 562, 563, 564, 565, 566, 567, 568, 569, 570, 571, 572, 573, 574, 575, 576, 577, 578, 579, 580, 581, 582, 583, 584, 585, 586, 587, 588, 589, 590, 591, 592, 593, 594, 595, 596, 597, 598, 599, 600, 601, 602, 603, 604, 605, 606, 607, 608, 609, 610, 611, 612, 613, 614, 615, 616, 617, 618, 619, 620, 621, 622, 623, 624, 625, 626, 627, 628, 629, 630, 631, 632, 633, 634, 635, 636, 637, 638, 639, 640, 641, 642, 643, 644, 645, 646, 647, 648, 649, 650, 651, 652, 653, 654, 655, 656, 657, 658, 659, 660, 661, 662, 663, 664, 665, 666, 667, 668, 669, 670, 671, 672, 673, 674, 675, 676, 677, 678, 679, 680, 681, 682, 683, 684, 685, 686, 687, 688, 689, 690, 691, 692, 693, 694, 695, 696, 697, 698, 699, 700, 701, 702, 703, 704, 705, 706, 707, 708, 709, 710, 711, 712, 713, 714, 715, 716, 717, 718, 719, 720, 721, 722, 723, 724, 725, 726, 727, 728, 729, 730, 731, 732, 733, 734, 991, 992, 993, 994, 995, 996, 997, 998, 999, 1000, 1001, 1002, 1003, 1004, 1005, 1006, 1007, 1008, 1009, 1010, 1011, 1012, 1013, 1014, 1015, 1016, 1017, 1018, 1019, 1020, 1021, 1022, 1023, 1024, 1025, 1026, 1027, 1028, 1029, 1030, 1031, 1032, 1033, 1034, 1035, 1036, 1037, 1038, 1039, 1040, 1041, 1042, 1043, 1044, 1045, 1046, 1047, 1048] rfl (by decide +kernel)) (goodIn_sub (fun _ h => List.mem_cons_of_mem _ (List.mem_append_left _ (List.mem_append_left _ (List.mem_append_left _ (List.mem_append_left _ (List.mem_append_left _ (List.mem_append_left _ (List.mem_append_right _ h)))))))) (by decide +kernel))) (goodIn_sub (fun _ h => List.mem_cons_of_mem _ (List.mem_append_left _ (List.mem_append_left _ (List.mem_append_left _ (List.mem_append_left _ (List.mem_append_left _ (List.mem_append_right _ h))))))) (by decide +kernel))) (goodIn_sub (fun _ h => List.mem_cons_of_mem _ (List.mem_append_left _ (List.mem_append_left _ (List.mem_append_left _ (List.mem_append_left _ (List.mem_append_right _ h)))))) (by decide +kernel))) (goodIn_sub (fun _ h => List.mem_cons_of_mem _ (List.mem_append_left _ (List.mem_append_left _ (List.mem_append_left _ (List.mem_append_right _ h))))) (by decide +kernel))) (goodIn_sub (fun _ h => List.mem_cons_of_mem _ (List.mem_append_left _ (List.mem_append_left _ (List.mem_append_right _ h)))) (by decide +kernel))
set_option maxRecDepth 20000 in
theorem gL_refused_L_asks : GoodIn wsL_refused (va_wsS RL 271 yL_asks wsL_asks) := goodIn_app (goodIn_of _ (by decide +kernel)) ggL_refused_L_asks
set_option maxRecDepth 20000 in
theorem ggL_refused_L_account : GoodIn wsL_refused wsL_account := goodIn_ca (goodIn_ca (goodIn_r _ [79, 80, 81, 82, 83, 18, 84, 85, 86, 22, 87, 88, 23, 24, 25, 26, 27, 28, 29, 30, 31, 32, 33, 34, 35, 36, 37, 38, 39, 40, 89, 90, 91, 92, 93, 94, 95, 96, 97, 98, 99, 100, 101, 102, 103, 104, 105, 106, 107, 108, 109, 110, 111, 112, 113, 114, 115, 116, 117, 118, 119, 120, 121, 122, 123, 124, 125, 126, 127, 128, 129, 130, 131, 132, 133, 134, 135, 136, 137, 138, 139, 991, 992, 993, 994, 995, 996, 997, 998, 999, 1000, 1001, 1002, 1003, 1004, 1005, 1006, 1007, 1008, 1009, 1010, 1011, 1012, 1013, 1014, 1015, 1016, 1017, 1018, 1019, 1020, 1021, 1022, 1023, 1024, 1025, 1026, 1027, 1028, 1029, 1030] rfl (by decide +kernel)) (goodIn_sub (fun _ h => List.mem_cons_of_mem _ (List.mem_append_left _ (List.mem_append_left _ (List.mem_append_left _ (List.mem_append_left _ (List.mem_append_right _ h)))))) (by decide +kernel))) (goodIn_sub (fun _ h => List.mem_cons_of_mem _ (List.mem_append_left _ (List.mem_append_left _ (List.mem_append_left _ (List.mem_append_left _ (List.mem_append_left _ (List.mem_append_right _ h))))))) (by decide +kernel))
set_option maxRecDepth 20000 in
theorem gL_refused_L_account : GoodIn wsL_refused (va_wsS RL 194 yL_account wsL_account) := goodIn_app (goodIn_of _ (by decide +kernel)) ggL_refused_L_account
set_option maxRecDepth 20000 in
theorem ggL_refused_L_canal : GoodIn wsL_refused wsL_canal := goodIn_ca (goodIn_ca (goodIn_r _ [737, 738, 739, 740, 741, 18, 742, 743, 744, 745, 746, 747, 22, 87, 748, 749, 750, 26, 751, 752, 28, 586, 753, 754, 755, 756, 757, 758, 759, 760, 761, 762, 763, 764, 765, 766, 767, 768, 769, 665, 666, 770, 771, 772, 773, 774, 775, 776, 777, 778, 779, 780, 163, 155, 156, 157, 33, 34, 35, 36, 37, 38, 39, 40, 781, 782, 783, 784, 785, 786, 787, 788, 162, 789, 790, 791, 792, 793, 794, 795, 796, 797, 798, 799, 800, 801, 802, 803, 804, 7, 8, 9, 805, 633, 634, 635, 636, 415, 416, 417, 102, 314, 637, 638, 639, 640, 641, 642, 178, 643, 185, 180, 341, 644, 645, 806, 807, 808, 809, 810, 811, 812, 813, 655, 656, 657, 658, 101, 659, 660, 137, 169, 170, 171, 172, 97, 98, 99, 100, 103, 104, 105, 106, 107, 108, 109, 110, 111, 112, 113, 114, 115, 116, 117, 118, 119, 120, 121, 122, 123, 124, 125, 126, 127, 128, 129, 130, 131, 132, 133, 661, 662, 663, 664, 667, 139, 668, 223, 669, 670, 671, 672, 673, 674, 675, 676, 677, 678, 679, 680, 681, 682, 683, 684, 685, 686, 687, 688, 689, 690, 691, 692, 693, 397, 398, 694, 695, 393, 394, 395, 396, 399, 400, 401, 402, 696, 697, 236, 698, 699, 700, 701, 702, 703, 704, 705, 706, 707, 413, 414, 708, 709, 710, 711, 712, 713, 714, 715, 716, 717, 718, 719, 720, 721, 408, 409, 722, 723, 814, 815, 816, 817, 818, 616, 819, 159, 160, 161, 820, 821, 822, 823, 824, 825, 826, 827, 828, 578, 579, 580, 186, 187, 188, 189, 190, 191, 192, 193, 181, 182, 183, 184, 650, 651, 652, 653, 654, 311, 312, 313, 829, 830, 831, 832, 730, 583, 584, 585, 587, 588, 589, 590, 731, 732, 733, 734, 833, 647, 648, 649, 724, 725, 726, 727, 728, 729, 991, 992, 993, 994, 995, 996, 997, 998, 999, 1000, 1001, 1002, 1003, 1004, 1005, 1006, 1007, 1008, 1009, 1010, 1011, 1012, 1013, 1049, 1050, 1051, 1014, 1015, 1016, 1027, 1028, 1029, 1030, 1022, 1023, 1024, 1025, 1026] rfl (by decide +kernel)) (goodIn_sub (fun _ h => List.mem_cons_of_mem _ (List.mem_append_left _ (List.mem_append_left _ (List.mem_append_left _ (List.mem_append_left _ (List.mem_append_left _ (List.mem_append_right _ h))))))) (by decide +kernel))) (goodIn_sub (fun _ h => List.mem_cons_of_mem _ (List.mem_append_left _ (List.mem_append_right _ h))) (by decide +kernel))
set_option maxRecDepth 20000 in
theorem gL_refused_L_canal : GoodIn wsL_refused (va_wsS RL 166 yL_canal wsL_canal) := goodIn_app (goodIn_of _ (by decide +kernel)) ggL_refused_L_canal
set_option maxRecDepth 20000 in
theorem ggL_refused_L_is : GoodIn wsL_refused wsL_is := goodIn_ca (goodIn_r _ [836, 837, 838, 3, 839, 345, 840, 841, 842, 18, 843, 201, 202, 795, 991, 992, 993, 994, 995, 996, 997, 998, 999, 1000, 1049, 1050, 1051] rfl (by decide +kernel)) (goodIn_sub (fun _ h => List.mem_cons_of_mem _ (List.mem_append_left _ (List.mem_append_left _ (List.mem_append_right _ h)))) (by decide +kernel))
set_option maxRecDepth 20000 in
theorem gL_refused_L_is : GoodIn wsL_refused (va_wsS RL 267 yL_is wsL_is) := goodIn_app (goodIn_of _ (by decide +kernel)) ggL_refused_L_is
set_option maxRecDepth 20000 in
theorem ggL_refused_L_isRange : GoodIn wsL_refused wsL_isRange := goodIn_ca (goodIn_r _ [846, 834, 835, 3, 836, 837, 838, 839, 345, 840, 841, 842, 18, 843, 201, 202, 795, 991, 992, 993, 994, 995, 996, 997, 998, 999, 1000, 1049, 1050, 1051] rfl (by decide +kernel)) (goodIn_sub (fun _ h => List.mem_cons_of_mem _ (List.mem_append_left _ (List.mem_append_left _ (List.mem_append_right _ h)))) (by decide +kernel))
set_option maxRecDepth 20000 in
theorem gL_refused_L_isRange : GoodIn wsL_refused (va_wsS RL 275 yL_isRange wsL_isRange) := goodIn_app (goodIn_of _ (by decide +kernel)) ggL_refused_L_isRange
set_option maxRecDepth 20000 in
theorem ggL_refused_L_close : GoodIn wsL_refused wsL_close := goodIn_ca (goodIn_ca (goodIn_r _ [849, 738, 850, 851, 852, 18, 853, 854, 744, 745, 746, 747, 22, 87, 748, 749, 750, 26, 751, 752, 28, 586, 753, 754, 755, 756, 757, 758, 759, 760, 761, 762, 763, 764, 765, 766, 767, 768, 769, 665, 666, 770, 771, 772, 773, 774, 775, 776, 777, 778, 779, 780, 163, 155, 156, 157, 33, 34, 35, 36, 37, 38, 39, 40, 781, 782, 783, 784, 785, 786, 787, 788, 162, 789, 790, 791, 792, 793, 794, 795, 796, 797, 798, 799, 800, 801, 802, 803, 804, 7, 8, 9, 805, 633, 634, 635, 636, 415, 416, 417, 102, 314, 637, 638, 639, 640, 641, 642, 178, 643, 185, 180, 341, 644, 645, 806, 807, 808, 809, 810, 811, 812, 813, 655, 656, 657, 658, 101, 659, 660, 137, 169, 170, 171, 172, 97, 98, 99, 100, 103, 104, 105, 106, 107, 108, 109, 110, 111, 112, 113, 114, 115, 116, 117, 118, 119, 120, 121, 122, 123, 124, 125, 126, 127, 128, 129, 130, 131, 132, 133, 661, 662, 663, 664, 667, 139, 668, 223, 669, 670, 671, 672, 673, 674, 675, 676, 677, 678, 679, 680, 681, 682, 683, 684, 685, 686, 687, 688, 689, 690, 691, 692, 693, 397, 398, 694, 695, 393, 394, 395, 396, 399, 400, 401, 402, 696, 697, 236, 698, 699, 700, 701, 702, 703, 704, 705, 706, 707, 413, 414, 708, 709, 710, 711, 712, 713, 714, 715, 716, 717, 718, 719, 720, 721, 408, 409, 722, 723, 814, 815, 816, 817, 818, 616, 819, 159, 160, 161, 820, 821, 822, 823, 824, 825, 826, 827, 828, 578, 579, 580, 186, 187, 188, 189, 190, 191, 192, 193, 181, 182, 183, 184, 650, 651, 652, 653, 654, 311, 312, 313, 829, 830, 831, 832, 730, 583, 584, 585, 587, 588, 589, 590, 731, 732, 733, 734, 833, 647, 648, 649, 724, 725, 726, 727, 728, 729, 991, 992, 993, 994, 995, 996, 997, 998, 999, 1000, 1001, 1002, 1003, 1004, 1005, 1006, 1007, 1008, 1009, 1010, 1011, 1012, 1013, 1049, 1050, 1051, 1014, 1015, 1016, 1027, 1028, 1029, 1030, 1022, 1023, 1024, 1025, 1026] rfl (by decide +kernel)) (goodIn_sub (fun _ h => List.mem_cons_of_mem _ (List.mem_append_left _ (List.mem_append_left _ (List.mem_append_left _ (List.mem_append_left _ (List.mem_append_left _ (List.mem_append_right _ h))))))) (by decide +kernel))) (goodIn_sub (fun _ h => List.mem_cons_of_mem _ (List.mem_append_left _ (List.mem_append_right _ h))) (by decide +kernel))
set_option maxRecDepth 20000 in
theorem gL_refused_L_close : GoodIn wsL_refused (va_wsS RL 236 yL_close wsL_close) := goodIn_app (goodIn_of _ (by decide +kernel)) ggL_refused_L_close
set_option maxRecDepth 20000 in
theorem ggL_refused_L_district : GoodIn wsL_refused wsL_district := goodIn_ca (goodIn_ca (goodIn_r _ [857, 738, 858, 859, 860, 18, 861, 862, 744, 745, 746, 747, 22, 87, 748, 749, 750, 26, 751, 752, 28, 586, 753, 754, 755, 756, 757, 758, 759, 760, 761, 762, 763, 764, 765, 766, 767, 768, 769, 665, 666, 770, 771, 772, 773, 774, 775, 776, 777, 778, 779, 780, 163, 155, 156, 157, 33, 34, 35, 36, 37, 38, 39, 40, 781, 782, 783, 784, 785, 786, 787, 788, 162, 789, 790, 791, 792, 793, 794, 795, 796, 797, 798, 799, 800, 801, 802, 803, 804, 7, 8, 9, 805, 633, 634, 635, 636, 415, 416, 417, 102, 314, 637, 638, 639, 640, 641, 642, 178, 643, 185, 180, 341, 644, 645, 806, 807, 808, 809, 810, 811, 812, 813, 655, 656, 657, 658, 101, 659, 660, 137, 169, 170, 171, 172, 97, 98, 99, 100, 103, 104, 105, 106, 107, 108, 109, 110, 111, 112, 113, 114, 115, 116, 117, 118, 119, 120, 121, 122, 123, 124, 125, 126, 127, 128, 129, 130, 131, 132, 133, 661, 662, 663, 664, 667, 139, 668, 223, 669, 670, 671, 672, 673, 674, 675, 676, 677, 678, 679, 680, 681, 682, 683, 684, 685, 686, 687, 688, 689, 690, 691, 692, 693, 397, 398, 694, 695, 393, 394, 395, 396, 399, 400, 401, 402, 696, 697, 236, 698, 699, 700, 701, 702, 703, 704, 705, 706, 707, 413, 414, 708, 709, 710, 711, 712, 713, 714, 715, 716, 717, 718, 719, 720, 721, 408, 409, 722, 723, 814, 815, 816, 817, 818, 616, 819, 159, 160, 161, 820, 821, 822, 823, 824, 825, 826, 827, 828, 578, 579, 580, 186, 187, 188, 189, 190, 191, 192, 193, 181, 182, 183, 184, 650, 651, 652, 653, 654, 311, 312, 313, 829, 830, 831, 832, 730, 583, 584, 585, 587, 588, 589, 590, 731, 732, 733, 734, 833, 647, 648, 649, 724, 725, 726, 727, 728, 729, 991, 992, 993, 994, 995, 996, 997, 998, 999, 1000, 1001, 1002, 1003, 1004, 1005, 1006, 1007, 1008, 1009, 1010, 1011, 1012, 1013, 1049, 1050, 1051, 1014, 1015, 1016, 1027, 1028, 1029, 1030, 1022, 1023, 1024, 1025, 1026] rfl (by decide +kernel)) (goodIn_sub (fun _ h => List.mem_cons_of_mem _ (List.mem_append_left _ (List.mem_append_left _ (List.mem_append_left _ (List.mem_append_left _ (List.mem_append_left _ (List.mem_append_right _ h))))))) (by decide +kernel))) (goodIn_sub (fun _ h => List.mem_cons_of_mem _ (List.mem_append_left _ (List.mem_append_right _ h))) (by decide +kernel))
set_option maxRecDepth 20000 in
theorem gL_refused_L_district : GoodIn wsL_refused (va_wsS RL 171 yL_district wsL_district) := goodIn_app (goodIn_of _ (by decide +kernel)) ggL_refused_L_district
set_option maxRecDepth 20000 in
theorem ggL_refused_L_surveyorOf : GoodIn wsL_refused wsL_surveyorOf := goodIn_ca (goodIn_ca (goodIn_ca (goodIn_r _ [142, 143, 144, 145, 146, 18, 147, 85, 86, 22, 148, 149, 150, 151, 152, 153, 154, 155, 156, 26, 157, 28, 158, 159, 160, 161, 162, 163, 164, 98, 99, 100, 101, 102, 38, 39, 40, 103, 104, 105, 106, 107, 108, 109, 110, 111, 112, 113, 114, 115, 116, 117, 118, 119, 120, 121, 122, 123, 124, 125, 126, 127, 128, 129, 130, 131, 132, 133, 165, 166, 167, 168, 169, 170, 171, 172, 37, 173, 30, 31, 32, 33, 34, 35, 36, 174, 94, 95, 96, 97, 134, 135, 136, 137, 138, 139, 175, 176, 177, 178, 179, 180, 181, 182, 183, 184, 185, 186, 187, 188, 189, 190, 191, 192, 193, 991, 992, 993, 994, 995, 996, 997, 998, 999, 1000, 1027, 1028, 1029, 1030, 1001, 1002, 1003, 1004, 1005, 1006, 1007, 1008, 1009, 1010, 1022, 1023, 1024, 1025, 1026, 1011, 1012, 1013] rfl (by decide +kernel)) (goodIn_sub (fun _ h => List.mem_cons_of_mem _ (List.mem_append_left _ (List.mem_append_left _ (List.mem_append_left _ (List.mem_append_left _ (List.mem_append_right _ h)))))) (by decide +kernel))) (goodIn_sub (fun _ h => List.mem_cons_of_mem _ (List.mem_append_left _ (List.mem_append_left _ (List.mem_append_left _ (List.mem_append_right _ h))))) (by decide +kernel))) (goodIn_sub (fun _ h => List.mem_cons_of_mem _ (List.mem_append_left _ (List.mem_append_left _ (List.mem_append_left _ (List.mem_append_left _ (List.mem_append_left _ (List.mem_append_right _ h))))))) (by decide +kernel))
set_option maxRecDepth 20000 in
theorem gL_refused_L_surveyorOf : GoodIn wsL_refused (va_wsS RL 196 yL_surveyorOf wsL_surveyorOf) := goodIn_app (goodIn_of _ (by decide +kernel)) ggL_refused_L_surveyorOf
set_option maxRecDepth 20000 in
theorem ggL_refused_L_pass : GoodIn wsL_refused wsL_pass := goodIn_ca (goodIn_ca (goodIn_r _ [865, 738, 866, 867, 868, 18, 869, 870, 744, 745, 746, 747, 22, 87, 748, 749, 750, 26, 751, 752, 28, 586, 753, 754, 755, 756, 757, 758, 759, 760, 761, 762, 763, 764, 765, 766, 767, 768, 769, 665, 666, 770, 771, 772, 773, 774, 775, 776, 777, 778, 779, 780, 163, 155, 156, 157, 33, 34, 35, 36, 37, 38, 39, 40, 781, 782, 783, 784, 785, 786, 787, 788, 162, 789, 790, 791, 792, 793, 794, 795, 796, 797, 798, 799, 800, 801, 802, 803, 804, 7, 8, 9, 805, 633, 634, 635, 636, 415, 416, 417, 102, 314, 637, 638, 639, 640, 641, 642, 178, 643, 185, 180, 341, 644, 645, 806, 807, 808, 809, 810, 811, 812, 813, 655, 656, 657, 658, 101, 659, 660, 137, 169, 170, 171, 172, 97, 98, 99, 100, 103, 104, 105, 106, 107, 108, 109, 110, 111, 112, 113, 114, 115, 116, 117, 118, 119, 120, 121, 122, 123, 124, 125, 126, 127, 128, 129, 130, 131, 132, 133, 661, 662, 663, 664, 667, 139, 668, 223, 669, 670, 671, 672, 673, 674, 675, 676, 677, 678, 679, 680, 681, 682, 683, 684, 685, 686, 687, 688, 689, 690, 691, 692, 693, 397, 398, 694, 695, 393, 394, 395, 396, 399, 400, 401, 402, 696, 697, 236, 698, 699, 700, 701, 702, 703, 704, 705, 706, 707, 413, 414, 708, 709, 710, 711, 712, 713, 714, 715, 716, 717, 718, 719, 720, 721, 408, 409, 722, 723, 814, 815, 816, 817, 818, 616, 819, 159, 160, 161, 820, 821, 822, 823, 824, 825, 826, 827, 828, 578, 579, 580, 186, 187, 188, 189, 190, 191, 192, 193, 181, 182, 183, 184, 650, 651, 652, 653, 654, 311, 312, 313, 829, 830, 831, 832, 730, 583, 584, 585, 587, 588, 589, 590, 731, 732, 733, 734, 833, 647, 648, 649, 724, 725, 726, 727, 728, 729, 991, 992, 993, 994, 995, 996, 997, 998, 999, 1000, 1001, 1002, 1003, 1004, 1005, 1006, 1007, 1008, 1009, 1010, 1011, 1012, 1013, 1049, 1050, 1051, 1014, 1015, 1016, 1027, 1028, 1029, 1030, 1022, 1023, 1024, 1025, 1026] rfl (by decide +kernel)) (goodIn_sub (fun _ h => List.mem_cons_of_mem _ (List.mem_append_left _ (List.mem_append_left _ (List.mem_append_left _ (List.mem_append_left _ (List.mem_append_left _ (List.mem_append_right _ h))))))) (by decide +kernel))) (goodIn_sub (fun _ h => List.mem_cons_of_mem _ (List.mem_append_left _ (List.mem_append_right _ h))) (by decide +kernel))
set_option maxRecDepth 20000 in
theorem gL_refused_L_pass : GoodIn wsL_refused (va_wsS RL 169 yL_pass wsL_pass) := goodIn_app (goodIn_of _ (by decide +kernel)) ggL_refused_L_pass
set_option maxRecDepth 20000 in
theorem ggL_refused_L_cost : GoodIn wsL_refused wsL_cost := goodIn_ca (goodIn_ca (goodIn_ca (goodIn_r _ [196, 143, 197, 198, 199, 18, 200, 201, 202, 22, 148, 149, 150, 151, 152, 153, 154, 155, 156, 26, 157, 28, 203, 34, 35, 36, 37, 38, 39, 40, 991, 992, 993, 994, 995, 996, 997, 998, 999, 1000, 1001, 1002, 1003, 1004, 1005, 1006, 1007, 1008, 1009, 1010] rfl (by decide +kernel)) (goodIn_sub (fun _ h => List.mem_cons_of_mem _ (List.mem_append_left _ (List.mem_append_left _ (List.mem_append_right _ h)))) (by decide +kernel))) (goodIn_sub (fun _ h => List.mem_cons_of_mem _ (List.mem_append_left _ (List.mem_append_left _ (List.mem_append_left _ (List.mem_append_right _ h))))) (by decide +kernel))) (goodIn_sub (fun _ h => List.mem_cons_of_mem _ (List.mem_append_left _ (List.mem_append_left _ (List.mem_append_left _ (List.mem_append_left _ (List.mem_append_left _ (List.mem_append_right _ h))))))) (by decide +kernel))
set_option maxRecDepth 20000 in
theorem gL_refused_L_cost : GoodIn wsL_refused (va_wsS RL 198 yL_cost wsL_cost) := goodIn_app (goodIn_of _ (by decide +kernel)) ggL_refused_L_cost
set_option maxRecDepth 20000 in
theorem ggL_refused_L_page : GoodIn wsL_refused wsL_page := goodIn_ca (goodIn_ca (goodIn_ca (goodIn_ca (goodIn_r _ [304, 143, 305, 306, 307, 18, 308, 85, 86, 201, 202, 22, 148, 149, 150, 151, 152, 153, 154, 155, 156, 26, 157, 28, 164, 98, 99, 100, 101, 102, 38, 39, 40, 103, 104, 105, 106, 107, 108, 109, 110, 111, 112, 113, 114, 115, 116, 117, 118, 119, 120, 121, 122, 123, 124, 125, 126, 127, 128, 129, 130, 131, 132, 133, 309, 135, 136, 137, 138, 139, 310, 311, 312, 313, 314, 315, 316, 317, 318, 223, 991, 992, 993, 994, 995, 996, 997, 998, 999, 1000, 1027, 1028, 1029, 1030, 1001, 1002, 1003, 1004, 1005, 1006, 1007, 1008, 1009, 1010, 1022, 1023, 1024, 1025, 1026] rfl (by decide +kernel)) (goodIn_sub (fun _ h => List.mem_cons_of_mem _ (List.mem_append_left _ (List.mem_append_left _ (List.mem_append_left _ (List.mem_append_left _ (List.mem_append_right _ h)))))) (by decide +kernel))) (goodIn_sub (fun _ h => List.mem_cons_of_mem _ (List.mem_append_left _ (List.mem_append_left _ (List.mem_append_right _ h)))) (by decide +kernel))) (goodIn_sub (fun _ h => List.mem_cons_of_mem _ (List.mem_append_left _ (List.mem_append_left _ (List.mem_append_left _ (List.mem_append_right _ h))))) (by decide +kernel))) (goodIn_sub (fun _ h => List.mem_cons_of_mem _ (List.mem_append_left _ (List.mem_append_left _ (List.mem_append_left _ (List.mem_append_left _ (List.mem_append_left _ (List.mem_append_right _ h))))))) (by decide +kernel))
set_option maxRecDepth 20000 in
theorem gL_refused_L_page : GoodIn wsL_refused (va_wsS RL 210 yL_page wsL_page) := goodIn_app (goodIn_of _ (by decide +kernel)) ggL_refused_L_page
set_option maxRecDepth 20000 in
theorem ggL_refused_L_told : GoodIn wsL_refused wsL_told := goodIn_ca (goodIn_ca (goodIn_ca (goodIn_r _ [321, 143, 322, 323, 324, 18, 325, 201, 202, 22, 148, 149, 150, 151, 152, 153, 154, 155, 156, 26, 157, 28, 164, 98, 99, 100, 101, 102, 38, 39, 40, 103, 104, 105, 106, 107, 108, 109, 110, 111, 112, 113, 114, 115, 116, 117, 118, 119, 120, 121, 122, 123, 124, 125, 126, 127, 128, 129, 130, 131, 132, 133, 326, 220, 221, 137, 222, 223, 991, 992, 993, 994, 995, 996, 997, 998, 999, 1000, 1001, 1002, 1003, 1004, 1005, 1006, 1007, 1008, 1009, 1010, 1022, 1023, 1024, 1025, 1026, 1027, 1028, 1029, 1030] rfl (by decide +kernel)) (goodIn_sub (fun _ h => List.mem_cons_of_mem _ (List.mem_append_left _ (List.mem_append_left _ (List.mem_append_right _ h)))) (by decide +kernel))) (goodIn_sub (fun _ h => List.mem_cons_of_mem _ (List.mem_append_left _ (List.mem_append_left _ (List.mem_append_left _ (List.mem_append_right _ h))))) (by decide +kernel))) (goodIn_sub (fun _ h => List.mem_cons_of_mem _ (List.mem_append_left _ (List.mem_append_left _ (List.mem_append_left _ (List.mem_append_left _ (List.mem_append_left _ (List.mem_append_right _ h))))))) (by decide +kernel))
set_option maxRecDepth 20000 in
theorem gL_refused_L_told : GoodIn wsL_refused (va_wsS RL 212 yL_told wsL_told) := goodIn_app (goodIn_of _ (by decide +kernel)) ggL_refused_L_told
set_option maxRecDepth 20000 in
theorem ggL_refused_L_letter : GoodIn wsL_refused wsL_letter := goodIn_ca (goodIn_ca (goodIn_ca (goodIn_r _ [571, 80, 572, 573, 574, 18, 575, 85, 86, 201, 202, 22, 576, 187, 188, 178, 189, 180, 577, 578, 579, 580, 185, 186, 190, 191, 192, 193, 581, 182, 183, 184, 582, 583, 584, 26, 585, 101, 586, 587, 588, 589, 590, 103, 104, 105, 106, 107, 108, 109, 110, 111, 112, 113, 114, 115, 116, 117, 118, 119, 120, 121, 122, 123, 124, 125, 126, 127, 128, 129, 130, 131, 132, 133, 991, 992, 993, 994, 995, 996, 997, 998, 999, 1000, 1001, 1002, 1003, 1004, 1005, 1006, 1007, 1008, 1009, 1010, 1027, 1028, 1029, 1030, 1011, 1012, 1013, 1022, 1023, 1024, 1025, 1026] rfl (by decide +kernel)) (goodIn_sub (fun _ h => List.mem_cons_of_mem _ (List.mem_append_left _ (List.mem_append_left _ (List.mem_append_left _ (List.mem_append_left _ (List.mem_append_right _ h)))))) (by decide +kernel))) (goodIn_sub (fun _ h => List.mem_cons_of_mem _ (List.mem_append_left _ (List.mem_append_left _ (List.mem_append_right _ h)))) (by decide +kernel))) (goodIn_sub (fun _ h => List.mem_cons_of_mem _ (List.mem_append_left _ (List.mem_append_left _ (List.mem_append_left _ (List.mem_append_left _ (List.mem_append_left _ (List.mem_append_right _ h))))))) (by decide +kernel))
set_option maxRecDepth 20000 in
theorem gL_refused_L_letter : GoodIn wsL_refused (va_wsS RL 226 yL_letter wsL_letter) := goodIn_app (goodIn_of _ (by decide +kernel)) ggL_refused_L_letter
set_option maxRecDepth 20000 in
theorem ggL_refused_L_distance : GoodIn wsL_refused wsL_distance := goodIn_ca (goodIn_ca (goodIn_ca (goodIn_r _ [206, 143, 207, 208, 209, 18, 210, 211, 22, 148, 149, 150, 151, 152, 153, 154, 155, 156, 26, 157, 28, 212, 213, 214, 215, 216, 217, 218, 98, 99, 100, 101, 102, 38, 39, 40, 103, 104, 105, 106, 107, 108, 109, 110, 111, 112, 113, 114, 115, 116, 117, 118, 119, 120, 121, 122, 123, 124, 125, 126, 127, 128, 129, 130, 131, 132, 133, 219, 220, 221, 137, 222, 223, 224, 225, 226, 227, 228, 229, 230, 231, 232, 233, 234, 235, 236, 237, 238, 239, 240, 241, 242, 243, 244, 245, 246, 247, 248, 249, 250, 251, 252, 201, 202, 253, 991, 992, 993, 994, 995, 996, 997, 998, 999, 1000, 1001, 1002, 1003, 1004, 1005, 1006, 1007, 1008, 1009, 1010, 1031, 1032, 1022, 1023, 1024, 1025, 1026, 1027, 1028, 1029, 1030] rfl (by decide +kernel)) (goodIn_sub (fun _ h => List.mem_cons_of_mem _ (List.mem_append_left _ (List.mem_append_left _ (List.mem_append_left _ (List.mem_append_right _ h))))) (by decide +kernel))) (goodIn_sub (fun _ h => List.mem_cons_of_mem _ (List.mem_append_left _ (List.mem_append_left _ (List.mem_append_left _ (List.mem_append_left _ (List.mem_append_left _ (List.mem_append_right _ h))))))) (by decide +kernel))) (goodIn_sub (fun _ h => List.mem_cons_of_mem _ (List.mem_append_left _ (List.mem_append_left _ (List.mem_append_right _ h)))) (by decide +kernel))
set_option maxRecDepth 20000 in
theorem gL_refused_L_distance : GoodIn wsL_refused (va_wsS RL 200 yL_distance wsL_distance) := goodIn_app (goodIn_of _ (by decide +kernel)) ggL_refused_L_distance
set_option maxRecDepth 20000 in
theorem ggL_refused_L_distanceAgain : GoodIn wsL_refused wsL_distanceAgain := goodIn_ca (goodIn_ca (goodIn_ca (goodIn_r _ [256, 143, 257, 258, 259, 18, 260, 211, 22, 148, 149, 150, 151, 152, 153, 154, 155, 156, 26, 157, 28, 212, 213, 214, 215, 216, 217, 218, 98, 99, 100, 101, 102, 38, 39, 40, 103, 104, 105, 106, 107, 108, 109, 110, 111, 112, 113, 114, 115, 116, 117, 118, 119, 120, 121, 122, 123, 124, 125, 126, 127, 128, 129, 130, 131, 132, 133, 219, 220, 221, 137, 222, 223, 261, 262, 263, 264, 228, 229, 230, 231, 232, 233, 234, 235, 236, 237, 242, 243, 244, 245, 246, 247, 248, 249, 250, 251, 252, 201, 202, 253, 991, 992, 993, 994, 995, 996, 997, 998, 999, 1000, 1001, 1002, 1003, 1004, 1005, 1006, 1007, 1008, 1009, 1010, 1031, 1032, 1022, 1023, 1024, 1025, 1026, 1027, 1028, 1029, 1030] rfl (by decide +kernel)) (goodIn_sub (fun _ h => List.mem_cons_of_mem _ (List.mem_append_left _ (List.mem_append_left _ (List.mem_append_left _ (List.mem_append_right _ h))))) (by decide +kernel))) (goodIn_sub (fun _ h => List.mem_cons_of_mem _ (List.mem_append_left _ (List.mem_append_left _ (List.mem_append_left _ (List.mem_append_left _ (List.mem_append_left _ (List.mem_append_right _ h))))))) (by decide +kernel))) (goodIn_sub (fun _ h => List.mem_cons_of_mem _ (List.mem_append_left _ (List.mem_append_left _ (List.mem_append_right _ h)))) (by decide +kernel))
set_option maxRecDepth 20000 in
theorem gL_refused_L_distanceAgain : GoodIn wsL_refused (va_wsS RL 202 yL_distanceAgain wsL_distanceAgain) := goodIn_app (goodIn_of _ (by decide +kernel)) ggL_refused_L_distanceAgain
set_option maxRecDepth 20000 in
theorem ggL_refused_L_next : GoodIn wsL_refused wsL_next := goodIn_ca (goodIn_ca (goodIn_ca (goodIn_r _ [267, 143, 268, 269, 270, 18, 271, 201, 202, 148, 149, 150, 151, 152, 153, 22, 154, 155, 156, 26, 157, 28, 272, 273, 274, 275, 211, 212, 213, 214, 215, 216, 217, 218, 98, 99, 100, 101, 102, 38, 39, 40, 103, 104, 105, 106, 107, 108, 109, 110, 111, 112, 113, 114, 115, 116, 117, 118, 119, 120, 121, 122, 123, 124, 125, 126, 127, 128, 129, 130, 131, 132, 133, 219, 220, 221, 137, 222, 223, 276, 277, 278, 279, 233, 280, 225, 226, 227, 228, 229, 230, 231, 232, 234, 235, 236, 237, 238, 239, 240, 241, 242, 243, 244, 245, 281, 247, 248, 249, 991, 992, 993, 994, 995, 996, 997, 998, 999, 1000, 1001, 1002, 1003, 1004, 1005, 1006, 1007, 1008, 1009, 1010, 1031, 1032, 1022, 1023, 1024, 1025, 1026, 1027, 1028, 1029, 1030] rfl (by decide +kernel)) (goodIn_sub (fun _ h => List.mem_cons_of_mem _ (List.mem_append_left _ (List.mem_append_left _ (List.mem_append_right _ h)))) (by decide +kernel))) (goodIn_sub (fun _ h => List.mem_cons_of_mem _ (List.mem_append_left _ (List.mem_append_left _ (List.mem_append_left _ (List.mem_append_right _ h))))) (by decide +kernel))) (goodIn_sub (fun _ h => List.mem_cons_of_mem _ (List.mem_append_left _ (List.mem_append_left _ (List.mem_append_left _ (List.mem_append_left _ (List.mem_append_left _ (List.mem_append_right _ h))))))) (by decide +kernel))
set_option maxRecDepth 20000 in
theorem gL_refused_L_next : GoodIn wsL_refused (va_wsS RL 204 yL_next wsL_next) := goodIn_app (goodIn_of _ (by decide +kernel)) ggL_refused_L_next
set_option maxRecDepth 20000 in
theorem ggL_refused_L_reached : GoodIn wsL_refused wsL_reached := goodIn_ca (goodIn_ca (goodIn_r _ [329, 143, 330, 331, 332, 18, 333, 211, 22, 253, 148, 149, 150, 151, 152, 153, 154, 155, 156, 26, 157, 28, 212, 213, 214, 215, 216, 217, 218, 98, 99, 100, 101, 102, 38, 39, 40, 103, 104, 105, 106, 107, 108, 109, 110, 111, 112, 113, 114, 115, 116, 117, 118, 119, 120, 121, 122, 123, 124, 125, 126, 127, 128, 129, 130, 131, 132, 133, 219, 220, 221, 137, 222, 223, 224, 225, 226, 227, 228, 229, 230, 231, 232, 233, 234, 235, 236, 237, 238, 239, 240, 241, 242, 243, 244, 245, 246, 247, 248, 249, 991, 992, 993, 994, 995, 996, 997, 998, 999, 1000, 1001, 1002, 1003, 1004, 1005, 1006, 1007, 1008, 1009, 1010, 1031, 1032, 1022, 1023, 1024, 1025, 1026, 1027, 1028, 1029, 1030] rfl (by decide +kernel)) (goodIn_sub (fun _ h => List.mem_cons_of_mem _ (List.mem_append_left _ (List.mem_append_left _ (List.mem_append_left _ (List.mem_append_right _ h))))) (by decide +kernel))) (goodIn_sub (fun _ h => List.mem_cons_of_mem _ (List.mem_append_left _ (List.mem_append_left _ (List.mem_append_left _ (List.mem_append_left _ (List.mem_append_left _ (List.mem_append_right _ h))))))) (by decide +kernel))
set_option maxRecDepth 20000 in
theorem gL_refused_L_reached : GoodIn wsL_refused (va_wsS RL 214 yL_reached wsL_reached) := goodIn_app (goodIn_of _ (by decide +kernel)) ggL_refused_L_reached
set_option maxRecDepth 20000 in
theorem ggL_refused_L_follow : GoodIn wsL_refused wsL_follow := goodIn_ca (goodIn_ca (goodIn_ca (goodIn_r _ [284, 143, 285, 286, 287, 18, 288, 201, 202, 22, 148, 149, 150, 151, 152, 153, 154, 155, 156, 26, 157, 28, 272, 273, 274, 275, 211, 212, 213, 214, 215, 216, 217, 218, 98, 99, 100, 101, 102, 38, 39, 40, 103, 104, 105, 106, 107, 108, 109, 110, 111, 112, 113, 114, 115, 116, 117, 118, 119, 120, 121, 122, 123, 124, 125, 126, 127, 128, 129, 130, 131, 132, 133, 219, 220, 221, 137, 222, 223, 276, 277, 278, 279, 233, 280, 225, 226, 227, 228, 229, 230, 231, 232, 234, 235, 236, 237, 238, 239, 240, 241, 242, 243, 244, 245, 281, 247, 248, 249, 203, 34, 35, 36, 37, 991, 992, 993, 994, 995, 996, 997, 998, 999, 1000, 1001, 1002, 1003, 1004, 1005, 1006, 1007, 1008, 1009, 1010, 1031, 1032, 1022, 1023, 1024, 1025, 1026, 1027, 1028, 1029, 1030] rfl (by decide +kernel)) (goodIn_sub (fun _ h => List.mem_cons_of_mem _ (List.mem_append_left _ (List.mem_append_left _ (List.mem_append_right _ h)))) (by decide +kernel))) (goodIn_sub (fun _ h => List.mem_cons_of_mem _ (List.mem_append_left _ (List.mem_append_left _ (List.mem_append_left _ (List.mem_append_right _ h))))) (by decide +kernel))) (goodIn_sub (fun _ h => List.mem_cons_of_mem _ (List.mem_append_left _ (List.mem_append_left _ (List.mem_append_left _ (List.mem_append_left _ (List.mem_append_left _ (List.mem_append_right _ h))))))) (by decide +kernel))
set_option maxRecDepth 20000 in
theorem gL_refused_L_follow : GoodIn wsL_refused (va_wsS RL 206 yL_follow wsL_follow) := goodIn_app (goodIn_of _ (by decide +kernel)) ggL_refused_L_follow
set_option maxRecDepth 20000 in
theorem ggL_refused_L_real : GoodIn wsL_refused wsL_real := goodIn_ca (goodIn_ca (goodIn_ca (goodIn_r _ [291, 143, 292, 293, 294, 18, 295, 211, 22, 148, 149, 150, 151, 152, 153, 154, 155, 156, 26, 157, 28, 296, 297, 298, 215, 299, 217, 300, 170, 171, 172, 37, 162, 163, 38, 39, 40, 301, 34, 35, 36, 224, 225, 226, 227, 228, 229, 230, 231, 232, 233, 234, 235, 236, 237, 238, 239, 240, 241, 242, 243, 244, 245, 246, 247, 248, 249, 250, 251, 252, 201, 202, 253, 991, 992, 993, 994, 995, 996, 997, 998, 999, 1000, 1001, 1002, 1003, 1004, 1005, 1006, 1007, 1008, 1009, 1010, 1031, 1032] rfl (by decide +kernel)) (goodIn_sub (fun _ h => List.mem_cons_of_mem _ (List.mem_append_left _ (List.mem_append_left _ (List.mem_append_left _ (List.mem_append_right _ h))))) (by decide +kernel))) (goodIn_sub (fun _ h => List.mem_cons_of_mem _ (List.mem_append_left _ (List.mem_append_left _ (List.mem_append_left _ (List.mem_append_left _ (List.mem_append_left _ (List.mem_append_right _ h))))))) (by decide +kernel))) (goodIn_sub (fun _ h => List.mem_cons_of_mem _ (List.mem_append_left _ (List.mem_append_left _ (List.mem_append_right _ h)))) (by decide +kernel))
set_option maxRecDepth 20000 in
theorem gL_refused_L_real : GoodIn wsL_refused (va_wsS RL 208 yL_real wsL_real) := goodIn_app (goodIn_of _ (by decide +kernel)) ggL_refused_L_real
set_option maxRecDepth 20000 in
theorem ggL_refused_L_right : GoodIn wsL_refused wsL_right := goodIn_ca (goodIn_ca (goodIn_r _ [336, 143, 337, 338, 339, 18, 340, 341, 211, 22, 148, 149, 150, 151, 152, 153, 154, 155, 156, 26, 157, 28, 212, 213, 214, 215, 216, 217, 218, 98, 99, 100, 101, 102, 38, 39, 40, 103, 104, 105, 106, 107, 108, 109, 110, 111, 112, 113, 114, 115, 116, 117, 118, 119, 120, 121, 122, 123, 124, 125, 126, 127, 128, 129, 130, 131, 132, 133, 219, 220, 221, 137, 222, 223, 224, 225, 226, 227, 228, 229, 230, 231, 232, 233, 234, 235, 236, 237, 238, 239, 240, 241, 242, 243, 244, 245, 246, 247, 248, 249, 296, 297, 298, 299, 300, 170, 171, 172, 37, 162, 163, 301, 34, 35, 36, 991, 992, 993, 994, 995, 996, 997, 998, 999, 1000, 1001, 1002, 1003, 1004, 1005, 1006, 1007, 1008, 1009, 1010, 1031, 1032, 1022, 1023, 1024, 1025, 1026, 1027, 1028, 1029, 1030] rfl (by decide +kernel)) (goodIn_sub (fun _ h => List.mem_cons_of_mem _ (List.mem_append_left _ (List.mem_append_left _ (List.mem_append_left _ (List.mem_append_left _ (List.mem_append_left _ (List.mem_append_right _ h))))))) (by decide +kernel))) (goodIn_sub (fun _ h => List.mem_cons_of_mem _ (List.mem_append_left _ (List.mem_append_left _ (List.mem_append_left _ (List.mem_append_right _ h))))) (by decide +kernel))
set_option maxRecDepth 20000 in
theorem gL_refused_L_right : GoodIn wsL_refused (va_wsS RL 216 yL_right wsL_right) := goodIn_app (goodIn_of _ (by decide +kernel)) ggL_refused_L_right
set_option maxRecDepth 20000 in
theorem ggL_refused_L_agree : GoodIn wsL_refused wsL_agree := goodIn_ca (goodIn_ca (goodIn_r _ [593, 80, 594, 595, 596, 18, 597, 22, 598, 599, 600, 85, 86, 158, 159, 160, 26, 161, 162, 163, 155, 156, 157, 28, 601, 602, 603, 604, 97, 98, 99, 100, 101, 102, 38, 39, 40, 103, 104, 105, 106, 107, 108, 109, 110, 111, 112, 113, 114, 115, 116, 117, 118, 119, 120, 121, 122, 123, 124, 125, 126, 127, 128, 129, 130, 131, 132, 133, 991, 992, 993, 994, 995, 996, 997, 998, 999, 1000, 1001, 1002, 1003, 1004, 1005, 1006, 1007, 1008, 1009, 1010, 1027, 1028, 1029, 1030, 1022, 1023, 1024, 1025, 1026] rfl (by decide +kernel)) (goodIn_sub (fun _ h => List.mem_cons_of_mem _ (List.mem_append_left _ (List.mem_append_left _ (List.mem_append_left _ (List.mem_append_left _ (List.mem_append_right _ h)))))) (by decide +kernel))) (goodIn_sub (fun _ h => List.mem_cons_of_mem _ (List.mem_append_left _ (List.mem_append_left _ (List.mem_append_left _ (List.mem_append_left _ (List.mem_append_left _ (List.mem_append_right _ h))))))) (by decide +kernel))
set_option maxRecDepth 20000 in
theorem gL_refused_L_agree : GoodIn wsL_refused (va_wsS RL 228 yL_agree wsL_agree) := goodIn_app (goodIn_of _ (by decide +kernel)) ggL_refused_L_agree
set_option maxRecDepth 20000 in
theorem ggL_refused_L_agreeAgain : GoodIn wsL_refused wsL_agreeAgain := goodIn_ca (goodIn_ca (goodIn_r _ [607, 80, 608, 609, 610, 18, 611, 22, 598, 599, 600, 85, 86, 158, 159, 160, 26, 161, 162, 163, 155, 156, 157, 28, 612, 613, 614, 615, 616, 397, 8, 398, 97, 98, 99, 100, 101, 102, 38, 39, 40, 103, 104, 105, 106, 107, 108, 109, 110, 111, 112, 113, 114, 115, 116, 117, 118, 119, 120, 121, 122, 123, 124, 125, 126, 127, 128, 129, 130, 131, 132, 133, 991, 992, 993, 994, 995, 996, 997, 998, 999, 1000, 1001, 1002, 1003, 1004, 1005, 1006, 1007, 1008, 1009, 1010, 1027, 1028, 1029, 1030, 1022, 1023, 1024, 1025, 1026] rfl (by decide +kernel)) (goodIn_sub (fun _ h => List.mem_cons_of_mem _ (List.mem_append_left _ (List.mem_append_left _ (List.mem_append_left _ (List.mem_append_left _ (List.mem_append_right _ h)))))) (by decide +kernel))) (goodIn_sub (fun _ h => List.mem_cons_of_mem _ (List.mem_append_left _ (List.mem_append_left _ (List.mem_append_left _ (List.mem_append_left _ (List.mem_append_left _ (List.mem_append_right _ h))))))) (by decide +kernel))
set_option maxRecDepth 20000 in
theorem gL_refused_L_agreeAgain : GoodIn wsL_refused (va_wsS RL 230 yL_agreeAgain wsL_agreeAgain) := goodIn_app (goodIn_of _ (by decide +kernel)) ggL_refused_L_agreeAgain
set_option maxRecDepth 20000 in
theorem ggL_refused_L_members : GoodIn wsL_refused wsL_members := goodIn_ca (goodIn_ca (goodIn_r _ [619, 80, 620, 621, 622, 18, 623, 22, 598, 599, 600, 85, 86, 158, 159, 160, 26, 161, 162, 163, 155, 156, 157, 28, 991, 992, 993, 994, 995, 996, 997, 998, 999, 1000, 1001, 1002, 1003, 1004, 1005, 1006, 1007, 1008, 1009, 1010] rfl (by decide +kernel)) (goodIn_sub (fun _ h => List.mem_cons_of_mem _ (List.mem_append_left _ (List.mem_append_left _ (List.mem_append_left _ (List.mem_append_left _ (List.mem_append_right _ h)))))) (by decide +kernel))) (goodIn_sub (fun _ h => List.mem_cons_of_mem _ (List.mem_append_left _ (List.mem_append_left _ (List.mem_append_left _ (List.mem_append_left _ (List.mem_append_left _ (List.mem_append_right _ h))))))) (by decide +kernel))
set_option maxRecDepth 20000 in
theorem gL_refused_L_members : GoodIn wsL_refused (va_wsS RL 232 yL_members wsL_members) := goodIn_app (goodIn_of _ (by decide +kernel)) ggL_refused_L_members
set_option maxRecDepth 20000 in
theorem ggL_refused_L_busiest : GoodIn wsL_refused wsL_busiest := goodIn_ca (goodIn_ca (goodIn_r _ [344, 345, 346, 347, 348, 18, 349, 201, 202, 22, 350, 351, 352, 26, 353, 28, 354, 166, 167, 168, 169, 170, 171, 172, 37, 162, 163, 155, 156, 157, 38, 39, 40, 97, 98, 99, 100, 101, 102, 103, 104, 105, 106, 107, 108, 109, 110, 111, 112, 113, 114, 115, 116, 117, 118, 119, 120, 121, 122, 123, 124, 125, 126, 127, 128, 129, 130, 131, 132, 133, 991, 992, 993, 994, 995, 996, 997, 998, 999, 1000, 1001, 1002, 1003, 1004, 1005, 1006, 1007, 1008, 1009, 1010, 1027, 1028, 1029, 1030, 1022, 1023, 1024, 1025, 1026] rfl (by decide +kernel)) (goodIn_sub (fun _ h => List.mem_cons_of_mem _ (List.mem_append_left _ (List.mem_append_left _ (List.mem_append_right _ h)))) (by decide +kernel))) (goodIn_sub (fun _ h => List.mem_cons_of_mem _ (List.mem_append_left _ (List.mem_append_left _ (List.mem_append_left _ (List.mem_append_left _ (List.mem_append_left _ (List.mem_append_right _ h))))))) (by decide +kernel))
set_option maxRecDepth 20000 in
theorem gL_refused_L_busiest : GoodIn wsL_refused (va_wsS RL 219 yL_busiest wsL_busiest) := goodIn_app (goodIn_of _ (by decide +kernel)) ggL_refused_L_busiest
set_option maxRecDepth 20000 in
theorem ggL_refused_L_line : GoodIn wsL_refused wsL_line := goodIn_ca (goodIn_ca (goodIn_r _ [357, 143, 358, 359, 360, 18, 361, 362, 22, 148, 149, 150, 151, 152, 153, 154, 155, 156, 26, 157, 28, 363, 364, 365, 366, 367, 368, 369, 370, 371, 372, 373, 374, 375, 376, 377, 378, 379, 380, 381, 382, 383, 384, 385, 386, 387, 388, 389, 390, 391, 392, 393, 394, 395, 396, 397, 8, 398, 399, 400, 401, 402, 403, 404, 236, 405, 406, 407, 408, 409, 410, 411, 412, 413, 7, 9, 414, 415, 416, 417, 418, 419, 420, 421, 422, 423, 424, 425, 426, 427, 428, 429, 430, 431, 432, 433, 434, 435, 436, 437, 438, 439, 440, 441, 442, 443, 164, 98, 99, 100, 101, 102, 38, 39, 40, 103, 104, 105, 106, 107, 108, 109, 110, 111, 112, 113, 114, 115, 116, 117, 118, 119, 120, 121, 122, 123, 124, 125, 126, 127, 128, 129, 130, 131, 132, 133, 309, 135, 136, 137, 138, 139, 444, 445, 446, 447, 448, 449, 450, 451, 452, 453, 454, 455, 456, 457, 458, 459, 460, 461, 462, 463, 464, 465, 466, 467, 468, 469, 470, 471, 472, 473, 474, 475, 476, 477, 478, 479, 480, 481, 482, 483, 484, 485, 486, 487, 488, 489, 490, 491, 492, 493, 494, 495, 496, 497, 498, 499, 500, 501, 502, 503, 504, 505, 506, 507, 508, 509, 510, 511, 512, 513, 514, 515, 516, 517, 518, 519, 520, 521, 522, 523, 524, 525, 526, 527, 528, 529, 530, 531, 532, 533, 534, 535, 536, 537, 538, 539, 540, 541, 542, 543, 544, 545, 546, 547, 548, 326, 220, 221, 222, 223, 991, 992, 993, 994, 995, 996, 997, 998, 999, 1000, 1001, 1002, 1003, 1004, 1005, 1006, 1007, 1008, 1009, 1010, 1033, 1034, 1035, 1036, 1037, 1038, 1039, 1040, 1041, 1042, 1043, 1044, 1045, 1046, 1047, 1048, 1022, 1023, 1024, 1025, 1026, 1027, 1028, 1029, 1030] rfl (by decide +kernel)) (goodIn_sub (fun _ h => List.mem_cons_of_mem _ (List.mem_append_left _ (List.mem_append_left _ (List.mem_append_left _ (List.mem_append_right _ h))))) (by decide +kernel))) (goodIn_sub (fun _ h => List.mem_cons_of_mem _ (List.mem_append_left _ (List.mem_append_left _ (List.mem_append_left _ (List.mem_append_left _ (List.mem_append_left _ (List.mem_append_right _ h))))))) (by decide +kernel))
set_option maxRecDepth 20000 in
theorem gL_refused_L_line : GoodIn wsL_refused (va_wsS RL 152 yL_line wsL_line) := goodIn_app (goodIn_of _ (by decide +kernel)) ggL_refused_L_line
set_option maxRecDepth 20000 in
theorem ggL_refused_L_character : GoodIn wsL_refused wsL_character := goodIn_ca (goodIn_r _ [551, 143, 552, 553, 554, 18, 555, 152, 153, 362, 448, 449, 450, 366, 451, 452, 453, 370, 454, 372, 455, 377, 556, 557, 558, 559, 560, 561, 562, 563, 385, 378, 564, 7, 8, 9, 565, 512, 493, 513, 495, 514, 126, 127, 128, 566, 567, 441, 568, 502, 503, 504, 488, 489, 490, 991, 992, 993, 994, 995, 996, 997, 998, 999, 1000, 1039, 1040, 1041, 1042] rfl (by decide +kernel)) (goodIn_sub (fun _ h => List.mem_cons_of_mem _ (List.mem_append_left _ (List.mem_append_left _ (List.mem_append_left _ (List.mem_append_right _ h))))) (by decide +kernel))
set_option maxRecDepth 20000 in
theorem gL_refused_L_character : GoodIn wsL_refused (va_wsS RL 155 yL_character wsL_character) := goodIn_app (goodIn_of _ (by decide +kernel)) ggL_refused_L_character
set_option maxRecDepth 20000 in
theorem ggL_refused_L_reads : GoodIn wsL_refused wsL_reads := goodIn_ca (goodIn_ca (goodIn_ca (goodIn_ca (goodIn_r _ [873, 874, 875, 876, 493, 877, 878, 879, 880, 881, 882, 883, 884, 885, 886, 887, 888, 889, 890, 891, 892, 893, 894, 426, 895, 896, 512, 513, 495, 514, 126, 127, 128, 897, 898, 441, 899, 508, 509, 510, 488, 489, 490, 511, 900, 567, 568, 502, 503, 504, 901, 902, 3, 903, 904, 905, 906, 907, 18, 908, 909, 910, 88, 911, 912, 913, 914, 915, 916, 917, 918, 919, 920, 921, 922, 923, 924, 925, 80, 926, 927, 928, 929, 85, 86, 930, 631, 22, 87, 931, 932, 933, 934, 935, 936, 937, 938, 939, 940, 941, 942, 943, 944, 945, 946, 947, 948, 949, 950, 951, 952, 235, 236, 237, 953, 954, 955, 956, 957, 958, 959, 960, 961, 962, 963, 964, 965, 966, 967, 968, 969, 970, 632, 633, 634, 26, 635, 162, 636, 415, 416, 417, 37, 102, 586, 28, 314, 637, 638, 639, 640, 641, 642, 178, 643, 185, 180, 341, 644, 645, 971, 972, 973, 974, 975, 764, 765, 976, 977, 978, 979, 980, 981, 748, 749, 750, 751, 752, 753, 754, 755, 756, 757, 758, 759, 760, 761, 762, 763, 766, 767, 768, 769, 665, 666, 770, 771, 772, 773, 774, 775, 776, 777, 778, 779, 780, 163, 155, 156, 157, 33, 34, 35, 36, 38, 39, 40, 781, 782, 783, 784, 785, 786, 787, 788, 982, 806, 807, 808, 809, 810, 811, 812, 813, 655, 656, 657, 658, 101, 659, 660, 137, 169, 170, 171, 172, 97, 98, 99, 100, 103, 104, 105, 106, 107, 108, 109, 110, 111, 112, 113, 114, 115, 116, 117, 118, 119, 120, 121, 122, 123, 124, 125, 129, 130, 131, 132, 133, 661, 662, 663, 664, 667, 139, 668, 223, 669, 670, 671, 672, 673, 674, 675, 676, 677, 678, 679, 680, 681, 682, 683, 684, 685, 686, 687, 688, 689, 690, 691, 692, 693, 397, 8, 398, 694, 695, 393, 394, 395, 396, 399, 400, 401, 402, 696, 697, 698, 699, 700, 701, 702, 703, 704, 705, 706, 707, 413, 7, 9, 414, 708, 709, 710, 711, 712, 713, 714, 715, 716, 717, 718, 719, 720, 721, 408, 409, 722, 723, 814, 815, 816, 817, 818, 616, 819, 159, 160, 161, 820, 821, 822, 823, 824, 825, 826, 827, 828, 578, 579, 580, 186, 187, 188, 189, 190, 191, 192, 193, 181, 182, 183, 184, 650, 651, 652, 653, 654, 311, 312, 313, 829, 830, 831, 832, 730, 583, 584, 585, 587, 588, 589, 590, 731, 732, 733, 734, 833, 647, 648, 649, 724, 725, 726, 727, 728, 729, 983, 789, 790, 791, 792, 793, 794, 795, 796, 797, 798, 799, 800, 801, 802, 803, 804, 805, 1052, 1053, 1054, 1055, 991, 992, 993, 994, 995, 996, 997, 998, 999, 1000, 1017, 1018, 1019, 1020, 1021, 1001, 1002, 1003, 1004, 1005, 1006, 1007, 1008, 1009, 1010, 1011, 1012, 1013, 1049, 1050, 1051, 1027, 1028, 1029, 1030, 1022, 1023, 1024, 1025, 1026, 1014, 1015, 1016] rfl (by decide +kernel)) (goodIn_sub (fun _ h => List.mem_cons_of_mem _ (List.mem_append_right _ h)) (by decide +kernel))) (goodIn_sub (fun _ h => List.mem_cons_of_mem _ (List.mem_append_left _ (List.mem_append_left _ (List.mem_append_left _ (List.mem_append_left _ (List.mem_append_left _ (List.mem_append_right _ h))))))) (by decide +kernel))) (goodIn_sub (fun _ h => List.mem_cons_of_mem _ (List.mem_append_left _ (List.mem_append_left _ (List.mem_append_left _ (List.mem_append_left _ (List.mem_append_right _ h)))))) (by decide +kernel))) (goodIn_sub (fun _ h => List.mem_cons_of_mem _ (List.mem_append_left _ (List.mem_append_right _ h))) (by decide +kernel))
set_option maxRecDepth 20000 in
theorem gL_refused_L_reads : GoodIn wsL_refused (va_wsS RL 263 yL_reads wsL_reads) := goodIn_app (goodIn_of _ (by decide +kernel)) ggL_refused_L_reads
set_option maxRecDepth 20000 in
theorem ggL_refused_X10_faultPosition : GoodIn wsL_refused wsX10_faultPosition := goodIn_r _ [987, 930, 991, 992, 993, 994, 995, 996, 997, 998, 999, 1000] rfl (by decide +kernel)
set_option maxRecDepth 20000 in
theorem gL_refused_X10_faultPosition : GoodIn wsL_refused (wsV RL 281 RX10 yX10_faultPosition wsX10_faultPosition) := goodIn_app (goodIn_of _ (by decide +kernel)) ggL_refused_X10_faultPosition
set_option maxRecDepth 20000 in
theorem ggL_refused_L_isEight : GoodIn wsL_refused wsL_isEight := goodIn_ca (goodIn_r _ [990, 837, 838, 3, 839, 345, 840, 841, 842, 18, 843, 201, 202, 795, 991, 992, 993, 994, 995, 996, 997, 998, 999, 1000, 1049, 1050, 1051] rfl (by decide +kernel)) (goodIn_sub (fun _ h => List.mem_cons_of_mem _ (List.mem_append_left _ (List.mem_append_left _ (List.mem_append_right _ h)))) (by decide +kernel))
set_option maxRecDepth 20000 in
theorem gL_refused_L_isEight : GoodIn wsL_refused (va_wsS RL 286 yL_isEight wsL_isEight) := goodIn_app (goodIn_of _ (by decide +kernel)) ggL_refused_L_isEight
theorem dL_refused_0 : decode cL_refused 0 = .ok (.aload_n 0, 1) := by decide +kernel
theorem dL_refused_1 : decode cL_refused 1 = .ok (.invokestatic 271, 3) := by decide +kernel
theorem dL_refused_4 : decode cL_refused 4 = .ok (.lstore_n 1, 1) := by decide +kernel
theorem dL_refused_5 : decode cL_refused 5 = .ok (.aload_n 0, 1) := by decide +kernel
theorem dL_refused_6 : decode cL_refused 6 = .ok (.iconst 1, 1) := by decide +kernel
theorem dL_refused_7 : decode cL_refused 7 = .ok (.invokestatic 194, 3) := by decide +kernel
theorem dL_refused_10 : decode cL_refused 10 = .ok (.istore_n 3, 1) := by decide +kernel
theorem dL_refused_11 : decode cL_refused 11 = .ok (.aload_n 0, 1) := by decide +kernel
theorem dL_refused_12 : decode cL_refused 12 = .ok (.iload_n 3, 1) := by decide +kernel
theorem dL_refused_13 : decode cL_refused 13 = .ok (.iload_n 3, 1) := by decide +kernel
theorem dL_refused_14 : decode cL_refused 14 = .ok (.iconst 0, 1) := by decide +kernel
theorem dL_refused_15 : decode cL_refused 15 = .ok (.invokestatic 166, 3) := by decide +kernel
theorem dL_refused_18 : decode cL_refused 18 = .ok (.sipush (-1001), 3) := by decide +kernel
theorem dL_refused_21 : decode cL_refused 21 = .ok (.if_icmp .ne 273, 3) := by decide +kernel
theorem dL_refused_24 : decode cL_refused 24 = .ok (.aload_n 0, 1) := by decide +kernel
theorem dL_refused_25 : decode cL_refused 25 = .ok (.iconst 3, 1) := by decide +kernel
theorem dL_refused_26 : decode cL_refused 26 = .ok (.iload_n 3, 1) := by decide +kernel
theorem dL_refused_27 : decode cL_refused 27 = .ok (.invokestatic 267, 3) := by decide +kernel
theorem dL_refused_30 : decode cL_refused 30 = .ok (.ifCond .eq 264, 3) := by decide +kernel
theorem dL_refused_33 : decode cL_refused 33 = .ok (.aload_n 0, 1) := by decide +kernel
theorem dL_refused_34 : decode cL_refused 34 = .ok (.iconst 0, 1) := by decide +kernel
theorem dL_refused_35 : decode cL_refused 35 = .ok (.iload_n 3, 1) := by decide +kernel
theorem dL_refused_36 : decode cL_refused 36 = .ok (.iconst 0, 1) := by decide +kernel
theorem dL_refused_37 : decode cL_refused 37 = .ok (.invokestatic 166, 3) := by decide +kernel
theorem dL_refused_40 : decode cL_refused 40 = .ok (.sipush (-1001), 3) := by decide +kernel
theorem dL_refused_43 : decode cL_refused 43 = .ok (.if_icmp .ne 251, 3) := by decide +kernel
theorem dL_refused_46 : decode cL_refused 46 = .ok (.aload_n 0, 1) := by decide +kernel
theorem dL_refused_47 : decode cL_refused 47 = .ok (.iconst 3, 1) := by decide +kernel
theorem dL_refused_48 : decode cL_refused 48 = .ok (.iload_n 3, 1) := by decide +kernel
theorem dL_refused_49 : decode cL_refused 49 = .ok (.invokestatic 267, 3) := by decide +kernel
theorem dL_refused_52 : decode cL_refused 52 = .ok (.ifCond .eq 242, 3) := by decide +kernel
theorem dL_refused_55 : decode cL_refused 55 = .ok (.aload_n 0, 1) := by decide +kernel
theorem dL_refused_56 : decode cL_refused 56 = .ok (.iconst 0, 1) := by decide +kernel
theorem dL_refused_57 : decode cL_refused 57 = .ok (.iconst (-1), 1) := by decide +kernel
theorem dL_refused_58 : decode cL_refused 58 = .ok (.iconst 5, 1) := by decide +kernel
theorem dL_refused_59 : decode cL_refused 59 = .ok (.invokestatic 166, 3) := by decide +kernel
theorem dL_refused_62 : decode cL_refused 62 = .ok (.sipush (-1001), 3) := by decide +kernel
theorem dL_refused_65 : decode cL_refused 65 = .ok (.if_icmp .ne 229, 3) := by decide +kernel
theorem dL_refused_68 : decode cL_refused 68 = .ok (.aload_n 0, 1) := by decide +kernel
theorem dL_refused_69 : decode cL_refused 69 = .ok (.iconst 3, 1) := by decide +kernel
theorem dL_refused_70 : decode cL_refused 70 = .ok (.iconst (-1), 1) := by decide +kernel
theorem dL_refused_71 : decode cL_refused 71 = .ok (.invokestatic 267, 3) := by decide +kernel
theorem dL_refused_74 : decode cL_refused 74 = .ok (.ifCond .eq 220, 3) := by decide +kernel
theorem dL_refused_77 : decode cL_refused 77 = .ok (.aload_n 0, 1) := by decide +kernel
theorem dL_refused_78 : decode cL_refused 78 = .ok (.iconst 1, 1) := by decide +kernel
theorem dL_refused_79 : decode cL_refused 79 = .ok (.iconst 1, 1) := by decide +kernel
theorem dL_refused_80 : decode cL_refused 80 = .ok (.iconst 0, 1) := by decide +kernel
theorem dL_refused_81 : decode cL_refused 81 = .ok (.invokestatic 166, 3) := by decide +kernel
theorem dL_refused_84 : decode cL_refused 84 = .ok (.sipush (-1001), 3) := by decide +kernel
theorem dL_refused_87 : decode cL_refused 87 = .ok (.if_icmp .ne 207, 3) := by decide +kernel
theorem dL_refused_90 : decode cL_refused 90 = .ok (.aload_n 0, 1) := by decide +kernel
theorem dL_refused_91 : decode cL_refused 91 = .ok (.iconst 4, 1) := by decide +kernel
theorem dL_refused_92 : decode cL_refused 92 = .ok (.iconst 1, 1) := by decide +kernel
theorem dL_refused_93 : decode cL_refused 93 = .ok (.invokestatic 267, 3) := by decide +kernel
theorem dL_refused_96 : decode cL_refused 96 = .ok (.ifCond .eq 198, 3) := by decide +kernel
theorem dL_refused_99 : decode cL_refused 99 = .ok (.aload_n 0, 1) := by decide +kernel
theorem dL_refused_100 : decode cL_refused 100 = .ok (.aload_n 0, 1) := by decide +kernel
theorem dL_refused_101 : decode cL_refused 101 = .ok (.iconst 0, 1) := by decide +kernel
theorem dL_refused_102 : decode cL_refused 102 = .ok (.iconst 1, 1) := by decide +kernel
theorem dL_refused_103 : decode cL_refused 103 = .ok (.iconst 0, 1) := by decide +kernel
theorem dL_refused_104 : decode cL_refused 104 = .ok (.invokestatic 166, 3) := by decide +kernel
theorem dL_refused_107 : decode cL_refused 107 = .ok (.invokestatic 275, 3) := by decide +kernel
theorem dL_refused_110 : decode cL_refused 110 = .ok (.ifCond .eq 184, 3) := by decide +kernel
theorem dL_refused_113 : decode cL_refused 113 = .ok (.aload_n 0, 1) := by decide +kernel
theorem dL_refused_114 : decode cL_refused 114 = .ok (.aload_n 0, 1) := by decide +kernel
theorem dL_refused_115 : decode cL_refused 115 = .ok (.iconst 0, 1) := by decide +kernel
theorem dL_refused_116 : decode cL_refused 116 = .ok (.iconst 1, 1) := by decide +kernel
theorem dL_refused_117 : decode cL_refused 117 = .ok (.bipush 10, 2) := by decide +kernel
theorem dL_refused_119 : decode cL_refused 119 = .ok (.invokestatic 166, 3) := by decide +kernel
theorem dL_refused_122 : decode cL_refused 122 = .ok (.invokestatic 275, 3) := by decide +kernel
theorem dL_refused_125 : decode cL_refused 125 = .ok (.ifCond .eq 169, 3) := by decide +kernel
theorem dL_refused_128 : decode cL_refused 128 = .ok (.aload_n 0, 1) := by decide +kernel
theorem dL_refused_129 : decode cL_refused 129 = .ok (.iload_n 3, 1) := by decide +kernel
theorem dL_refused_130 : decode cL_refused 130 = .ok (.iconst 0, 1) := by decide +kernel
theorem dL_refused_131 : decode cL_refused 131 = .ok (.invokestatic 236, 3) := by decide +kernel
theorem dL_refused_134 : decode cL_refused 134 = .ok (.sipush (-1001), 3) := by decide +kernel
theorem dL_refused_137 : decode cL_refused 137 = .ok (.if_icmp .ne 157, 3) := by decide +kernel
theorem dL_refused_140 : decode cL_refused 140 = .ok (.aload_n 0, 1) := by decide +kernel
theorem dL_refused_141 : decode cL_refused 141 = .ok (.iconst 3, 1) := by decide +kernel
theorem dL_refused_142 : decode cL_refused 142 = .ok (.iload_n 3, 1) := by decide +kernel
theorem dL_refused_143 : decode cL_refused 143 = .ok (.invokestatic 267, 3) := by decide +kernel
theorem dL_refused_146 : decode cL_refused 146 = .ok (.ifCond .eq 148, 3) := by decide +kernel
theorem dL_refused_149 : decode cL_refused 149 = .ok (.aload_n 0, 1) := by decide +kernel
theorem dL_refused_150 : decode cL_refused 150 = .ok (.iconst 0, 1) := by decide +kernel
theorem dL_refused_151 : decode cL_refused 151 = .ok (.iconst (-1), 1) := by decide +kernel
theorem dL_refused_152 : decode cL_refused 152 = .ok (.invokestatic 236, 3) := by decide +kernel
theorem dL_refused_155 : decode cL_refused 155 = .ok (.sipush (-1001), 3) := by decide +kernel
theorem dL_refused_158 : decode cL_refused 158 = .ok (.if_icmp .ne 136, 3) := by decide +kernel
theorem dL_refused_161 : decode cL_refused 161 = .ok (.aload_n 0, 1) := by decide +kernel
theorem dL_refused_162 : decode cL_refused 162 = .ok (.iconst 3, 1) := by decide +kernel
theorem dL_refused_163 : decode cL_refused 163 = .ok (.iconst (-1), 1) := by decide +kernel
theorem dL_refused_164 : decode cL_refused 164 = .ok (.invokestatic 267, 3) := by decide +kernel
theorem dL_refused_167 : decode cL_refused 167 = .ok (.ifCond .eq 127, 3) := by decide +kernel
theorem dL_refused_170 : decode cL_refused 170 = .ok (.aload_n 0, 1) := by decide +kernel
theorem dL_refused_171 : decode cL_refused 171 = .ok (.iconst 2, 1) := by decide +kernel
theorem dL_refused_172 : decode cL_refused 172 = .ok (.iconst 2, 1) := by decide +kernel
theorem dL_refused_173 : decode cL_refused 173 = .ok (.invokestatic 236, 3) := by decide +kernel
theorem dL_refused_176 : decode cL_refused 176 = .ok (.sipush (-1001), 3) := by decide +kernel
theorem dL_refused_179 : decode cL_refused 179 = .ok (.if_icmp .ne 115, 3) := by decide +kernel
theorem dL_refused_182 : decode cL_refused 182 = .ok (.aload_n 0, 1) := by decide +kernel
theorem dL_refused_183 : decode cL_refused 183 = .ok (.iconst 4, 1) := by decide +kernel
theorem dL_refused_184 : decode cL_refused 184 = .ok (.iconst 2, 1) := by decide +kernel
theorem dL_refused_185 : decode cL_refused 185 = .ok (.invokestatic 267, 3) := by decide +kernel
theorem dL_refused_188 : decode cL_refused 188 = .ok (.ifCond .eq 106, 3) := by decide +kernel
theorem dL_refused_191 : decode cL_refused 191 = .ok (.aload_n 0, 1) := by decide +kernel
theorem dL_refused_192 : decode cL_refused 192 = .ok (.iload_n 3, 1) := by decide +kernel
theorem dL_refused_193 : decode cL_refused 193 = .ok (.bipush 9, 2) := by decide +kernel
theorem dL_refused_195 : decode cL_refused 195 = .ok (.invokestatic 171, 3) := by decide +kernel
theorem dL_refused_198 : decode cL_refused 198 = .ok (.sipush (-1001), 3) := by decide +kernel
theorem dL_refused_201 : decode cL_refused 201 = .ok (.if_icmp .ne 93, 3) := by decide +kernel
theorem dL_refused_204 : decode cL_refused 204 = .ok (.aload_n 0, 1) := by decide +kernel
theorem dL_refused_205 : decode cL_refused 205 = .ok (.iconst 3, 1) := by decide +kernel
theorem dL_refused_206 : decode cL_refused 206 = .ok (.iload_n 3, 1) := by decide +kernel
theorem dL_refused_207 : decode cL_refused 207 = .ok (.invokestatic 267, 3) := by decide +kernel
theorem dL_refused_210 : decode cL_refused 210 = .ok (.ifCond .eq 84, 3) := by decide +kernel
theorem dL_refused_213 : decode cL_refused 213 = .ok (.aload_n 0, 1) := by decide +kernel
theorem dL_refused_214 : decode cL_refused 214 = .ok (.aload_n 0, 1) := by decide +kernel
theorem dL_refused_215 : decode cL_refused 215 = .ok (.iconst 0, 1) := by decide +kernel
theorem dL_refused_216 : decode cL_refused 216 = .ok (.iconst 3, 1) := by decide +kernel
theorem dL_refused_217 : decode cL_refused 217 = .ok (.invokestatic 171, 3) := by decide +kernel
theorem dL_refused_220 : decode cL_refused 220 = .ok (.invokestatic 275, 3) := by decide +kernel
theorem dL_refused_223 : decode cL_refused 223 = .ok (.ifCond .eq 71, 3) := by decide +kernel
theorem dL_refused_226 : decode cL_refused 226 = .ok (.aload_n 0, 1) := by decide +kernel
theorem dL_refused_227 : decode cL_refused 227 = .ok (.aload_n 0, 1) := by decide +kernel
theorem dL_refused_228 : decode cL_refused 228 = .ok (.iconst 0, 1) := by decide +kernel
theorem dL_refused_229 : decode cL_refused 229 = .ok (.iconst (-1), 1) := by decide +kernel
theorem dL_refused_230 : decode cL_refused 230 = .ok (.invokestatic 171, 3) := by decide +kernel
theorem dL_refused_233 : decode cL_refused 233 = .ok (.invokestatic 275, 3) := by decide +kernel
theorem dL_refused_236 : decode cL_refused 236 = .ok (.ifCond .eq 58, 3) := by decide +kernel
theorem dL_refused_239 : decode cL_refused 239 = .ok (.aload_n 0, 1) := by decide +kernel
theorem dL_refused_240 : decode cL_refused 240 = .ok (.iconst 0, 1) := by decide +kernel
theorem dL_refused_241 : decode cL_refused 241 = .ok (.aload_n 0, 1) := by decide +kernel
theorem dL_refused_242 : decode cL_refused 242 = .ok (.iconst 0, 1) := by decide +kernel
theorem dL_refused_243 : decode cL_refused 243 = .ok (.iconst 0, 1) := by decide +kernel
theorem dL_refused_244 : decode cL_refused 244 = .ok (.invokestatic 196, 3) := by decide +kernel
theorem dL_refused_247 : decode cL_refused 247 = .ok (.invokestatic 171, 3) := by decide +kernel
theorem dL_refused_250 : decode cL_refused 250 = .ok (.sipush (-1001), 3) := by decide +kernel
theorem dL_refused_253 : decode cL_refused 253 = .ok (.if_icmp .ne 41, 3) := by decide +kernel
theorem dL_refused_256 : decode cL_refused 256 = .ok (.aload_n 0, 1) := by decide +kernel
theorem dL_refused_257 : decode cL_refused 257 = .ok (.iconst 5, 1) := by decide +kernel
theorem dL_refused_258 : decode cL_refused 258 = .ok (.iconst 0, 1) := by decide +kernel
theorem dL_refused_259 : decode cL_refused 259 = .ok (.invokestatic 267, 3) := by decide +kernel
theorem dL_refused_262 : decode cL_refused 262 = .ok (.ifCond .eq 32, 3) := by decide +kernel
theorem dL_refused_265 : decode cL_refused 265 = .ok (.aload_n 0, 1) := by decide +kernel
theorem dL_refused_266 : decode cL_refused 266 = .ok (.aload_n 0, 1) := by decide +kernel
theorem dL_refused_267 : decode cL_refused 267 = .ok (.iconst 0, 1) := by decide +kernel
theorem dL_refused_268 : decode cL_refused 268 = .ok (.invokestatic 169, 3) := by decide +kernel
theorem dL_refused_271 : decode cL_refused 271 = .ok (.invokestatic 275, 3) := by decide +kernel
theorem dL_refused_274 : decode cL_refused 274 = .ok (.ifCond .eq 20, 3) := by decide +kernel
theorem dL_refused_277 : decode cL_refused 277 = .ok (.aload_n 0, 1) := by decide +kernel
theorem dL_refused_278 : decode cL_refused 278 = .ok (.aload_n 0, 1) := by decide +kernel
theorem dL_refused_279 : decode cL_refused 279 = .ok (.bipush 100, 2) := by decide +kernel
theorem dL_refused_281 : decode cL_refused 281 = .ok (.invokestatic 169, 3) := by decide +kernel
theorem dL_refused_284 : decode cL_refused 284 = .ok (.invokestatic 275, 3) := by decide +kernel
theorem dL_refused_287 : decode cL_refused 287 = .ok (.ifCond .eq 7, 3) := by decide +kernel
theorem dL_refused_290 : decode cL_refused 290 = .ok (.iconst 1, 1) := by decide +kernel
theorem dL_refused_291 : decode cL_refused 291 = .ok (.goto 4, 3) := by decide +kernel
theorem dL_refused_294 : decode cL_refused 294 = .ok (.iconst 0, 1) := by decide +kernel
theorem dL_refused_295 : decode cL_refused 295 = .ok (.istore 4, 2) := by decide +kernel
theorem dL_refused_297 : decode cL_refused 297 = .ok (.iload 4, 2) := by decide +kernel
theorem dL_refused_299 : decode cL_refused 299 = .ok (.ifCond .eq 455, 3) := by decide +kernel
theorem dL_refused_302 : decode cL_refused 302 = .ok (.aload_n 0, 1) := by decide +kernel
theorem dL_refused_303 : decode cL_refused 303 = .ok (.iload_n 3, 1) := by decide +kernel
theorem dL_refused_304 : decode cL_refused 304 = .ok (.bipush 9, 2) := by decide +kernel
theorem dL_refused_306 : decode cL_refused 306 = .ok (.invokestatic 196, 3) := by decide +kernel
theorem dL_refused_309 : decode cL_refused 309 = .ok (.sipush (-1001), 3) := by decide +kernel
theorem dL_refused_312 : decode cL_refused 312 = .ok (.if_icmp .ne 442, 3) := by decide +kernel
theorem dL_refused_315 : decode cL_refused 315 = .ok (.aload_n 0, 1) := by decide +kernel
theorem dL_refused_316 : decode cL_refused 316 = .ok (.iconst 0, 1) := by decide +kernel
theorem dL_refused_317 : decode cL_refused 317 = .ok (.bipush 6, 2) := by decide +kernel
theorem dL_refused_319 : decode cL_refused 319 = .ok (.invokestatic 196, 3) := by decide +kernel
theorem dL_refused_322 : decode cL_refused 322 = .ok (.sipush (-1002), 3) := by decide +kernel
theorem dL_refused_325 : decode cL_refused 325 = .ok (.if_icmp .ne 429, 3) := by decide +kernel
theorem dL_refused_328 : decode cL_refused 328 = .ok (.aload_n 0, 1) := by decide +kernel
theorem dL_refused_329 : decode cL_refused 329 = .ok (.iconst 0, 1) := by decide +kernel
theorem dL_refused_330 : decode cL_refused 330 = .ok (.iconst (-1), 1) := by decide +kernel
theorem dL_refused_331 : decode cL_refused 331 = .ok (.invokestatic 196, 3) := by decide +kernel
theorem dL_refused_334 : decode cL_refused 334 = .ok (.sipush (-1002), 3) := by decide +kernel
theorem dL_refused_337 : decode cL_refused 337 = .ok (.if_icmp .ne 417, 3) := by decide +kernel
theorem dL_refused_340 : decode cL_refused 340 = .ok (.aload_n 0, 1) := by decide +kernel
theorem dL_refused_341 : decode cL_refused 341 = .ok (.iload_n 3, 1) := by decide +kernel
theorem dL_refused_342 : decode cL_refused 342 = .ok (.iconst 0, 1) := by decide +kernel
theorem dL_refused_343 : decode cL_refused 343 = .ok (.invokestatic 198, 3) := by decide +kernel
theorem dL_refused_346 : decode cL_refused 346 = .ok (.sipush (-1001), 3) := by decide +kernel
theorem dL_refused_349 : decode cL_refused 349 = .ok (.if_icmp .ne 405, 3) := by decide +kernel
theorem dL_refused_352 : decode cL_refused 352 = .ok (.aload_n 0, 1) := by decide +kernel
theorem dL_refused_353 : decode cL_refused 353 = .ok (.iconst 0, 1) := by decide +kernel
theorem dL_refused_354 : decode cL_refused 354 = .ok (.iconst (-1), 1) := by decide +kernel
theorem dL_refused_355 : decode cL_refused 355 = .ok (.invokestatic 198, 3) := by decide +kernel
theorem dL_refused_358 : decode cL_refused 358 = .ok (.sipush (-1001), 3) := by decide +kernel
theorem dL_refused_361 : decode cL_refused 361 = .ok (.if_icmp .ne 393, 3) := by decide +kernel
theorem dL_refused_364 : decode cL_refused 364 = .ok (.aload_n 0, 1) := by decide +kernel
theorem dL_refused_365 : decode cL_refused 365 = .ok (.iconst 0, 1) := by decide +kernel
theorem dL_refused_366 : decode cL_refused 366 = .ok (.iconst 0, 1) := by decide +kernel
theorem dL_refused_367 : decode cL_refused 367 = .ok (.invokestatic 198, 3) := by decide +kernel
theorem dL_refused_370 : decode cL_refused 370 = .ok (.sipush (-1002), 3) := by decide +kernel
theorem dL_refused_373 : decode cL_refused 373 = .ok (.if_icmp .ne 381, 3) := by decide +kernel
theorem dL_refused_376 : decode cL_refused 376 = .ok (.aload_n 0, 1) := by decide +kernel
theorem dL_refused_377 : decode cL_refused 377 = .ok (.iload_n 3, 1) := by decide +kernel
theorem dL_refused_378 : decode cL_refused 378 = .ok (.iconst 0, 1) := by decide +kernel
theorem dL_refused_379 : decode cL_refused 379 = .ok (.bipush 9, 2) := by decide +kernel
theorem dL_refused_381 : decode cL_refused 381 = .ok (.invokestatic 210, 3) := by decide +kernel
theorem dL_refused_384 : decode cL_refused 384 = .ok (.sipush (-1001), 3) := by decide +kernel
theorem dL_refused_387 : decode cL_refused 387 = .ok (.if_icmp .ne 367, 3) := by decide +kernel
theorem dL_refused_390 : decode cL_refused 390 = .ok (.aload_n 0, 1) := by decide +kernel
theorem dL_refused_391 : decode cL_refused 391 = .ok (.iconst 0, 1) := by decide +kernel
theorem dL_refused_392 : decode cL_refused 392 = .ok (.iload_n 3, 1) := by decide +kernel
theorem dL_refused_393 : decode cL_refused 393 = .ok (.bipush 9, 2) := by decide +kernel
theorem dL_refused_395 : decode cL_refused 395 = .ok (.invokestatic 210, 3) := by decide +kernel
theorem dL_refused_398 : decode cL_refused 398 = .ok (.sipush (-1001), 3) := by decide +kernel
theorem dL_refused_401 : decode cL_refused 401 = .ok (.if_icmp .ne 353, 3) := by decide +kernel
theorem dL_refused_404 : decode cL_refused 404 = .ok (.aload_n 0, 1) := by decide +kernel
theorem dL_refused_405 : decode cL_refused 405 = .ok (.iconst 0, 1) := by decide +kernel
theorem dL_refused_406 : decode cL_refused 406 = .ok (.iconst 0, 1) := by decide +kernel
theorem dL_refused_407 : decode cL_refused 407 = .ok (.iconst 3, 1) := by decide +kernel
theorem dL_refused_408 : decode cL_refused 408 = .ok (.invokestatic 210, 3) := by decide +kernel
theorem dL_refused_411 : decode cL_refused 411 = .ok (.sipush (-1002), 3) := by decide +kernel
theorem dL_refused_414 : decode cL_refused 414 = .ok (.if_icmp .ne 340, 3) := by decide +kernel
theorem dL_refused_417 : decode cL_refused 417 = .ok (.aload_n 0, 1) := by decide +kernel
theorem dL_refused_418 : decode cL_refused 418 = .ok (.iconst 0, 1) := by decide +kernel
theorem dL_refused_419 : decode cL_refused 419 = .ok (.iconst 0, 1) := by decide +kernel
theorem dL_refused_420 : decode cL_refused 420 = .ok (.iconst (-1), 1) := by decide +kernel
theorem dL_refused_421 : decode cL_refused 421 = .ok (.invokestatic 210, 3) := by decide +kernel
theorem dL_refused_424 : decode cL_refused 424 = .ok (.sipush (-1002), 3) := by decide +kernel
theorem dL_refused_427 : decode cL_refused 427 = .ok (.if_icmp .ne 327, 3) := by decide +kernel
theorem dL_refused_430 : decode cL_refused 430 = .ok (.aload_n 0, 1) := by decide +kernel
theorem dL_refused_431 : decode cL_refused 431 = .ok (.iload_n 3, 1) := by decide +kernel
theorem dL_refused_432 : decode cL_refused 432 = .ok (.iconst 0, 1) := by decide +kernel
theorem dL_refused_433 : decode cL_refused 433 = .ok (.iconst 0, 1) := by decide +kernel
theorem dL_refused_434 : decode cL_refused 434 = .ok (.invokestatic 212, 3) := by decide +kernel
theorem dL_refused_437 : decode cL_refused 437 = .ok (.sipush (-1001), 3) := by decide +kernel
theorem dL_refused_440 : decode cL_refused 440 = .ok (.if_icmp .ne 314, 3) := by decide +kernel
theorem dL_refused_443 : decode cL_refused 443 = .ok (.aload_n 0, 1) := by decide +kernel
theorem dL_refused_444 : decode cL_refused 444 = .ok (.iconst 0, 1) := by decide +kernel
