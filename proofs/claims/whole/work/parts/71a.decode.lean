/-! ===== the law, decoded ===== -/
theorem xd_0 : decode code 0 = .ok (.new 7, 3) := by decide +kernel
theorem xd_3 : decode code 3 = .ok (.dup, 1) := by decide +kernel
theorem xd_4 : decode code 4 = .ok (.invokespecial 9, 3) := by decide +kernel
theorem xd_7 : decode code 7 = .ok (.astore_n 1, 1) := by decide +kernel
theorem xd_8 : decode code 8 = .ok (.new 10, 3) := by decide +kernel
theorem xd_11 : decode code 11 = .ok (.dup, 1) := by decide +kernel
theorem xd_12 : decode code 12 = .ok (.invokespecial 12, 3) := by decide +kernel
theorem xd_15 : decode code 15 = .ok (.astore_n 2, 1) := by decide +kernel
theorem xd_16 : decode code 16 = .ok (.iconst 0, 1) := by decide +kernel
theorem xd_17 : decode code 17 = .ok (.istore_n 3, 1) := by decide +kernel
theorem xd_18 : decode code 18 = .ok (.iload_n 3, 1) := by decide +kernel
theorem xd_19 : decode code 19 = .ok (.aload_n 0, 1) := by decide +kernel
theorem xd_20 : decode code 20 = .ok (.arraylength, 1) := by decide +kernel
theorem xd_21 : decode code 21 = .ok (.bipush 7, 2) := by decide +kernel
theorem xd_23 : decode code 23 = .ok (.isub, 1) := by decide +kernel
theorem xd_24 : decode code 24 = .ok (.if_icmp .gt 1162, 3) := by decide +kernel
theorem xd_27 : decode code 27 = .ok (.aload_n 0, 1) := by decide +kernel
theorem xd_28 : decode code 28 = .ok (.iload_n 3, 1) := by decide +kernel
theorem xd_29 : decode code 29 = .ok (.iaload, 1) := by decide +kernel
theorem xd_30 : decode code 30 = .ok (.bipush 31, 2) := by decide +kernel
theorem xd_32 : decode code 32 = .ok (.iand, 1) := by decide +kernel
theorem xd_33 : decode code 33 = .ok (.tableswitch 1147 0 29 #[135, 168, 201, 254, 287, 320, 353, 386, 409, 422, 445, 468, 491, 524, 547, 560, 583, 616, 649, 662, 705, 738, 771, 784, 797, 872, 935, 978, 1001, 1084], 135) := by decide +kernel
theorem xd_168 : decode code 168 = .ok (.aload_n 1, 1) := by decide +kernel
theorem xr_169 : xd5 169 1 := by decide +kernel
theorem xr_174 : xd5 174 2 := by decide +kernel
theorem xd_179 : decode code 179 = .ok (.invokevirtual 13, 3) := by decide +kernel
theorem xd_182 : decode code 182 = .ok (.aload_n 2, 1) := by decide +kernel
theorem xr_183 : xd5 183 1 := by decide +kernel
theorem xr_188 : xd5 188 2 := by decide +kernel
theorem xd_193 : decode code 193 = .ok (.invokevirtual 17, 3) := by decide +kernel
theorem xd_196 : decode code 196 = .ok (.if_icmp .eq 984, 3) := by decide +kernel
theorem xd_199 : decode code 199 = .ok (.iconst 0, 1) := by decide +kernel
theorem xd_200 : decode code 200 = .ok (.ireturn, 1) := by decide +kernel
theorem xd_201 : decode code 201 = .ok (.aload_n 1, 1) := by decide +kernel
theorem xr_202 : xd5 202 1 := by decide +kernel
theorem xr_207 : xd5 207 2 := by decide +kernel
theorem xd_212 : decode code 212 = .ok (.invokevirtual 18, 3) := by decide +kernel
theorem xd_215 : decode code 215 = .ok (.aload_n 2, 1) := by decide +kernel
theorem xr_216 : xd5 216 1 := by decide +kernel
theorem xr_221 : xd5 221 2 := by decide +kernel
theorem xd_226 : decode code 226 = .ok (.invokevirtual 21, 3) := by decide +kernel
theorem xd_229 : decode code 229 = .ok (.if_icmp .eq 951, 3) := by decide +kernel
theorem xd_232 : decode code 232 = .ok (.iconst 0, 1) := by decide +kernel
theorem xd_233 : decode code 233 = .ok (.ireturn, 1) := by decide +kernel
theorem xd_234 : decode code 234 = .ok (.aload_n 1, 1) := by decide +kernel
theorem xr_235 : xd5 235 1 := by decide +kernel
theorem xr_240 : xd5 240 2 := by decide +kernel
theorem xr_245 : xd5 245 3 := by decide +kernel
theorem xr_250 : xd5 250 4 := by decide +kernel
theorem xd_255 : decode code 255 = .ok (.invokevirtual 22, 3) := by decide +kernel
theorem xd_258 : decode code 258 = .ok (.aload_n 2, 1) := by decide +kernel
theorem xr_259 : xd5 259 1 := by decide +kernel
theorem xr_264 : xd5 264 2 := by decide +kernel
theorem xr_269 : xd5 269 3 := by decide +kernel
theorem xr_274 : xd5 274 4 := by decide +kernel
theorem xd_279 : decode code 279 = .ok (.invokevirtual 26, 3) := by decide +kernel
theorem xd_282 : decode code 282 = .ok (.if_icmp .eq 898, 3) := by decide +kernel
theorem xd_285 : decode code 285 = .ok (.iconst 0, 1) := by decide +kernel
theorem xd_286 : decode code 286 = .ok (.ireturn, 1) := by decide +kernel
theorem xd_287 : decode code 287 = .ok (.aload_n 1, 1) := by decide +kernel
theorem xr_288 : xd5 288 1 := by decide +kernel
theorem xr_293 : xd5 293 2 := by decide +kernel
theorem xd_298 : decode code 298 = .ok (.invokevirtual 27, 3) := by decide +kernel
theorem xd_301 : decode code 301 = .ok (.aload_n 2, 1) := by decide +kernel
theorem xr_302 : xd5 302 1 := by decide +kernel
theorem xr_307 : xd5 307 2 := by decide +kernel
theorem xd_312 : decode code 312 = .ok (.invokevirtual 30, 3) := by decide +kernel
theorem xd_315 : decode code 315 = .ok (.if_icmp .eq 865, 3) := by decide +kernel
theorem xd_318 : decode code 318 = .ok (.iconst 0, 1) := by decide +kernel
theorem xd_319 : decode code 319 = .ok (.ireturn, 1) := by decide +kernel
theorem xd_320 : decode code 320 = .ok (.aload_n 1, 1) := by decide +kernel
theorem xr_321 : xd5 321 1 := by decide +kernel
theorem xr_326 : xd5 326 2 := by decide +kernel
theorem xd_331 : decode code 331 = .ok (.invokevirtual 31, 3) := by decide +kernel
theorem xd_334 : decode code 334 = .ok (.aload_n 2, 1) := by decide +kernel
theorem xr_335 : xd5 335 1 := by decide +kernel
theorem xr_340 : xd5 340 2 := by decide +kernel
theorem xd_345 : decode code 345 = .ok (.invokevirtual 34, 3) := by decide +kernel
theorem xd_348 : decode code 348 = .ok (.if_icmp .eq 832, 3) := by decide +kernel
theorem xd_351 : decode code 351 = .ok (.iconst 0, 1) := by decide +kernel
theorem xd_352 : decode code 352 = .ok (.ireturn, 1) := by decide +kernel
theorem xd_353 : decode code 353 = .ok (.aload_n 1, 1) := by decide +kernel
theorem xr_354 : xd5 354 1 := by decide +kernel
theorem xr_359 : xd5 359 2 := by decide +kernel
theorem xd_364 : decode code 364 = .ok (.invokevirtual 35, 3) := by decide +kernel
theorem xd_367 : decode code 367 = .ok (.aload_n 2, 1) := by decide +kernel
theorem xr_368 : xd5 368 1 := by decide +kernel
theorem xr_373 : xd5 373 2 := by decide +kernel
theorem xd_378 : decode code 378 = .ok (.invokevirtual 38, 3) := by decide +kernel
theorem xd_381 : decode code 381 = .ok (.if_icmp .eq 799, 3) := by decide +kernel
theorem xd_384 : decode code 384 = .ok (.iconst 0, 1) := by decide +kernel
theorem xd_385 : decode code 385 = .ok (.ireturn, 1) := by decide +kernel
theorem xd_386 : decode code 386 = .ok (.aload_n 1, 1) := by decide +kernel
theorem xr_387 : xd5 387 1 := by decide +kernel
theorem xr_392 : xd5 392 2 := by decide +kernel
theorem xd_397 : decode code 397 = .ok (.invokevirtual 39, 3) := by decide +kernel
theorem xd_400 : decode code 400 = .ok (.aload_n 2, 1) := by decide +kernel
theorem xr_401 : xd5 401 1 := by decide +kernel
theorem xr_406 : xd5 406 2 := by decide +kernel
theorem xd_411 : decode code 411 = .ok (.invokevirtual 42, 3) := by decide +kernel
theorem xd_414 : decode code 414 = .ok (.if_icmp .eq 766, 3) := by decide +kernel
theorem xd_417 : decode code 417 = .ok (.iconst 0, 1) := by decide +kernel
theorem xd_418 : decode code 418 = .ok (.ireturn, 1) := by decide +kernel
theorem xd_419 : decode code 419 = .ok (.aload_n 1, 1) := by decide +kernel
theorem xr_420 : xd5 420 1 := by decide +kernel
theorem xd_425 : decode code 425 = .ok (.invokevirtual 43, 3) := by decide +kernel
theorem xd_428 : decode code 428 = .ok (.aload_n 2, 1) := by decide +kernel
theorem xr_429 : xd5 429 1 := by decide +kernel
theorem xd_434 : decode code 434 = .ok (.invokevirtual 47, 3) := by decide +kernel
theorem xd_437 : decode code 437 = .ok (.if_icmp .eq 743, 3) := by decide +kernel
theorem xd_440 : decode code 440 = .ok (.iconst 0, 1) := by decide +kernel
theorem xd_441 : decode code 441 = .ok (.ireturn, 1) := by decide +kernel
theorem xd_442 : decode code 442 = .ok (.aload_n 1, 1) := by decide +kernel
theorem xd_443 : decode code 443 = .ok (.invokevirtual 48, 3) := by decide +kernel
theorem xd_446 : decode code 446 = .ok (.aload_n 2, 1) := by decide +kernel
theorem xd_447 : decode code 447 = .ok (.invokevirtual 52, 3) := by decide +kernel
theorem xd_450 : decode code 450 = .ok (.if_icmp .eq 730, 3) := by decide +kernel
theorem xd_453 : decode code 453 = .ok (.iconst 0, 1) := by decide +kernel
theorem xd_454 : decode code 454 = .ok (.ireturn, 1) := by decide +kernel
theorem xd_455 : decode code 455 = .ok (.aload_n 1, 1) := by decide +kernel
