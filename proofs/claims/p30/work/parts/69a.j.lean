section JN11_0
theorem tcL_law_0 : (cL_law.data.toList.drop 0).take 12 = [187, 0, 7, 89, 183, 0, 9, 76, 187, 0, 10, 89] := by decide +kernel
theorem dL_law_0 : decode cL_law 0 = .ok (.new 7, 3) := dk_1187 (dk_g tcL_law_0 0 rfl) (dk_g tcL_law_0 1 rfl) (dk_g tcL_law_0 2 rfl) rfl
theorem dL_law_3 : decode cL_law 3 = .ok (.dup, 1) := dk_1089 (dk_g tcL_law_0 3 rfl)
theorem dL_law_4 : decode cL_law 4 = .ok (.invokespecial 9, 3) := dk_1183 (dk_g tcL_law_0 4 rfl) (dk_g tcL_law_0 5 rfl) (dk_g tcL_law_0 6 rfl) rfl
theorem dL_law_7 : decode cL_law 7 = .ok (.astore_n 1, 1) := dk_1076 (dk_g tcL_law_0 7 rfl)
theorem dL_law_8 : decode cL_law 8 = .ok (.new 10, 3) := dk_1187 (dk_g tcL_law_0 8 rfl) (dk_g tcL_law_0 9 rfl) (dk_g tcL_law_0 10 rfl) rfl
theorem dL_law_11 : decode cL_law 11 = .ok (.dup, 1) := dk_1089 (dk_g tcL_law_0 11 rfl)
theorem tcL_law_1 : (cL_law.data.toList.drop 12).take 12 = [183, 0, 12, 77, 3, 62, 29, 42, 190, 16, 6, 100] := by decide +kernel
theorem dL_law_12 : decode cL_law 12 = .ok (.invokespecial 12, 3) := dk_1183 (dk_g tcL_law_1 0 rfl) (dk_g tcL_law_1 1 rfl) (dk_g tcL_law_1 2 rfl) rfl
theorem dL_law_15 : decode cL_law 15 = .ok (.astore_n 2, 1) := dk_1077 (dk_g tcL_law_1 3 rfl)
theorem dL_law_16 : decode cL_law 16 = .ok (.iconst 0, 1) := dk_1003 (dk_g tcL_law_1 4 rfl)
theorem dL_law_17 : decode cL_law 17 = .ok (.istore_n 3, 1) := dk_1062 (dk_g tcL_law_1 5 rfl)
theorem dL_law_18 : decode cL_law 18 = .ok (.iload_n 3, 1) := dk_1029 (dk_g tcL_law_1 6 rfl)
theorem dL_law_19 : decode cL_law 19 = .ok (.aload_n 0, 1) := dk_1042 (dk_g tcL_law_1 7 rfl)
theorem dL_law_20 : decode cL_law 20 = .ok (.arraylength, 1) := dk_1190 (dk_g tcL_law_1 8 rfl)
theorem dL_law_21 : decode cL_law 21 = .ok (.bipush 6, 2) := dk_1016 (dk_g tcL_law_1 9 rfl) (dk_g tcL_law_1 10 rfl) (by decide +kernel)
theorem dL_law_23 : decode cL_law 23 = .ok (.isub, 1) := dk_1100 (dk_g tcL_law_1 11 rfl)
theorem tcL_law_2 : (cL_law.data.toList.drop 24).take 12 = [163, 9, 69, 42, 29, 46, 16, 63, 126, 170, 0, 0] := by decide +kernel
theorem dL_law_24 : decode cL_law 24 = .ok (.if_icmp .gt 2373, 3) := dk_2163 (dk_g tcL_law_2 0 rfl) (dk_g tcL_law_2 1 rfl) (dk_g tcL_law_2 2 rfl) rfl rfl
theorem dL_law_27 : decode cL_law 27 = .ok (.aload_n 0, 1) := dk_1042 (dk_g tcL_law_2 3 rfl)
theorem dL_law_28 : decode cL_law 28 = .ok (.iload_n 3, 1) := dk_1029 (dk_g tcL_law_2 4 rfl)
theorem dL_law_29 : decode cL_law 29 = .ok (.iaload, 1) := dk_1046 (dk_g tcL_law_2 5 rfl)
theorem dL_law_30 : decode cL_law 30 = .ok (.bipush 63, 2) := dk_1016 (dk_g tcL_law_2 6 rfl) (dk_g tcL_law_2 7 rfl) (by decide +kernel)
theorem dL_law_32 : decode cL_law 32 = .ok (.iand, 1) := dk_1126 (dk_g tcL_law_2 8 rfl)
theorem dL_law_33 : decode cL_law 33 = .ok (.tableswitch 2358 0 58 #[251, 264, 327, 350, 373, 396, 419, 452, 475, 498, 541, 574, 607, 620, 653, 686, 709, 742, 765, 808, 851, 904, 927, 960, 983, 1006, 1049, 1092, 1135, 1168, 1201, 1254, 1307, 1350, 1363, 1396, 1429, 1462, 1495, 1548, 1581, 1614, 1657, 1690, 1743, 1806, 1869, 1922, 1975, 2028, 2071, 2094, 2127, 2150, 2193, 2236, 2259, 2292, 2325], 251) := by decide +kernel
set_option maxRecDepth 100000 in
noncomputable def tzcL_law_1 : { l : List UInt8 // List.drop 192 (cL_law.data.toList) = l } := by
  constructor
  conv => lhs; whnf
theorem tycL_law_1 : cL_law.data.toList.drop 192 = tzcL_law_1.1 := tzcL_law_1.2
theorem tcL_law_23 : (cL_law.data.toList.drop 276).take 12 = [0, 0, 8, 244, 0, 0, 9, 21, 43, 182, 0, 13] := dk_h tycL_law_1 84 (by decide +kernel)
theorem dL_law_284 : decode cL_law 284 = .ok (.aload_n 1, 1) := dk_1043 (dk_g tcL_law_23 8 rfl)
theorem dL_law_285 : decode cL_law 285 = .ok (.invokevirtual 13, 3) := dk_1182 (dk_g tcL_law_23 9 rfl) (dk_g tcL_law_23 10 rfl) (dk_g tcL_law_23 11 rfl) rfl
theorem tcL_law_24 : (cL_law.data.toList.drop 288).take 12 = [87, 44, 182, 0, 17, 87, 167, 8, 49, 43, 42, 29] := dk_h tycL_law_1 96 (by decide +kernel)
theorem dL_law_288 : decode cL_law 288 = .ok (.pop, 1) := dk_1087 (dk_g tcL_law_24 0 rfl)
theorem dL_law_289 : decode cL_law 289 = .ok (.aload_n 2, 1) := dk_1044 (dk_g tcL_law_24 1 rfl)
theorem dL_law_290 : decode cL_law 290 = .ok (.invokevirtual 17, 3) := dk_1182 (dk_g tcL_law_24 2 rfl) (dk_g tcL_law_24 3 rfl) (dk_g tcL_law_24 4 rfl) rfl
theorem dL_law_293 : decode cL_law 293 = .ok (.pop, 1) := dk_1087 (dk_g tcL_law_24 5 rfl)
theorem dL_law_294 : decode cL_law 294 = .ok (.goto 2097, 3) := dk_2167 (dk_g tcL_law_24 6 rfl) (dk_g tcL_law_24 7 rfl) (dk_g tcL_law_24 8 rfl) rfl rfl
theorem dL_law_297 : decode cL_law 297 = .ok (.aload_n 1, 1) := dk_1043 (dk_g tcL_law_24 9 rfl)
theorem dL_law_298 : decode cL_law 298 = .ok (.aload_n 0, 1) := dk_1042 (dk_g tcL_law_24 10 rfl)
theorem dL_law_299 : decode cL_law 299 = .ok (.iload_n 3, 1) := dk_1029 (dk_g tcL_law_24 11 rfl)
theorem tcL_law_25 : (cL_law.data.toList.drop 300).take 12 = [4, 96, 46, 42, 29, 5, 96, 46, 42, 29, 6, 96] := dk_h tycL_law_1 108 (by decide +kernel)
theorem dL_law_300 : decode cL_law 300 = .ok (.iconst 1, 1) := dk_1004 (dk_g tcL_law_25 0 rfl)
theorem dL_law_301 : decode cL_law 301 = .ok (.iadd, 1) := dk_1096 (dk_g tcL_law_25 1 rfl)
theorem dL_law_302 : decode cL_law 302 = .ok (.iaload, 1) := dk_1046 (dk_g tcL_law_25 2 rfl)
theorem dL_law_303 : decode cL_law 303 = .ok (.aload_n 0, 1) := dk_1042 (dk_g tcL_law_25 3 rfl)
theorem dL_law_304 : decode cL_law 304 = .ok (.iload_n 3, 1) := dk_1029 (dk_g tcL_law_25 4 rfl)
theorem dL_law_305 : decode cL_law 305 = .ok (.iconst 2, 1) := dk_1005 (dk_g tcL_law_25 5 rfl)
theorem dL_law_306 : decode cL_law 306 = .ok (.iadd, 1) := dk_1096 (dk_g tcL_law_25 6 rfl)
theorem dL_law_307 : decode cL_law 307 = .ok (.iaload, 1) := dk_1046 (dk_g tcL_law_25 7 rfl)
theorem dL_law_308 : decode cL_law 308 = .ok (.aload_n 0, 1) := dk_1042 (dk_g tcL_law_25 8 rfl)
theorem dL_law_309 : decode cL_law 309 = .ok (.iload_n 3, 1) := dk_1029 (dk_g tcL_law_25 9 rfl)
theorem dL_law_310 : decode cL_law 310 = .ok (.iconst 3, 1) := dk_1006 (dk_g tcL_law_25 10 rfl)
theorem dL_law_311 : decode cL_law 311 = .ok (.iadd, 1) := dk_1096 (dk_g tcL_law_25 11 rfl)
theorem tcL_law_26 : (cL_law.data.toList.drop 312).take 12 = [46, 42, 29, 7, 96, 46, 42, 29, 8, 96, 46, 182] := dk_h tycL_law_1 120 (by decide +kernel)
theorem dL_law_312 : decode cL_law 312 = .ok (.iaload, 1) := dk_1046 (dk_g tcL_law_26 0 rfl)
theorem dL_law_313 : decode cL_law 313 = .ok (.aload_n 0, 1) := dk_1042 (dk_g tcL_law_26 1 rfl)
theorem dL_law_314 : decode cL_law 314 = .ok (.iload_n 3, 1) := dk_1029 (dk_g tcL_law_26 2 rfl)
theorem dL_law_315 : decode cL_law 315 = .ok (.iconst 4, 1) := dk_1007 (dk_g tcL_law_26 3 rfl)
theorem dL_law_316 : decode cL_law 316 = .ok (.iadd, 1) := dk_1096 (dk_g tcL_law_26 4 rfl)
theorem dL_law_317 : decode cL_law 317 = .ok (.iaload, 1) := dk_1046 (dk_g tcL_law_26 5 rfl)
theorem dL_law_318 : decode cL_law 318 = .ok (.aload_n 0, 1) := dk_1042 (dk_g tcL_law_26 6 rfl)
theorem dL_law_319 : decode cL_law 319 = .ok (.iload_n 3, 1) := dk_1029 (dk_g tcL_law_26 7 rfl)
theorem dL_law_320 : decode cL_law 320 = .ok (.iconst 5, 1) := dk_1008 (dk_g tcL_law_26 8 rfl)
theorem dL_law_321 : decode cL_law 321 = .ok (.iadd, 1) := dk_1096 (dk_g tcL_law_26 9 rfl)
theorem dL_law_322 : decode cL_law 322 = .ok (.iaload, 1) := dk_1046 (dk_g tcL_law_26 10 rfl)
theorem tcL_law_27 : (cL_law.data.toList.drop 324).take 12 = [0, 18, 87, 44, 42, 29, 4, 96, 46, 42, 29, 5] := dk_h tycL_law_1 132 (by decide +kernel)
theorem dL_law_323 : decode cL_law 323 = .ok (.invokevirtual 18, 3) := dk_1182 (dk_g tcL_law_26 11 rfl) (dk_g tcL_law_27 0 rfl) (dk_g tcL_law_27 1 rfl) rfl
theorem dL_law_326 : decode cL_law 326 = .ok (.pop, 1) := dk_1087 (dk_g tcL_law_27 2 rfl)
theorem dL_law_327 : decode cL_law 327 = .ok (.aload_n 2, 1) := dk_1044 (dk_g tcL_law_27 3 rfl)
theorem dL_law_328 : decode cL_law 328 = .ok (.aload_n 0, 1) := dk_1042 (dk_g tcL_law_27 4 rfl)
theorem dL_law_329 : decode cL_law 329 = .ok (.iload_n 3, 1) := dk_1029 (dk_g tcL_law_27 5 rfl)
theorem dL_law_330 : decode cL_law 330 = .ok (.iconst 1, 1) := dk_1004 (dk_g tcL_law_27 6 rfl)
theorem dL_law_331 : decode cL_law 331 = .ok (.iadd, 1) := dk_1096 (dk_g tcL_law_27 7 rfl)
theorem dL_law_332 : decode cL_law 332 = .ok (.iaload, 1) := dk_1046 (dk_g tcL_law_27 8 rfl)
theorem dL_law_333 : decode cL_law 333 = .ok (.aload_n 0, 1) := dk_1042 (dk_g tcL_law_27 9 rfl)
theorem dL_law_334 : decode cL_law 334 = .ok (.iload_n 3, 1) := dk_1029 (dk_g tcL_law_27 10 rfl)
theorem dL_law_335 : decode cL_law 335 = .ok (.iconst 2, 1) := dk_1005 (dk_g tcL_law_27 11 rfl)
theorem tcL_law_28 : (cL_law.data.toList.drop 336).take 12 = [96, 46, 42, 29, 6, 96, 46, 42, 29, 7, 96, 46] := dk_h tycL_law_1 144 (by decide +kernel)
theorem dL_law_336 : decode cL_law 336 = .ok (.iadd, 1) := dk_1096 (dk_g tcL_law_28 0 rfl)
theorem dL_law_337 : decode cL_law 337 = .ok (.iaload, 1) := dk_1046 (dk_g tcL_law_28 1 rfl)
theorem dL_law_338 : decode cL_law 338 = .ok (.aload_n 0, 1) := dk_1042 (dk_g tcL_law_28 2 rfl)
theorem dL_law_339 : decode cL_law 339 = .ok (.iload_n 3, 1) := dk_1029 (dk_g tcL_law_28 3 rfl)
theorem dL_law_340 : decode cL_law 340 = .ok (.iconst 3, 1) := dk_1006 (dk_g tcL_law_28 4 rfl)
theorem dL_law_341 : decode cL_law 341 = .ok (.iadd, 1) := dk_1096 (dk_g tcL_law_28 5 rfl)
theorem dL_law_342 : decode cL_law 342 = .ok (.iaload, 1) := dk_1046 (dk_g tcL_law_28 6 rfl)
theorem dL_law_343 : decode cL_law 343 = .ok (.aload_n 0, 1) := dk_1042 (dk_g tcL_law_28 7 rfl)
theorem dL_law_344 : decode cL_law 344 = .ok (.iload_n 3, 1) := dk_1029 (dk_g tcL_law_28 8 rfl)
theorem dL_law_345 : decode cL_law 345 = .ok (.iconst 4, 1) := dk_1007 (dk_g tcL_law_28 9 rfl)
theorem dL_law_346 : decode cL_law 346 = .ok (.iadd, 1) := dk_1096 (dk_g tcL_law_28 10 rfl)
theorem dL_law_347 : decode cL_law 347 = .ok (.iaload, 1) := dk_1046 (dk_g tcL_law_28 11 rfl)
theorem tcL_law_29 : (cL_law.data.toList.drop 348).take 12 = [42, 29, 8, 96, 46, 182, 0, 22, 87, 167, 7, 242] := dk_h tycL_law_1 156 (by decide +kernel)
theorem dL_law_348 : decode cL_law 348 = .ok (.aload_n 0, 1) := dk_1042 (dk_g tcL_law_29 0 rfl)
theorem dL_law_349 : decode cL_law 349 = .ok (.iload_n 3, 1) := dk_1029 (dk_g tcL_law_29 1 rfl)
theorem dL_law_350 : decode cL_law 350 = .ok (.iconst 5, 1) := dk_1008 (dk_g tcL_law_29 2 rfl)
theorem dL_law_351 : decode cL_law 351 = .ok (.iadd, 1) := dk_1096 (dk_g tcL_law_29 3 rfl)
theorem dL_law_352 : decode cL_law 352 = .ok (.iaload, 1) := dk_1046 (dk_g tcL_law_29 4 rfl)
theorem dL_law_353 : decode cL_law 353 = .ok (.invokevirtual 22, 3) := dk_1182 (dk_g tcL_law_29 5 rfl) (dk_g tcL_law_29 6 rfl) (dk_g tcL_law_29 7 rfl) rfl
theorem dL_law_356 : decode cL_law 356 = .ok (.pop, 1) := dk_1087 (dk_g tcL_law_29 8 rfl)
theorem dL_law_357 : decode cL_law 357 = .ok (.goto 2034, 3) := dk_2167 (dk_g tcL_law_29 9 rfl) (dk_g tcL_law_29 10 rfl) (dk_g tcL_law_29 11 rfl) rfl rfl
theorem tcL_law_30 : (cL_law.data.toList.drop 360).take 12 = [43, 42, 29, 4, 96, 46, 182, 0, 23, 87, 44, 42] := dk_h tycL_law_1 168 (by decide +kernel)
theorem dL_law_360 : decode cL_law 360 = .ok (.aload_n 1, 1) := dk_1043 (dk_g tcL_law_30 0 rfl)
theorem dL_law_361 : decode cL_law 361 = .ok (.aload_n 0, 1) := dk_1042 (dk_g tcL_law_30 1 rfl)
theorem dL_law_362 : decode cL_law 362 = .ok (.iload_n 3, 1) := dk_1029 (dk_g tcL_law_30 2 rfl)
theorem dL_law_363 : decode cL_law 363 = .ok (.iconst 1, 1) := dk_1004 (dk_g tcL_law_30 3 rfl)
theorem dL_law_364 : decode cL_law 364 = .ok (.iadd, 1) := dk_1096 (dk_g tcL_law_30 4 rfl)
theorem dL_law_365 : decode cL_law 365 = .ok (.iaload, 1) := dk_1046 (dk_g tcL_law_30 5 rfl)
theorem dL_law_366 : decode cL_law 366 = .ok (.invokevirtual 23, 3) := dk_1182 (dk_g tcL_law_30 6 rfl) (dk_g tcL_law_30 7 rfl) (dk_g tcL_law_30 8 rfl) rfl
theorem dL_law_369 : decode cL_law 369 = .ok (.pop, 1) := dk_1087 (dk_g tcL_law_30 9 rfl)
theorem dL_law_370 : decode cL_law 370 = .ok (.aload_n 2, 1) := dk_1044 (dk_g tcL_law_30 10 rfl)
theorem dL_law_371 : decode cL_law 371 = .ok (.aload_n 0, 1) := dk_1042 (dk_g tcL_law_30 11 rfl)
theorem tcL_law_31 : (cL_law.data.toList.drop 372).take 12 = [29, 4, 96, 46, 182, 0, 27, 87, 167, 7, 219, 43] := dk_h tycL_law_1 180 (by decide +kernel)
theorem dL_law_372 : decode cL_law 372 = .ok (.iload_n 3, 1) := dk_1029 (dk_g tcL_law_31 0 rfl)
theorem dL_law_373 : decode cL_law 373 = .ok (.iconst 1, 1) := dk_1004 (dk_g tcL_law_31 1 rfl)
theorem dL_law_374 : decode cL_law 374 = .ok (.iadd, 1) := dk_1096 (dk_g tcL_law_31 2 rfl)
theorem dL_law_375 : decode cL_law 375 = .ok (.iaload, 1) := dk_1046 (dk_g tcL_law_31 3 rfl)
theorem dL_law_376 : decode cL_law 376 = .ok (.invokevirtual 27, 3) := dk_1182 (dk_g tcL_law_31 4 rfl) (dk_g tcL_law_31 5 rfl) (dk_g tcL_law_31 6 rfl) rfl
theorem dL_law_379 : decode cL_law 379 = .ok (.pop, 1) := dk_1087 (dk_g tcL_law_31 7 rfl)
theorem dL_law_380 : decode cL_law 380 = .ok (.goto 2011, 3) := dk_2167 (dk_g tcL_law_31 8 rfl) (dk_g tcL_law_31 9 rfl) (dk_g tcL_law_31 10 rfl) rfl rfl
theorem dL_law_383 : decode cL_law 383 = .ok (.aload_n 1, 1) := dk_1043 (dk_g tcL_law_31 11 rfl)
set_option maxRecDepth 100000 in
noncomputable def tzcL_law_2 : { l : List UInt8 // List.drop 192 (tzcL_law_1.1) = l } := by
  constructor
  conv => lhs; whnf
theorem tycL_law_2 : cL_law.data.toList.drop 384 = tzcL_law_2.1 := dk_z tycL_law_1 tzcL_law_2.2
theorem tcL_law_32 : (cL_law.data.toList.drop 384).take 12 = [42, 29, 4, 96, 46, 182, 0, 28, 87, 44, 42, 29] := dk_h tycL_law_2 0 (by decide +kernel)
theorem dL_law_384 : decode cL_law 384 = .ok (.aload_n 0, 1) := dk_1042 (dk_g tcL_law_32 0 rfl)
theorem dL_law_385 : decode cL_law 385 = .ok (.iload_n 3, 1) := dk_1029 (dk_g tcL_law_32 1 rfl)
theorem dL_law_386 : decode cL_law 386 = .ok (.iconst 1, 1) := dk_1004 (dk_g tcL_law_32 2 rfl)
theorem dL_law_387 : decode cL_law 387 = .ok (.iadd, 1) := dk_1096 (dk_g tcL_law_32 3 rfl)
theorem dL_law_388 : decode cL_law 388 = .ok (.iaload, 1) := dk_1046 (dk_g tcL_law_32 4 rfl)
theorem dL_law_389 : decode cL_law 389 = .ok (.invokevirtual 28, 3) := dk_1182 (dk_g tcL_law_32 5 rfl) (dk_g tcL_law_32 6 rfl) (dk_g tcL_law_32 7 rfl) rfl
theorem dL_law_392 : decode cL_law 392 = .ok (.pop, 1) := dk_1087 (dk_g tcL_law_32 8 rfl)
theorem dL_law_393 : decode cL_law 393 = .ok (.aload_n 2, 1) := dk_1044 (dk_g tcL_law_32 9 rfl)
theorem dL_law_394 : decode cL_law 394 = .ok (.aload_n 0, 1) := dk_1042 (dk_g tcL_law_32 10 rfl)
theorem dL_law_395 : decode cL_law 395 = .ok (.iload_n 3, 1) := dk_1029 (dk_g tcL_law_32 11 rfl)
theorem tcL_law_33 : (cL_law.data.toList.drop 396).take 12 = [4, 96, 46, 182, 0, 31, 87, 167, 7, 196, 43, 42] := dk_h tycL_law_2 12 (by decide +kernel)
theorem dL_law_396 : decode cL_law 396 = .ok (.iconst 1, 1) := dk_1004 (dk_g tcL_law_33 0 rfl)
theorem dL_law_397 : decode cL_law 397 = .ok (.iadd, 1) := dk_1096 (dk_g tcL_law_33 1 rfl)
theorem dL_law_398 : decode cL_law 398 = .ok (.iaload, 1) := dk_1046 (dk_g tcL_law_33 2 rfl)
theorem dL_law_399 : decode cL_law 399 = .ok (.invokevirtual 31, 3) := dk_1182 (dk_g tcL_law_33 3 rfl) (dk_g tcL_law_33 4 rfl) (dk_g tcL_law_33 5 rfl) rfl
theorem dL_law_402 : decode cL_law 402 = .ok (.pop, 1) := dk_1087 (dk_g tcL_law_33 6 rfl)
theorem dL_law_403 : decode cL_law 403 = .ok (.goto 1988, 3) := dk_2167 (dk_g tcL_law_33 7 rfl) (dk_g tcL_law_33 8 rfl) (dk_g tcL_law_33 9 rfl) rfl rfl
theorem dL_law_406 : decode cL_law 406 = .ok (.aload_n 1, 1) := dk_1043 (dk_g tcL_law_33 10 rfl)
theorem dL_law_407 : decode cL_law 407 = .ok (.aload_n 0, 1) := dk_1042 (dk_g tcL_law_33 11 rfl)
theorem tcL_law_34 : (cL_law.data.toList.drop 408).take 12 = [29, 4, 96, 46, 182, 0, 32, 87, 44, 42, 29, 4] := dk_h tycL_law_2 24 (by decide +kernel)
theorem dL_law_408 : decode cL_law 408 = .ok (.iload_n 3, 1) := dk_1029 (dk_g tcL_law_34 0 rfl)
theorem dL_law_409 : decode cL_law 409 = .ok (.iconst 1, 1) := dk_1004 (dk_g tcL_law_34 1 rfl)
theorem dL_law_410 : decode cL_law 410 = .ok (.iadd, 1) := dk_1096 (dk_g tcL_law_34 2 rfl)
theorem dL_law_411 : decode cL_law 411 = .ok (.iaload, 1) := dk_1046 (dk_g tcL_law_34 3 rfl)
theorem dL_law_412 : decode cL_law 412 = .ok (.invokevirtual 32, 3) := dk_1182 (dk_g tcL_law_34 4 rfl) (dk_g tcL_law_34 5 rfl) (dk_g tcL_law_34 6 rfl) rfl
theorem dL_law_415 : decode cL_law 415 = .ok (.pop, 1) := dk_1087 (dk_g tcL_law_34 7 rfl)
theorem dL_law_416 : decode cL_law 416 = .ok (.aload_n 2, 1) := dk_1044 (dk_g tcL_law_34 8 rfl)
theorem dL_law_417 : decode cL_law 417 = .ok (.aload_n 0, 1) := dk_1042 (dk_g tcL_law_34 9 rfl)
theorem dL_law_418 : decode cL_law 418 = .ok (.iload_n 3, 1) := dk_1029 (dk_g tcL_law_34 10 rfl)
theorem dL_law_419 : decode cL_law 419 = .ok (.iconst 1, 1) := dk_1004 (dk_g tcL_law_34 11 rfl)
theorem tcL_law_35 : (cL_law.data.toList.drop 420).take 12 = [96, 46, 182, 0, 35, 87, 167, 7, 173, 43, 42, 29] := dk_h tycL_law_2 36 (by decide +kernel)
theorem dL_law_420 : decode cL_law 420 = .ok (.iadd, 1) := dk_1096 (dk_g tcL_law_35 0 rfl)
theorem dL_law_421 : decode cL_law 421 = .ok (.iaload, 1) := dk_1046 (dk_g tcL_law_35 1 rfl)
theorem dL_law_422 : decode cL_law 422 = .ok (.invokevirtual 35, 3) := dk_1182 (dk_g tcL_law_35 2 rfl) (dk_g tcL_law_35 3 rfl) (dk_g tcL_law_35 4 rfl) rfl
theorem dL_law_425 : decode cL_law 425 = .ok (.pop, 1) := dk_1087 (dk_g tcL_law_35 5 rfl)
theorem dL_law_426 : decode cL_law 426 = .ok (.goto 1965, 3) := dk_2167 (dk_g tcL_law_35 6 rfl) (dk_g tcL_law_35 7 rfl) (dk_g tcL_law_35 8 rfl) rfl rfl
theorem dL_law_429 : decode cL_law 429 = .ok (.aload_n 1, 1) := dk_1043 (dk_g tcL_law_35 9 rfl)
theorem dL_law_430 : decode cL_law 430 = .ok (.aload_n 0, 1) := dk_1042 (dk_g tcL_law_35 10 rfl)
theorem dL_law_431 : decode cL_law 431 = .ok (.iload_n 3, 1) := dk_1029 (dk_g tcL_law_35 11 rfl)
theorem tcL_law_36 : (cL_law.data.toList.drop 432).take 12 = [4, 96, 46, 182, 0, 36, 87, 44, 42, 29, 4, 96] := dk_h tycL_law_2 48 (by decide +kernel)
theorem dL_law_432 : decode cL_law 432 = .ok (.iconst 1, 1) := dk_1004 (dk_g tcL_law_36 0 rfl)
theorem dL_law_433 : decode cL_law 433 = .ok (.iadd, 1) := dk_1096 (dk_g tcL_law_36 1 rfl)
theorem dL_law_434 : decode cL_law 434 = .ok (.iaload, 1) := dk_1046 (dk_g tcL_law_36 2 rfl)
theorem dL_law_435 : decode cL_law 435 = .ok (.invokevirtual 36, 3) := dk_1182 (dk_g tcL_law_36 3 rfl) (dk_g tcL_law_36 4 rfl) (dk_g tcL_law_36 5 rfl) rfl
theorem dL_law_438 : decode cL_law 438 = .ok (.pop, 1) := dk_1087 (dk_g tcL_law_36 6 rfl)
theorem dL_law_439 : decode cL_law 439 = .ok (.aload_n 2, 1) := dk_1044 (dk_g tcL_law_36 7 rfl)
theorem dL_law_440 : decode cL_law 440 = .ok (.aload_n 0, 1) := dk_1042 (dk_g tcL_law_36 8 rfl)
theorem dL_law_441 : decode cL_law 441 = .ok (.iload_n 3, 1) := dk_1029 (dk_g tcL_law_36 9 rfl)
theorem dL_law_442 : decode cL_law 442 = .ok (.iconst 1, 1) := dk_1004 (dk_g tcL_law_36 10 rfl)
theorem dL_law_443 : decode cL_law 443 = .ok (.iadd, 1) := dk_1096 (dk_g tcL_law_36 11 rfl)
theorem tcL_law_37 : (cL_law.data.toList.drop 444).take 12 = [46, 182, 0, 39, 87, 167, 7, 150, 43, 42, 29, 4] := dk_h tycL_law_2 60 (by decide +kernel)
theorem dL_law_444 : decode cL_law 444 = .ok (.iaload, 1) := dk_1046 (dk_g tcL_law_37 0 rfl)
theorem dL_law_445 : decode cL_law 445 = .ok (.invokevirtual 39, 3) := dk_1182 (dk_g tcL_law_37 1 rfl) (dk_g tcL_law_37 2 rfl) (dk_g tcL_law_37 3 rfl) rfl
theorem dL_law_448 : decode cL_law 448 = .ok (.pop, 1) := dk_1087 (dk_g tcL_law_37 4 rfl)
theorem dL_law_449 : decode cL_law 449 = .ok (.goto 1942, 3) := dk_2167 (dk_g tcL_law_37 5 rfl) (dk_g tcL_law_37 6 rfl) (dk_g tcL_law_37 7 rfl) rfl rfl
theorem dL_law_452 : decode cL_law 452 = .ok (.aload_n 1, 1) := dk_1043 (dk_g tcL_law_37 8 rfl)
theorem dL_law_453 : decode cL_law 453 = .ok (.aload_n 0, 1) := dk_1042 (dk_g tcL_law_37 9 rfl)
theorem dL_law_454 : decode cL_law 454 = .ok (.iload_n 3, 1) := dk_1029 (dk_g tcL_law_37 10 rfl)
theorem dL_law_455 : decode cL_law 455 = .ok (.iconst 1, 1) := dk_1004 (dk_g tcL_law_37 11 rfl)
theorem tcL_law_38 : (cL_law.data.toList.drop 456).take 12 = [96, 46, 42, 29, 5, 96, 46, 182, 0, 40, 87, 44] := dk_h tycL_law_2 72 (by decide +kernel)
theorem dL_law_456 : decode cL_law 456 = .ok (.iadd, 1) := dk_1096 (dk_g tcL_law_38 0 rfl)
theorem dL_law_457 : decode cL_law 457 = .ok (.iaload, 1) := dk_1046 (dk_g tcL_law_38 1 rfl)
theorem dL_law_458 : decode cL_law 458 = .ok (.aload_n 0, 1) := dk_1042 (dk_g tcL_law_38 2 rfl)
theorem dL_law_459 : decode cL_law 459 = .ok (.iload_n 3, 1) := dk_1029 (dk_g tcL_law_38 3 rfl)
theorem dL_law_460 : decode cL_law 460 = .ok (.iconst 2, 1) := dk_1005 (dk_g tcL_law_38 4 rfl)
theorem dL_law_461 : decode cL_law 461 = .ok (.iadd, 1) := dk_1096 (dk_g tcL_law_38 5 rfl)
theorem dL_law_462 : decode cL_law 462 = .ok (.iaload, 1) := dk_1046 (dk_g tcL_law_38 6 rfl)
theorem dL_law_463 : decode cL_law 463 = .ok (.invokevirtual 40, 3) := dk_1182 (dk_g tcL_law_38 7 rfl) (dk_g tcL_law_38 8 rfl) (dk_g tcL_law_38 9 rfl) rfl
theorem dL_law_466 : decode cL_law 466 = .ok (.pop, 1) := dk_1087 (dk_g tcL_law_38 10 rfl)
theorem dL_law_467 : decode cL_law 467 = .ok (.aload_n 2, 1) := dk_1044 (dk_g tcL_law_38 11 rfl)
theorem tcL_law_39 : (cL_law.data.toList.drop 468).take 12 = [42, 29, 4, 96, 46, 42, 29, 5, 96, 46, 182, 0] := dk_h tycL_law_2 84 (by decide +kernel)
theorem dL_law_468 : decode cL_law 468 = .ok (.aload_n 0, 1) := dk_1042 (dk_g tcL_law_39 0 rfl)
theorem dL_law_469 : decode cL_law 469 = .ok (.iload_n 3, 1) := dk_1029 (dk_g tcL_law_39 1 rfl)
theorem dL_law_470 : decode cL_law 470 = .ok (.iconst 1, 1) := dk_1004 (dk_g tcL_law_39 2 rfl)
theorem dL_law_471 : decode cL_law 471 = .ok (.iadd, 1) := dk_1096 (dk_g tcL_law_39 3 rfl)
theorem dL_law_472 : decode cL_law 472 = .ok (.iaload, 1) := dk_1046 (dk_g tcL_law_39 4 rfl)
theorem dL_law_473 : decode cL_law 473 = .ok (.aload_n 0, 1) := dk_1042 (dk_g tcL_law_39 5 rfl)
theorem dL_law_474 : decode cL_law 474 = .ok (.iload_n 3, 1) := dk_1029 (dk_g tcL_law_39 6 rfl)
theorem dL_law_475 : decode cL_law 475 = .ok (.iconst 2, 1) := dk_1005 (dk_g tcL_law_39 7 rfl)
theorem dL_law_476 : decode cL_law 476 = .ok (.iadd, 1) := dk_1096 (dk_g tcL_law_39 8 rfl)
theorem dL_law_477 : decode cL_law 477 = .ok (.iaload, 1) := dk_1046 (dk_g tcL_law_39 9 rfl)
theorem tcL_law_40 : (cL_law.data.toList.drop 480).take 12 = [44, 87, 167, 7, 117, 43, 42, 29, 4, 96, 46, 182] := dk_h tycL_law_2 96 (by decide +kernel)
theorem dL_law_478 : decode cL_law 478 = .ok (.invokevirtual 44, 3) := dk_1182 (dk_g tcL_law_39 10 rfl) (dk_g tcL_law_39 11 rfl) (dk_g tcL_law_40 0 rfl) rfl
theorem dL_law_481 : decode cL_law 481 = .ok (.pop, 1) := dk_1087 (dk_g tcL_law_40 1 rfl)
theorem dL_law_482 : decode cL_law 482 = .ok (.goto 1909, 3) := dk_2167 (dk_g tcL_law_40 2 rfl) (dk_g tcL_law_40 3 rfl) (dk_g tcL_law_40 4 rfl) rfl rfl
theorem dL_law_485 : decode cL_law 485 = .ok (.aload_n 1, 1) := dk_1043 (dk_g tcL_law_40 5 rfl)
theorem dL_law_486 : decode cL_law 486 = .ok (.aload_n 0, 1) := dk_1042 (dk_g tcL_law_40 6 rfl)
theorem dL_law_487 : decode cL_law 487 = .ok (.iload_n 3, 1) := dk_1029 (dk_g tcL_law_40 7 rfl)
theorem dL_law_488 : decode cL_law 488 = .ok (.iconst 1, 1) := dk_1004 (dk_g tcL_law_40 8 rfl)
theorem dL_law_489 : decode cL_law 489 = .ok (.iadd, 1) := dk_1096 (dk_g tcL_law_40 9 rfl)
theorem dL_law_490 : decode cL_law 490 = .ok (.iaload, 1) := dk_1046 (dk_g tcL_law_40 10 rfl)
theorem tcL_law_41 : (cL_law.data.toList.drop 492).take 12 = [0, 45, 87, 44, 42, 29, 4, 96, 46, 182, 0, 48] := dk_h tycL_law_2 108 (by decide +kernel)
theorem dL_law_491 : decode cL_law 491 = .ok (.invokevirtual 45, 3) := dk_1182 (dk_g tcL_law_40 11 rfl) (dk_g tcL_law_41 0 rfl) (dk_g tcL_law_41 1 rfl) rfl
theorem dL_law_494 : decode cL_law 494 = .ok (.pop, 1) := dk_1087 (dk_g tcL_law_41 2 rfl)
theorem dL_law_495 : decode cL_law 495 = .ok (.aload_n 2, 1) := dk_1044 (dk_g tcL_law_41 3 rfl)
theorem dL_law_496 : decode cL_law 496 = .ok (.aload_n 0, 1) := dk_1042 (dk_g tcL_law_41 4 rfl)
theorem dL_law_497 : decode cL_law 497 = .ok (.iload_n 3, 1) := dk_1029 (dk_g tcL_law_41 5 rfl)
theorem dL_law_498 : decode cL_law 498 = .ok (.iconst 1, 1) := dk_1004 (dk_g tcL_law_41 6 rfl)
theorem dL_law_499 : decode cL_law 499 = .ok (.iadd, 1) := dk_1096 (dk_g tcL_law_41 7 rfl)
theorem dL_law_500 : decode cL_law 500 = .ok (.iaload, 1) := dk_1046 (dk_g tcL_law_41 8 rfl)
theorem dL_law_501 : decode cL_law 501 = .ok (.invokevirtual 48, 3) := dk_1182 (dk_g tcL_law_41 9 rfl) (dk_g tcL_law_41 10 rfl) (dk_g tcL_law_41 11 rfl) rfl
theorem tcL_law_42 : (cL_law.data.toList.drop 504).take 12 = [87, 167, 7, 94, 43, 42, 29, 4, 96, 46, 182, 0] := dk_h tycL_law_2 120 (by decide +kernel)
theorem dL_law_504 : decode cL_law 504 = .ok (.pop, 1) := dk_1087 (dk_g tcL_law_42 0 rfl)
theorem dL_law_505 : decode cL_law 505 = .ok (.goto 1886, 3) := dk_2167 (dk_g tcL_law_42 1 rfl) (dk_g tcL_law_42 2 rfl) (dk_g tcL_law_42 3 rfl) rfl rfl
theorem dL_law_508 : decode cL_law 508 = .ok (.aload_n 1, 1) := dk_1043 (dk_g tcL_law_42 4 rfl)
theorem dL_law_509 : decode cL_law 509 = .ok (.aload_n 0, 1) := dk_1042 (dk_g tcL_law_42 5 rfl)
theorem dL_law_510 : decode cL_law 510 = .ok (.iload_n 3, 1) := dk_1029 (dk_g tcL_law_42 6 rfl)
theorem dL_law_511 : decode cL_law 511 = .ok (.iconst 1, 1) := dk_1004 (dk_g tcL_law_42 7 rfl)
theorem dL_law_512 : decode cL_law 512 = .ok (.iadd, 1) := dk_1096 (dk_g tcL_law_42 8 rfl)
theorem dL_law_513 : decode cL_law 513 = .ok (.iaload, 1) := dk_1046 (dk_g tcL_law_42 9 rfl)
theorem tcL_law_43 : (cL_law.data.toList.drop 516).take 12 = [49, 87, 44, 42, 29, 4, 96, 46, 182, 0, 52, 87] := dk_h tycL_law_2 132 (by decide +kernel)
theorem dL_law_514 : decode cL_law 514 = .ok (.invokevirtual 49, 3) := dk_1182 (dk_g tcL_law_42 10 rfl) (dk_g tcL_law_42 11 rfl) (dk_g tcL_law_43 0 rfl) rfl
theorem dL_law_517 : decode cL_law 517 = .ok (.pop, 1) := dk_1087 (dk_g tcL_law_43 1 rfl)
theorem dL_law_518 : decode cL_law 518 = .ok (.aload_n 2, 1) := dk_1044 (dk_g tcL_law_43 2 rfl)
theorem dL_law_519 : decode cL_law 519 = .ok (.aload_n 0, 1) := dk_1042 (dk_g tcL_law_43 3 rfl)
theorem dL_law_520 : decode cL_law 520 = .ok (.iload_n 3, 1) := dk_1029 (dk_g tcL_law_43 4 rfl)
theorem dL_law_521 : decode cL_law 521 = .ok (.iconst 1, 1) := dk_1004 (dk_g tcL_law_43 5 rfl)
theorem dL_law_522 : decode cL_law 522 = .ok (.iadd, 1) := dk_1096 (dk_g tcL_law_43 6 rfl)
theorem dL_law_523 : decode cL_law 523 = .ok (.iaload, 1) := dk_1046 (dk_g tcL_law_43 7 rfl)
theorem dL_law_524 : decode cL_law 524 = .ok (.invokevirtual 52, 3) := dk_1182 (dk_g tcL_law_43 8 rfl) (dk_g tcL_law_43 9 rfl) (dk_g tcL_law_43 10 rfl) rfl
theorem dL_law_527 : decode cL_law 527 = .ok (.pop, 1) := dk_1087 (dk_g tcL_law_43 11 rfl)
theorem tcL_law_44 : (cL_law.data.toList.drop 528).take 12 = [167, 7, 71, 43, 42, 29, 4, 96, 46, 42, 29, 5] := dk_h tycL_law_2 144 (by decide +kernel)
theorem dL_law_528 : decode cL_law 528 = .ok (.goto 1863, 3) := dk_2167 (dk_g tcL_law_44 0 rfl) (dk_g tcL_law_44 1 rfl) (dk_g tcL_law_44 2 rfl) rfl rfl
theorem dL_law_531 : decode cL_law 531 = .ok (.aload_n 1, 1) := dk_1043 (dk_g tcL_law_44 3 rfl)
theorem dL_law_532 : decode cL_law 532 = .ok (.aload_n 0, 1) := dk_1042 (dk_g tcL_law_44 4 rfl)
theorem dL_law_533 : decode cL_law 533 = .ok (.iload_n 3, 1) := dk_1029 (dk_g tcL_law_44 5 rfl)
theorem dL_law_534 : decode cL_law 534 = .ok (.iconst 1, 1) := dk_1004 (dk_g tcL_law_44 6 rfl)
theorem dL_law_535 : decode cL_law 535 = .ok (.iadd, 1) := dk_1096 (dk_g tcL_law_44 7 rfl)
theorem dL_law_536 : decode cL_law 536 = .ok (.iaload, 1) := dk_1046 (dk_g tcL_law_44 8 rfl)
theorem dL_law_537 : decode cL_law 537 = .ok (.aload_n 0, 1) := dk_1042 (dk_g tcL_law_44 9 rfl)
theorem dL_law_538 : decode cL_law 538 = .ok (.iload_n 3, 1) := dk_1029 (dk_g tcL_law_44 10 rfl)
theorem dL_law_539 : decode cL_law 539 = .ok (.iconst 2, 1) := dk_1005 (dk_g tcL_law_44 11 rfl)
theorem tcL_law_45 : (cL_law.data.toList.drop 540).take 12 = [96, 46, 42, 29, 6, 96, 46, 182, 0, 53, 87, 44] := dk_h tycL_law_2 156 (by decide +kernel)
theorem dL_law_540 : decode cL_law 540 = .ok (.iadd, 1) := dk_1096 (dk_g tcL_law_45 0 rfl)
theorem dL_law_541 : decode cL_law 541 = .ok (.iaload, 1) := dk_1046 (dk_g tcL_law_45 1 rfl)
theorem dL_law_542 : decode cL_law 542 = .ok (.aload_n 0, 1) := dk_1042 (dk_g tcL_law_45 2 rfl)
theorem dL_law_543 : decode cL_law 543 = .ok (.iload_n 3, 1) := dk_1029 (dk_g tcL_law_45 3 rfl)
theorem dL_law_544 : decode cL_law 544 = .ok (.iconst 3, 1) := dk_1006 (dk_g tcL_law_45 4 rfl)
theorem dL_law_545 : decode cL_law 545 = .ok (.iadd, 1) := dk_1096 (dk_g tcL_law_45 5 rfl)
theorem dL_law_546 : decode cL_law 546 = .ok (.iaload, 1) := dk_1046 (dk_g tcL_law_45 6 rfl)
theorem dL_law_547 : decode cL_law 547 = .ok (.invokevirtual 53, 3) := dk_1182 (dk_g tcL_law_45 7 rfl) (dk_g tcL_law_45 8 rfl) (dk_g tcL_law_45 9 rfl) rfl
theorem dL_law_550 : decode cL_law 550 = .ok (.pop, 1) := dk_1087 (dk_g tcL_law_45 10 rfl)
theorem dL_law_551 : decode cL_law 551 = .ok (.aload_n 2, 1) := dk_1044 (dk_g tcL_law_45 11 rfl)
theorem tcL_law_46 : (cL_law.data.toList.drop 552).take 12 = [42, 29, 4, 96, 46, 42, 29, 5, 96, 46, 42, 29] := dk_h tycL_law_2 168 (by decide +kernel)
theorem dL_law_552 : decode cL_law 552 = .ok (.aload_n 0, 1) := dk_1042 (dk_g tcL_law_46 0 rfl)
theorem dL_law_553 : decode cL_law 553 = .ok (.iload_n 3, 1) := dk_1029 (dk_g tcL_law_46 1 rfl)
theorem dL_law_554 : decode cL_law 554 = .ok (.iconst 1, 1) := dk_1004 (dk_g tcL_law_46 2 rfl)
theorem dL_law_555 : decode cL_law 555 = .ok (.iadd, 1) := dk_1096 (dk_g tcL_law_46 3 rfl)
theorem dL_law_556 : decode cL_law 556 = .ok (.iaload, 1) := dk_1046 (dk_g tcL_law_46 4 rfl)
theorem dL_law_557 : decode cL_law 557 = .ok (.aload_n 0, 1) := dk_1042 (dk_g tcL_law_46 5 rfl)
theorem dL_law_558 : decode cL_law 558 = .ok (.iload_n 3, 1) := dk_1029 (dk_g tcL_law_46 6 rfl)
theorem dL_law_559 : decode cL_law 559 = .ok (.iconst 2, 1) := dk_1005 (dk_g tcL_law_46 7 rfl)
theorem dL_law_560 : decode cL_law 560 = .ok (.iadd, 1) := dk_1096 (dk_g tcL_law_46 8 rfl)
theorem dL_law_561 : decode cL_law 561 = .ok (.iaload, 1) := dk_1046 (dk_g tcL_law_46 9 rfl)
theorem dL_law_562 : decode cL_law 562 = .ok (.aload_n 0, 1) := dk_1042 (dk_g tcL_law_46 10 rfl)
theorem dL_law_563 : decode cL_law 563 = .ok (.iload_n 3, 1) := dk_1029 (dk_g tcL_law_46 11 rfl)
theorem tcL_law_47 : (cL_law.data.toList.drop 564).take 12 = [6, 96, 46, 182, 0, 57, 87, 167, 7, 28, 43, 42] := dk_h tycL_law_2 180 (by decide +kernel)
theorem dL_law_564 : decode cL_law 564 = .ok (.iconst 3, 1) := dk_1006 (dk_g tcL_law_47 0 rfl)
theorem dL_law_565 : decode cL_law 565 = .ok (.iadd, 1) := dk_1096 (dk_g tcL_law_47 1 rfl)
theorem dL_law_566 : decode cL_law 566 = .ok (.iaload, 1) := dk_1046 (dk_g tcL_law_47 2 rfl)
theorem dL_law_567 : decode cL_law 567 = .ok (.invokevirtual 57, 3) := dk_1182 (dk_g tcL_law_47 3 rfl) (dk_g tcL_law_47 4 rfl) (dk_g tcL_law_47 5 rfl) rfl
theorem dL_law_570 : decode cL_law 570 = .ok (.pop, 1) := dk_1087 (dk_g tcL_law_47 6 rfl)
theorem dL_law_571 : decode cL_law 571 = .ok (.goto 1820, 3) := dk_2167 (dk_g tcL_law_47 7 rfl) (dk_g tcL_law_47 8 rfl) (dk_g tcL_law_47 9 rfl) rfl rfl
theorem dL_law_574 : decode cL_law 574 = .ok (.aload_n 1, 1) := dk_1043 (dk_g tcL_law_47 10 rfl)
theorem dL_law_575 : decode cL_law 575 = .ok (.aload_n 0, 1) := dk_1042 (dk_g tcL_law_47 11 rfl)
set_option maxRecDepth 100000 in
noncomputable def tzcL_law_3 : { l : List UInt8 // List.drop 192 (tzcL_law_2.1) = l } := by
  constructor
  conv => lhs; whnf
theorem tycL_law_3 : cL_law.data.toList.drop 576 = tzcL_law_3.1 := dk_z tycL_law_2 tzcL_law_3.2
theorem tcL_law_48 : (cL_law.data.toList.drop 576).take 12 = [29, 4, 96, 46, 42, 29, 5, 96, 46, 182, 0, 58] := dk_h tycL_law_3 0 (by decide +kernel)
theorem dL_law_576 : decode cL_law 576 = .ok (.iload_n 3, 1) := dk_1029 (dk_g tcL_law_48 0 rfl)
theorem dL_law_577 : decode cL_law 577 = .ok (.iconst 1, 1) := dk_1004 (dk_g tcL_law_48 1 rfl)
theorem dL_law_578 : decode cL_law 578 = .ok (.iadd, 1) := dk_1096 (dk_g tcL_law_48 2 rfl)
theorem dL_law_579 : decode cL_law 579 = .ok (.iaload, 1) := dk_1046 (dk_g tcL_law_48 3 rfl)
theorem dL_law_580 : decode cL_law 580 = .ok (.aload_n 0, 1) := dk_1042 (dk_g tcL_law_48 4 rfl)
theorem dL_law_581 : decode cL_law 581 = .ok (.iload_n 3, 1) := dk_1029 (dk_g tcL_law_48 5 rfl)
theorem dL_law_582 : decode cL_law 582 = .ok (.iconst 2, 1) := dk_1005 (dk_g tcL_law_48 6 rfl)
theorem dL_law_583 : decode cL_law 583 = .ok (.iadd, 1) := dk_1096 (dk_g tcL_law_48 7 rfl)
theorem dL_law_584 : decode cL_law 584 = .ok (.iaload, 1) := dk_1046 (dk_g tcL_law_48 8 rfl)
theorem dL_law_585 : decode cL_law 585 = .ok (.invokevirtual 58, 3) := dk_1182 (dk_g tcL_law_48 9 rfl) (dk_g tcL_law_48 10 rfl) (dk_g tcL_law_48 11 rfl) rfl
theorem tcL_law_49 : (cL_law.data.toList.drop 588).take 12 = [87, 44, 42, 29, 4, 96, 46, 42, 29, 5, 96, 46] := dk_h tycL_law_3 12 (by decide +kernel)
theorem dL_law_588 : decode cL_law 588 = .ok (.pop, 1) := dk_1087 (dk_g tcL_law_49 0 rfl)
theorem dL_law_589 : decode cL_law 589 = .ok (.aload_n 2, 1) := dk_1044 (dk_g tcL_law_49 1 rfl)
theorem dL_law_590 : decode cL_law 590 = .ok (.aload_n 0, 1) := dk_1042 (dk_g tcL_law_49 2 rfl)
theorem dL_law_591 : decode cL_law 591 = .ok (.iload_n 3, 1) := dk_1029 (dk_g tcL_law_49 3 rfl)
theorem dL_law_592 : decode cL_law 592 = .ok (.iconst 1, 1) := dk_1004 (dk_g tcL_law_49 4 rfl)
theorem dL_law_593 : decode cL_law 593 = .ok (.iadd, 1) := dk_1096 (dk_g tcL_law_49 5 rfl)
theorem dL_law_594 : decode cL_law 594 = .ok (.iaload, 1) := dk_1046 (dk_g tcL_law_49 6 rfl)
theorem dL_law_595 : decode cL_law 595 = .ok (.aload_n 0, 1) := dk_1042 (dk_g tcL_law_49 7 rfl)
theorem dL_law_596 : decode cL_law 596 = .ok (.iload_n 3, 1) := dk_1029 (dk_g tcL_law_49 8 rfl)
theorem dL_law_597 : decode cL_law 597 = .ok (.iconst 2, 1) := dk_1005 (dk_g tcL_law_49 9 rfl)
theorem dL_law_598 : decode cL_law 598 = .ok (.iadd, 1) := dk_1096 (dk_g tcL_law_49 10 rfl)
theorem dL_law_599 : decode cL_law 599 = .ok (.iaload, 1) := dk_1046 (dk_g tcL_law_49 11 rfl)
theorem tcL_law_50 : (cL_law.data.toList.drop 600).take 12 = [182, 0, 61, 87, 167, 6, 251, 43, 42, 29, 4, 96] := dk_h tycL_law_3 24 (by decide +kernel)
theorem dL_law_600 : decode cL_law 600 = .ok (.invokevirtual 61, 3) := dk_1182 (dk_g tcL_law_50 0 rfl) (dk_g tcL_law_50 1 rfl) (dk_g tcL_law_50 2 rfl) rfl
theorem dL_law_603 : decode cL_law 603 = .ok (.pop, 1) := dk_1087 (dk_g tcL_law_50 3 rfl)
theorem dL_law_604 : decode cL_law 604 = .ok (.goto 1787, 3) := dk_2167 (dk_g tcL_law_50 4 rfl) (dk_g tcL_law_50 5 rfl) (dk_g tcL_law_50 6 rfl) rfl rfl
theorem dL_law_607 : decode cL_law 607 = .ok (.aload_n 1, 1) := dk_1043 (dk_g tcL_law_50 7 rfl)
theorem dL_law_608 : decode cL_law 608 = .ok (.aload_n 0, 1) := dk_1042 (dk_g tcL_law_50 8 rfl)
theorem dL_law_609 : decode cL_law 609 = .ok (.iload_n 3, 1) := dk_1029 (dk_g tcL_law_50 9 rfl)
theorem dL_law_610 : decode cL_law 610 = .ok (.iconst 1, 1) := dk_1004 (dk_g tcL_law_50 10 rfl)
theorem dL_law_611 : decode cL_law 611 = .ok (.iadd, 1) := dk_1096 (dk_g tcL_law_50 11 rfl)
theorem tcL_law_51 : (cL_law.data.toList.drop 612).take 12 = [46, 42, 29, 5, 96, 46, 182, 0, 62, 87, 44, 42] := dk_h tycL_law_3 36 (by decide +kernel)
theorem dL_law_612 : decode cL_law 612 = .ok (.iaload, 1) := dk_1046 (dk_g tcL_law_51 0 rfl)
theorem dL_law_613 : decode cL_law 613 = .ok (.aload_n 0, 1) := dk_1042 (dk_g tcL_law_51 1 rfl)
theorem dL_law_614 : decode cL_law 614 = .ok (.iload_n 3, 1) := dk_1029 (dk_g tcL_law_51 2 rfl)
theorem dL_law_615 : decode cL_law 615 = .ok (.iconst 2, 1) := dk_1005 (dk_g tcL_law_51 3 rfl)
theorem dL_law_616 : decode cL_law 616 = .ok (.iadd, 1) := dk_1096 (dk_g tcL_law_51 4 rfl)
theorem dL_law_617 : decode cL_law 617 = .ok (.iaload, 1) := dk_1046 (dk_g tcL_law_51 5 rfl)
theorem dL_law_618 : decode cL_law 618 = .ok (.invokevirtual 62, 3) := dk_1182 (dk_g tcL_law_51 6 rfl) (dk_g tcL_law_51 7 rfl) (dk_g tcL_law_51 8 rfl) rfl
theorem dL_law_621 : decode cL_law 621 = .ok (.pop, 1) := dk_1087 (dk_g tcL_law_51 9 rfl)
theorem dL_law_622 : decode cL_law 622 = .ok (.aload_n 2, 1) := dk_1044 (dk_g tcL_law_51 10 rfl)
theorem dL_law_623 : decode cL_law 623 = .ok (.aload_n 0, 1) := dk_1042 (dk_g tcL_law_51 11 rfl)
theorem tcL_law_52 : (cL_law.data.toList.drop 624).take 12 = [29, 4, 96, 46, 42, 29, 5, 96, 46, 182, 0, 65] := dk_h tycL_law_3 48 (by decide +kernel)
theorem dL_law_624 : decode cL_law 624 = .ok (.iload_n 3, 1) := dk_1029 (dk_g tcL_law_52 0 rfl)
theorem dL_law_625 : decode cL_law 625 = .ok (.iconst 1, 1) := dk_1004 (dk_g tcL_law_52 1 rfl)
theorem dL_law_626 : decode cL_law 626 = .ok (.iadd, 1) := dk_1096 (dk_g tcL_law_52 2 rfl)
theorem dL_law_627 : decode cL_law 627 = .ok (.iaload, 1) := dk_1046 (dk_g tcL_law_52 3 rfl)
theorem dL_law_628 : decode cL_law 628 = .ok (.aload_n 0, 1) := dk_1042 (dk_g tcL_law_52 4 rfl)
theorem dL_law_629 : decode cL_law 629 = .ok (.iload_n 3, 1) := dk_1029 (dk_g tcL_law_52 5 rfl)
theorem dL_law_630 : decode cL_law 630 = .ok (.iconst 2, 1) := dk_1005 (dk_g tcL_law_52 6 rfl)
theorem dL_law_631 : decode cL_law 631 = .ok (.iadd, 1) := dk_1096 (dk_g tcL_law_52 7 rfl)
theorem dL_law_632 : decode cL_law 632 = .ok (.iaload, 1) := dk_1046 (dk_g tcL_law_52 8 rfl)
theorem dL_law_633 : decode cL_law 633 = .ok (.invokevirtual 65, 3) := dk_1182 (dk_g tcL_law_52 9 rfl) (dk_g tcL_law_52 10 rfl) (dk_g tcL_law_52 11 rfl) rfl
theorem tcL_law_53 : (cL_law.data.toList.drop 636).take 12 = [87, 167, 6, 218, 43, 182, 0, 66, 87, 44, 182, 0] := dk_h tycL_law_3 60 (by decide +kernel)
theorem dL_law_636 : decode cL_law 636 = .ok (.pop, 1) := dk_1087 (dk_g tcL_law_53 0 rfl)
theorem dL_law_637 : decode cL_law 637 = .ok (.goto 1754, 3) := dk_2167 (dk_g tcL_law_53 1 rfl) (dk_g tcL_law_53 2 rfl) (dk_g tcL_law_53 3 rfl) rfl rfl
theorem dL_law_640 : decode cL_law 640 = .ok (.aload_n 1, 1) := dk_1043 (dk_g tcL_law_53 4 rfl)
theorem dL_law_641 : decode cL_law 641 = .ok (.invokevirtual 66, 3) := dk_1182 (dk_g tcL_law_53 5 rfl) (dk_g tcL_law_53 6 rfl) (dk_g tcL_law_53 7 rfl) rfl
theorem dL_law_644 : decode cL_law 644 = .ok (.pop, 1) := dk_1087 (dk_g tcL_law_53 8 rfl)
theorem dL_law_645 : decode cL_law 645 = .ok (.aload_n 2, 1) := dk_1044 (dk_g tcL_law_53 9 rfl)
theorem tcL_law_54 : (cL_law.data.toList.drop 648).take 12 = [69, 87, 167, 6, 205, 43, 42, 29, 4, 96, 46, 42] := dk_h tycL_law_3 72 (by decide +kernel)
theorem dL_law_646 : decode cL_law 646 = .ok (.invokevirtual 69, 3) := dk_1182 (dk_g tcL_law_53 10 rfl) (dk_g tcL_law_53 11 rfl) (dk_g tcL_law_54 0 rfl) rfl
theorem dL_law_649 : decode cL_law 649 = .ok (.pop, 1) := dk_1087 (dk_g tcL_law_54 1 rfl)
theorem dL_law_650 : decode cL_law 650 = .ok (.goto 1741, 3) := dk_2167 (dk_g tcL_law_54 2 rfl) (dk_g tcL_law_54 3 rfl) (dk_g tcL_law_54 4 rfl) rfl rfl
theorem dL_law_653 : decode cL_law 653 = .ok (.aload_n 1, 1) := dk_1043 (dk_g tcL_law_54 5 rfl)
theorem dL_law_654 : decode cL_law 654 = .ok (.aload_n 0, 1) := dk_1042 (dk_g tcL_law_54 6 rfl)
theorem dL_law_655 : decode cL_law 655 = .ok (.iload_n 3, 1) := dk_1029 (dk_g tcL_law_54 7 rfl)
theorem dL_law_656 : decode cL_law 656 = .ok (.iconst 1, 1) := dk_1004 (dk_g tcL_law_54 8 rfl)
theorem dL_law_657 : decode cL_law 657 = .ok (.iadd, 1) := dk_1096 (dk_g tcL_law_54 9 rfl)
theorem dL_law_658 : decode cL_law 658 = .ok (.iaload, 1) := dk_1046 (dk_g tcL_law_54 10 rfl)
theorem dL_law_659 : decode cL_law 659 = .ok (.aload_n 0, 1) := dk_1042 (dk_g tcL_law_54 11 rfl)
theorem tcL_law_55 : (cL_law.data.toList.drop 660).take 12 = [29, 5, 96, 46, 182, 0, 70, 87, 44, 42, 29, 4] := dk_h tycL_law_3 84 (by decide +kernel)
theorem dL_law_660 : decode cL_law 660 = .ok (.iload_n 3, 1) := dk_1029 (dk_g tcL_law_55 0 rfl)
theorem dL_law_661 : decode cL_law 661 = .ok (.iconst 2, 1) := dk_1005 (dk_g tcL_law_55 1 rfl)
theorem dL_law_662 : decode cL_law 662 = .ok (.iadd, 1) := dk_1096 (dk_g tcL_law_55 2 rfl)
theorem dL_law_663 : decode cL_law 663 = .ok (.iaload, 1) := dk_1046 (dk_g tcL_law_55 3 rfl)
theorem dL_law_664 : decode cL_law 664 = .ok (.invokevirtual 70, 3) := dk_1182 (dk_g tcL_law_55 4 rfl) (dk_g tcL_law_55 5 rfl) (dk_g tcL_law_55 6 rfl) rfl
theorem dL_law_667 : decode cL_law 667 = .ok (.pop, 1) := dk_1087 (dk_g tcL_law_55 7 rfl)
theorem dL_law_668 : decode cL_law 668 = .ok (.aload_n 2, 1) := dk_1044 (dk_g tcL_law_55 8 rfl)
theorem dL_law_669 : decode cL_law 669 = .ok (.aload_n 0, 1) := dk_1042 (dk_g tcL_law_55 9 rfl)
theorem dL_law_670 : decode cL_law 670 = .ok (.iload_n 3, 1) := dk_1029 (dk_g tcL_law_55 10 rfl)
theorem dL_law_671 : decode cL_law 671 = .ok (.iconst 1, 1) := dk_1004 (dk_g tcL_law_55 11 rfl)
theorem tcL_law_56 : (cL_law.data.toList.drop 672).take 12 = [96, 46, 42, 29, 5, 96, 46, 182, 0, 73, 87, 167] := dk_h tycL_law_3 96 (by decide +kernel)
theorem dL_law_672 : decode cL_law 672 = .ok (.iadd, 1) := dk_1096 (dk_g tcL_law_56 0 rfl)
theorem dL_law_673 : decode cL_law 673 = .ok (.iaload, 1) := dk_1046 (dk_g tcL_law_56 1 rfl)
theorem dL_law_674 : decode cL_law 674 = .ok (.aload_n 0, 1) := dk_1042 (dk_g tcL_law_56 2 rfl)
theorem dL_law_675 : decode cL_law 675 = .ok (.iload_n 3, 1) := dk_1029 (dk_g tcL_law_56 3 rfl)
theorem dL_law_676 : decode cL_law 676 = .ok (.iconst 2, 1) := dk_1005 (dk_g tcL_law_56 4 rfl)
theorem dL_law_677 : decode cL_law 677 = .ok (.iadd, 1) := dk_1096 (dk_g tcL_law_56 5 rfl)
theorem dL_law_678 : decode cL_law 678 = .ok (.iaload, 1) := dk_1046 (dk_g tcL_law_56 6 rfl)
theorem dL_law_679 : decode cL_law 679 = .ok (.invokevirtual 73, 3) := dk_1182 (dk_g tcL_law_56 7 rfl) (dk_g tcL_law_56 8 rfl) (dk_g tcL_law_56 9 rfl) rfl
theorem dL_law_682 : decode cL_law 682 = .ok (.pop, 1) := dk_1087 (dk_g tcL_law_56 10 rfl)
theorem tcL_law_57 : (cL_law.data.toList.drop 684).take 12 = [6, 172, 43, 42, 29, 4, 96, 46, 42, 29, 5, 96] := dk_h tycL_law_3 108 (by decide +kernel)
theorem dL_law_683 : decode cL_law 683 = .ok (.goto 1708, 3) := dk_2167 (dk_g tcL_law_56 11 rfl) (dk_g tcL_law_57 0 rfl) (dk_g tcL_law_57 1 rfl) rfl rfl
theorem dL_law_686 : decode cL_law 686 = .ok (.aload_n 1, 1) := dk_1043 (dk_g tcL_law_57 2 rfl)
theorem dL_law_687 : decode cL_law 687 = .ok (.aload_n 0, 1) := dk_1042 (dk_g tcL_law_57 3 rfl)
theorem dL_law_688 : decode cL_law 688 = .ok (.iload_n 3, 1) := dk_1029 (dk_g tcL_law_57 4 rfl)
theorem dL_law_689 : decode cL_law 689 = .ok (.iconst 1, 1) := dk_1004 (dk_g tcL_law_57 5 rfl)
theorem dL_law_690 : decode cL_law 690 = .ok (.iadd, 1) := dk_1096 (dk_g tcL_law_57 6 rfl)
theorem dL_law_691 : decode cL_law 691 = .ok (.iaload, 1) := dk_1046 (dk_g tcL_law_57 7 rfl)
theorem dL_law_692 : decode cL_law 692 = .ok (.aload_n 0, 1) := dk_1042 (dk_g tcL_law_57 8 rfl)
theorem dL_law_693 : decode cL_law 693 = .ok (.iload_n 3, 1) := dk_1029 (dk_g tcL_law_57 9 rfl)
theorem dL_law_694 : decode cL_law 694 = .ok (.iconst 2, 1) := dk_1005 (dk_g tcL_law_57 10 rfl)
theorem dL_law_695 : decode cL_law 695 = .ok (.iadd, 1) := dk_1096 (dk_g tcL_law_57 11 rfl)
theorem tcL_law_58 : (cL_law.data.toList.drop 696).take 12 = [46, 182, 0, 74, 87, 44, 42, 29, 4, 96, 46, 42] := dk_h tycL_law_3 120 (by decide +kernel)
theorem dL_law_696 : decode cL_law 696 = .ok (.iaload, 1) := dk_1046 (dk_g tcL_law_58 0 rfl)
theorem dL_law_697 : decode cL_law 697 = .ok (.invokevirtual 74, 3) := dk_1182 (dk_g tcL_law_58 1 rfl) (dk_g tcL_law_58 2 rfl) (dk_g tcL_law_58 3 rfl) rfl
theorem dL_law_700 : decode cL_law 700 = .ok (.pop, 1) := dk_1087 (dk_g tcL_law_58 4 rfl)
theorem dL_law_701 : decode cL_law 701 = .ok (.aload_n 2, 1) := dk_1044 (dk_g tcL_law_58 5 rfl)
theorem dL_law_702 : decode cL_law 702 = .ok (.aload_n 0, 1) := dk_1042 (dk_g tcL_law_58 6 rfl)
theorem dL_law_703 : decode cL_law 703 = .ok (.iload_n 3, 1) := dk_1029 (dk_g tcL_law_58 7 rfl)
theorem dL_law_704 : decode cL_law 704 = .ok (.iconst 1, 1) := dk_1004 (dk_g tcL_law_58 8 rfl)
theorem dL_law_705 : decode cL_law 705 = .ok (.iadd, 1) := dk_1096 (dk_g tcL_law_58 9 rfl)
theorem dL_law_706 : decode cL_law 706 = .ok (.iaload, 1) := dk_1046 (dk_g tcL_law_58 10 rfl)
theorem dL_law_707 : decode cL_law 707 = .ok (.aload_n 0, 1) := dk_1042 (dk_g tcL_law_58 11 rfl)
theorem tcL_law_59 : (cL_law.data.toList.drop 708).take 12 = [29, 5, 96, 46, 182, 0, 77, 87, 167, 6, 139, 43] := dk_h tycL_law_3 132 (by decide +kernel)
theorem dL_law_708 : decode cL_law 708 = .ok (.iload_n 3, 1) := dk_1029 (dk_g tcL_law_59 0 rfl)
theorem dL_law_709 : decode cL_law 709 = .ok (.iconst 2, 1) := dk_1005 (dk_g tcL_law_59 1 rfl)
theorem dL_law_710 : decode cL_law 710 = .ok (.iadd, 1) := dk_1096 (dk_g tcL_law_59 2 rfl)
theorem dL_law_711 : decode cL_law 711 = .ok (.iaload, 1) := dk_1046 (dk_g tcL_law_59 3 rfl)
theorem dL_law_712 : decode cL_law 712 = .ok (.invokevirtual 77, 3) := dk_1182 (dk_g tcL_law_59 4 rfl) (dk_g tcL_law_59 5 rfl) (dk_g tcL_law_59 6 rfl) rfl
theorem dL_law_715 : decode cL_law 715 = .ok (.pop, 1) := dk_1087 (dk_g tcL_law_59 7 rfl)
theorem dL_law_716 : decode cL_law 716 = .ok (.goto 1675, 3) := dk_2167 (dk_g tcL_law_59 8 rfl) (dk_g tcL_law_59 9 rfl) (dk_g tcL_law_59 10 rfl) rfl rfl
theorem dL_law_719 : decode cL_law 719 = .ok (.aload_n 1, 1) := dk_1043 (dk_g tcL_law_59 11 rfl)
theorem tcL_law_60 : (cL_law.data.toList.drop 720).take 12 = [42, 29, 4, 96, 46, 182, 0, 78, 87, 44, 42, 29] := dk_h tycL_law_3 144 (by decide +kernel)
theorem dL_law_720 : decode cL_law 720 = .ok (.aload_n 0, 1) := dk_1042 (dk_g tcL_law_60 0 rfl)
theorem dL_law_721 : decode cL_law 721 = .ok (.iload_n 3, 1) := dk_1029 (dk_g tcL_law_60 1 rfl)
theorem dL_law_722 : decode cL_law 722 = .ok (.iconst 1, 1) := dk_1004 (dk_g tcL_law_60 2 rfl)
theorem dL_law_723 : decode cL_law 723 = .ok (.iadd, 1) := dk_1096 (dk_g tcL_law_60 3 rfl)
theorem dL_law_724 : decode cL_law 724 = .ok (.iaload, 1) := dk_1046 (dk_g tcL_law_60 4 rfl)
theorem dL_law_725 : decode cL_law 725 = .ok (.invokevirtual 78, 3) := dk_1182 (dk_g tcL_law_60 5 rfl) (dk_g tcL_law_60 6 rfl) (dk_g tcL_law_60 7 rfl) rfl
theorem dL_law_728 : decode cL_law 728 = .ok (.pop, 1) := dk_1087 (dk_g tcL_law_60 8 rfl)
theorem dL_law_729 : decode cL_law 729 = .ok (.aload_n 2, 1) := dk_1044 (dk_g tcL_law_60 9 rfl)
theorem dL_law_730 : decode cL_law 730 = .ok (.aload_n 0, 1) := dk_1042 (dk_g tcL_law_60 10 rfl)
theorem dL_law_731 : decode cL_law 731 = .ok (.iload_n 3, 1) := dk_1029 (dk_g tcL_law_60 11 rfl)
theorem tcL_law_61 : (cL_law.data.toList.drop 732).take 12 = [4, 96, 46, 182, 0, 81, 87, 167, 6, 116, 43, 42] := dk_h tycL_law_3 156 (by decide +kernel)
theorem dL_law_732 : decode cL_law 732 = .ok (.iconst 1, 1) := dk_1004 (dk_g tcL_law_61 0 rfl)
theorem dL_law_733 : decode cL_law 733 = .ok (.iadd, 1) := dk_1096 (dk_g tcL_law_61 1 rfl)
theorem dL_law_734 : decode cL_law 734 = .ok (.iaload, 1) := dk_1046 (dk_g tcL_law_61 2 rfl)
theorem dL_law_735 : decode cL_law 735 = .ok (.invokevirtual 81, 3) := dk_1182 (dk_g tcL_law_61 3 rfl) (dk_g tcL_law_61 4 rfl) (dk_g tcL_law_61 5 rfl) rfl
theorem dL_law_738 : decode cL_law 738 = .ok (.pop, 1) := dk_1087 (dk_g tcL_law_61 6 rfl)
theorem dL_law_739 : decode cL_law 739 = .ok (.goto 1652, 3) := dk_2167 (dk_g tcL_law_61 7 rfl) (dk_g tcL_law_61 8 rfl) (dk_g tcL_law_61 9 rfl) rfl rfl
theorem dL_law_742 : decode cL_law 742 = .ok (.aload_n 1, 1) := dk_1043 (dk_g tcL_law_61 10 rfl)
theorem dL_law_743 : decode cL_law 743 = .ok (.aload_n 0, 1) := dk_1042 (dk_g tcL_law_61 11 rfl)
theorem tcL_law_62 : (cL_law.data.toList.drop 744).take 12 = [29, 4, 96, 46, 42, 29, 5, 96, 46, 182, 0, 82] := dk_h tycL_law_3 168 (by decide +kernel)
theorem dL_law_744 : decode cL_law 744 = .ok (.iload_n 3, 1) := dk_1029 (dk_g tcL_law_62 0 rfl)
theorem dL_law_745 : decode cL_law 745 = .ok (.iconst 1, 1) := dk_1004 (dk_g tcL_law_62 1 rfl)
theorem dL_law_746 : decode cL_law 746 = .ok (.iadd, 1) := dk_1096 (dk_g tcL_law_62 2 rfl)
theorem dL_law_747 : decode cL_law 747 = .ok (.iaload, 1) := dk_1046 (dk_g tcL_law_62 3 rfl)
theorem dL_law_748 : decode cL_law 748 = .ok (.aload_n 0, 1) := dk_1042 (dk_g tcL_law_62 4 rfl)
theorem dL_law_749 : decode cL_law 749 = .ok (.iload_n 3, 1) := dk_1029 (dk_g tcL_law_62 5 rfl)
theorem dL_law_750 : decode cL_law 750 = .ok (.iconst 2, 1) := dk_1005 (dk_g tcL_law_62 6 rfl)
theorem dL_law_751 : decode cL_law 751 = .ok (.iadd, 1) := dk_1096 (dk_g tcL_law_62 7 rfl)
theorem dL_law_752 : decode cL_law 752 = .ok (.iaload, 1) := dk_1046 (dk_g tcL_law_62 8 rfl)
theorem dL_law_753 : decode cL_law 753 = .ok (.invokevirtual 82, 3) := dk_1182 (dk_g tcL_law_62 9 rfl) (dk_g tcL_law_62 10 rfl) (dk_g tcL_law_62 11 rfl) rfl
theorem tcL_law_63 : (cL_law.data.toList.drop 756).take 12 = [87, 44, 42, 29, 4, 96, 46, 42, 29, 5, 96, 46] := dk_h tycL_law_3 180 (by decide +kernel)
theorem dL_law_756 : decode cL_law 756 = .ok (.pop, 1) := dk_1087 (dk_g tcL_law_63 0 rfl)
theorem dL_law_757 : decode cL_law 757 = .ok (.aload_n 2, 1) := dk_1044 (dk_g tcL_law_63 1 rfl)
theorem dL_law_758 : decode cL_law 758 = .ok (.aload_n 0, 1) := dk_1042 (dk_g tcL_law_63 2 rfl)
theorem dL_law_759 : decode cL_law 759 = .ok (.iload_n 3, 1) := dk_1029 (dk_g tcL_law_63 3 rfl)
theorem dL_law_760 : decode cL_law 760 = .ok (.iconst 1, 1) := dk_1004 (dk_g tcL_law_63 4 rfl)
theorem dL_law_761 : decode cL_law 761 = .ok (.iadd, 1) := dk_1096 (dk_g tcL_law_63 5 rfl)
theorem dL_law_762 : decode cL_law 762 = .ok (.iaload, 1) := dk_1046 (dk_g tcL_law_63 6 rfl)
theorem dL_law_763 : decode cL_law 763 = .ok (.aload_n 0, 1) := dk_1042 (dk_g tcL_law_63 7 rfl)
theorem dL_law_764 : decode cL_law 764 = .ok (.iload_n 3, 1) := dk_1029 (dk_g tcL_law_63 8 rfl)
theorem dL_law_765 : decode cL_law 765 = .ok (.iconst 2, 1) := dk_1005 (dk_g tcL_law_63 9 rfl)
theorem dL_law_766 : decode cL_law 766 = .ok (.iadd, 1) := dk_1096 (dk_g tcL_law_63 10 rfl)
theorem dL_law_767 : decode cL_law 767 = .ok (.iaload, 1) := dk_1046 (dk_g tcL_law_63 11 rfl)
set_option maxRecDepth 100000 in
noncomputable def tzcL_law_4 : { l : List UInt8 // List.drop 192 (tzcL_law_3.1) = l } := by
  constructor
  conv => lhs; whnf
theorem tycL_law_4 : cL_law.data.toList.drop 768 = tzcL_law_4.1 := dk_z tycL_law_3 tzcL_law_4.2
theorem tcL_law_64 : (cL_law.data.toList.drop 768).take 12 = [182, 0, 85, 87, 167, 6, 83, 43, 42, 29, 4, 96] := dk_h tycL_law_4 0 (by decide +kernel)
theorem dL_law_768 : decode cL_law 768 = .ok (.invokevirtual 85, 3) := dk_1182 (dk_g tcL_law_64 0 rfl) (dk_g tcL_law_64 1 rfl) (dk_g tcL_law_64 2 rfl) rfl
theorem dL_law_771 : decode cL_law 771 = .ok (.pop, 1) := dk_1087 (dk_g tcL_law_64 3 rfl)
theorem dL_law_772 : decode cL_law 772 = .ok (.goto 1619, 3) := dk_2167 (dk_g tcL_law_64 4 rfl) (dk_g tcL_law_64 5 rfl) (dk_g tcL_law_64 6 rfl) rfl rfl
theorem dL_law_775 : decode cL_law 775 = .ok (.aload_n 1, 1) := dk_1043 (dk_g tcL_law_64 7 rfl)
theorem dL_law_776 : decode cL_law 776 = .ok (.aload_n 0, 1) := dk_1042 (dk_g tcL_law_64 8 rfl)
theorem dL_law_777 : decode cL_law 777 = .ok (.iload_n 3, 1) := dk_1029 (dk_g tcL_law_64 9 rfl)
theorem dL_law_778 : decode cL_law 778 = .ok (.iconst 1, 1) := dk_1004 (dk_g tcL_law_64 10 rfl)
theorem dL_law_779 : decode cL_law 779 = .ok (.iadd, 1) := dk_1096 (dk_g tcL_law_64 11 rfl)
theorem tcL_law_65 : (cL_law.data.toList.drop 780).take 12 = [46, 182, 0, 86, 87, 44, 42, 29, 4, 96, 46, 182] := dk_h tycL_law_4 12 (by decide +kernel)
theorem dL_law_780 : decode cL_law 780 = .ok (.iaload, 1) := dk_1046 (dk_g tcL_law_65 0 rfl)
theorem dL_law_781 : decode cL_law 781 = .ok (.invokevirtual 86, 3) := dk_1182 (dk_g tcL_law_65 1 rfl) (dk_g tcL_law_65 2 rfl) (dk_g tcL_law_65 3 rfl) rfl
theorem dL_law_784 : decode cL_law 784 = .ok (.pop, 1) := dk_1087 (dk_g tcL_law_65 4 rfl)
theorem dL_law_785 : decode cL_law 785 = .ok (.aload_n 2, 1) := dk_1044 (dk_g tcL_law_65 5 rfl)
theorem dL_law_786 : decode cL_law 786 = .ok (.aload_n 0, 1) := dk_1042 (dk_g tcL_law_65 6 rfl)
theorem dL_law_787 : decode cL_law 787 = .ok (.iload_n 3, 1) := dk_1029 (dk_g tcL_law_65 7 rfl)
theorem dL_law_788 : decode cL_law 788 = .ok (.iconst 1, 1) := dk_1004 (dk_g tcL_law_65 8 rfl)
theorem dL_law_789 : decode cL_law 789 = .ok (.iadd, 1) := dk_1096 (dk_g tcL_law_65 9 rfl)
theorem dL_law_790 : decode cL_law 790 = .ok (.iaload, 1) := dk_1046 (dk_g tcL_law_65 10 rfl)
theorem tcL_law_66 : (cL_law.data.toList.drop 792).take 12 = [0, 89, 87, 167, 6, 60, 43, 42, 29, 4, 96, 46] := dk_h tycL_law_4 24 (by decide +kernel)
theorem dL_law_791 : decode cL_law 791 = .ok (.invokevirtual 89, 3) := dk_1182 (dk_g tcL_law_65 11 rfl) (dk_g tcL_law_66 0 rfl) (dk_g tcL_law_66 1 rfl) rfl
theorem dL_law_794 : decode cL_law 794 = .ok (.pop, 1) := dk_1087 (dk_g tcL_law_66 2 rfl)
theorem dL_law_795 : decode cL_law 795 = .ok (.goto 1596, 3) := dk_2167 (dk_g tcL_law_66 3 rfl) (dk_g tcL_law_66 4 rfl) (dk_g tcL_law_66 5 rfl) rfl rfl
theorem dL_law_798 : decode cL_law 798 = .ok (.aload_n 1, 1) := dk_1043 (dk_g tcL_law_66 6 rfl)
theorem dL_law_799 : decode cL_law 799 = .ok (.aload_n 0, 1) := dk_1042 (dk_g tcL_law_66 7 rfl)
theorem dL_law_800 : decode cL_law 800 = .ok (.iload_n 3, 1) := dk_1029 (dk_g tcL_law_66 8 rfl)
theorem dL_law_801 : decode cL_law 801 = .ok (.iconst 1, 1) := dk_1004 (dk_g tcL_law_66 9 rfl)
theorem dL_law_802 : decode cL_law 802 = .ok (.iadd, 1) := dk_1096 (dk_g tcL_law_66 10 rfl)
theorem dL_law_803 : decode cL_law 803 = .ok (.iaload, 1) := dk_1046 (dk_g tcL_law_66 11 rfl)
theorem tcL_law_67 : (cL_law.data.toList.drop 804).take 12 = [42, 29, 5, 96, 46, 42, 29, 6, 96, 46, 182, 0] := dk_h tycL_law_4 36 (by decide +kernel)
theorem dL_law_804 : decode cL_law 804 = .ok (.aload_n 0, 1) := dk_1042 (dk_g tcL_law_67 0 rfl)
theorem dL_law_805 : decode cL_law 805 = .ok (.iload_n 3, 1) := dk_1029 (dk_g tcL_law_67 1 rfl)
theorem dL_law_806 : decode cL_law 806 = .ok (.iconst 2, 1) := dk_1005 (dk_g tcL_law_67 2 rfl)
theorem dL_law_807 : decode cL_law 807 = .ok (.iadd, 1) := dk_1096 (dk_g tcL_law_67 3 rfl)
theorem dL_law_808 : decode cL_law 808 = .ok (.iaload, 1) := dk_1046 (dk_g tcL_law_67 4 rfl)
theorem dL_law_809 : decode cL_law 809 = .ok (.aload_n 0, 1) := dk_1042 (dk_g tcL_law_67 5 rfl)
theorem dL_law_810 : decode cL_law 810 = .ok (.iload_n 3, 1) := dk_1029 (dk_g tcL_law_67 6 rfl)
theorem dL_law_811 : decode cL_law 811 = .ok (.iconst 3, 1) := dk_1006 (dk_g tcL_law_67 7 rfl)
theorem dL_law_812 : decode cL_law 812 = .ok (.iadd, 1) := dk_1096 (dk_g tcL_law_67 8 rfl)
theorem dL_law_813 : decode cL_law 813 = .ok (.iaload, 1) := dk_1046 (dk_g tcL_law_67 9 rfl)
theorem tcL_law_68 : (cL_law.data.toList.drop 816).take 12 = [90, 87, 44, 42, 29, 4, 96, 46, 42, 29, 5, 96] := dk_h tycL_law_4 48 (by decide +kernel)
theorem dL_law_814 : decode cL_law 814 = .ok (.invokevirtual 90, 3) := dk_1182 (dk_g tcL_law_67 10 rfl) (dk_g tcL_law_67 11 rfl) (dk_g tcL_law_68 0 rfl) rfl
theorem dL_law_817 : decode cL_law 817 = .ok (.pop, 1) := dk_1087 (dk_g tcL_law_68 1 rfl)
theorem dL_law_818 : decode cL_law 818 = .ok (.aload_n 2, 1) := dk_1044 (dk_g tcL_law_68 2 rfl)
theorem dL_law_819 : decode cL_law 819 = .ok (.aload_n 0, 1) := dk_1042 (dk_g tcL_law_68 3 rfl)
theorem dL_law_820 : decode cL_law 820 = .ok (.iload_n 3, 1) := dk_1029 (dk_g tcL_law_68 4 rfl)
theorem dL_law_821 : decode cL_law 821 = .ok (.iconst 1, 1) := dk_1004 (dk_g tcL_law_68 5 rfl)
theorem dL_law_822 : decode cL_law 822 = .ok (.iadd, 1) := dk_1096 (dk_g tcL_law_68 6 rfl)
theorem dL_law_823 : decode cL_law 823 = .ok (.iaload, 1) := dk_1046 (dk_g tcL_law_68 7 rfl)
theorem dL_law_824 : decode cL_law 824 = .ok (.aload_n 0, 1) := dk_1042 (dk_g tcL_law_68 8 rfl)
theorem dL_law_825 : decode cL_law 825 = .ok (.iload_n 3, 1) := dk_1029 (dk_g tcL_law_68 9 rfl)
theorem dL_law_826 : decode cL_law 826 = .ok (.iconst 2, 1) := dk_1005 (dk_g tcL_law_68 10 rfl)
theorem dL_law_827 : decode cL_law 827 = .ok (.iadd, 1) := dk_1096 (dk_g tcL_law_68 11 rfl)
theorem tcL_law_69 : (cL_law.data.toList.drop 828).take 12 = [46, 42, 29, 6, 96, 46, 182, 0, 93, 87, 167, 6] := dk_h tycL_law_4 60 (by decide +kernel)
theorem dL_law_828 : decode cL_law 828 = .ok (.iaload, 1) := dk_1046 (dk_g tcL_law_69 0 rfl)
theorem dL_law_829 : decode cL_law 829 = .ok (.aload_n 0, 1) := dk_1042 (dk_g tcL_law_69 1 rfl)
theorem dL_law_830 : decode cL_law 830 = .ok (.iload_n 3, 1) := dk_1029 (dk_g tcL_law_69 2 rfl)
theorem dL_law_831 : decode cL_law 831 = .ok (.iconst 3, 1) := dk_1006 (dk_g tcL_law_69 3 rfl)
theorem dL_law_832 : decode cL_law 832 = .ok (.iadd, 1) := dk_1096 (dk_g tcL_law_69 4 rfl)
theorem dL_law_833 : decode cL_law 833 = .ok (.iaload, 1) := dk_1046 (dk_g tcL_law_69 5 rfl)
theorem dL_law_834 : decode cL_law 834 = .ok (.invokevirtual 93, 3) := dk_1182 (dk_g tcL_law_69 6 rfl) (dk_g tcL_law_69 7 rfl) (dk_g tcL_law_69 8 rfl) rfl
theorem dL_law_837 : decode cL_law 837 = .ok (.pop, 1) := dk_1087 (dk_g tcL_law_69 9 rfl)
theorem tcL_law_70 : (cL_law.data.toList.drop 840).take 12 = [17, 43, 42, 29, 4, 96, 46, 42, 29, 5, 96, 46] := dk_h tycL_law_4 72 (by decide +kernel)
theorem dL_law_838 : decode cL_law 838 = .ok (.goto 1553, 3) := dk_2167 (dk_g tcL_law_69 10 rfl) (dk_g tcL_law_69 11 rfl) (dk_g tcL_law_70 0 rfl) rfl rfl
theorem dL_law_841 : decode cL_law 841 = .ok (.aload_n 1, 1) := dk_1043 (dk_g tcL_law_70 1 rfl)
theorem dL_law_842 : decode cL_law 842 = .ok (.aload_n 0, 1) := dk_1042 (dk_g tcL_law_70 2 rfl)
theorem dL_law_843 : decode cL_law 843 = .ok (.iload_n 3, 1) := dk_1029 (dk_g tcL_law_70 3 rfl)
theorem dL_law_844 : decode cL_law 844 = .ok (.iconst 1, 1) := dk_1004 (dk_g tcL_law_70 4 rfl)
theorem dL_law_845 : decode cL_law 845 = .ok (.iadd, 1) := dk_1096 (dk_g tcL_law_70 5 rfl)
theorem dL_law_846 : decode cL_law 846 = .ok (.iaload, 1) := dk_1046 (dk_g tcL_law_70 6 rfl)
theorem dL_law_847 : decode cL_law 847 = .ok (.aload_n 0, 1) := dk_1042 (dk_g tcL_law_70 7 rfl)
theorem dL_law_848 : decode cL_law 848 = .ok (.iload_n 3, 1) := dk_1029 (dk_g tcL_law_70 8 rfl)
theorem dL_law_849 : decode cL_law 849 = .ok (.iconst 2, 1) := dk_1005 (dk_g tcL_law_70 9 rfl)
theorem dL_law_850 : decode cL_law 850 = .ok (.iadd, 1) := dk_1096 (dk_g tcL_law_70 10 rfl)
theorem dL_law_851 : decode cL_law 851 = .ok (.iaload, 1) := dk_1046 (dk_g tcL_law_70 11 rfl)
theorem tcL_law_71 : (cL_law.data.toList.drop 852).take 12 = [42, 29, 6, 96, 46, 182, 0, 94, 87, 44, 42, 29] := dk_h tycL_law_4 84 (by decide +kernel)
theorem dL_law_852 : decode cL_law 852 = .ok (.aload_n 0, 1) := dk_1042 (dk_g tcL_law_71 0 rfl)
theorem dL_law_853 : decode cL_law 853 = .ok (.iload_n 3, 1) := dk_1029 (dk_g tcL_law_71 1 rfl)
theorem dL_law_854 : decode cL_law 854 = .ok (.iconst 3, 1) := dk_1006 (dk_g tcL_law_71 2 rfl)
theorem dL_law_855 : decode cL_law 855 = .ok (.iadd, 1) := dk_1096 (dk_g tcL_law_71 3 rfl)
theorem dL_law_856 : decode cL_law 856 = .ok (.iaload, 1) := dk_1046 (dk_g tcL_law_71 4 rfl)
theorem dL_law_857 : decode cL_law 857 = .ok (.invokevirtual 94, 3) := dk_1182 (dk_g tcL_law_71 5 rfl) (dk_g tcL_law_71 6 rfl) (dk_g tcL_law_71 7 rfl) rfl
theorem dL_law_860 : decode cL_law 860 = .ok (.pop, 1) := dk_1087 (dk_g tcL_law_71 8 rfl)
theorem dL_law_861 : decode cL_law 861 = .ok (.aload_n 2, 1) := dk_1044 (dk_g tcL_law_71 9 rfl)
theorem dL_law_862 : decode cL_law 862 = .ok (.aload_n 0, 1) := dk_1042 (dk_g tcL_law_71 10 rfl)
theorem dL_law_863 : decode cL_law 863 = .ok (.iload_n 3, 1) := dk_1029 (dk_g tcL_law_71 11 rfl)
theorem tcL_law_72 : (cL_law.data.toList.drop 864).take 12 = [4, 96, 46, 42, 29, 5, 96, 46, 42, 29, 6, 96] := dk_h tycL_law_4 96 (by decide +kernel)
theorem dL_law_864 : decode cL_law 864 = .ok (.iconst 1, 1) := dk_1004 (dk_g tcL_law_72 0 rfl)
theorem dL_law_865 : decode cL_law 865 = .ok (.iadd, 1) := dk_1096 (dk_g tcL_law_72 1 rfl)
theorem dL_law_866 : decode cL_law 866 = .ok (.iaload, 1) := dk_1046 (dk_g tcL_law_72 2 rfl)
theorem dL_law_867 : decode cL_law 867 = .ok (.aload_n 0, 1) := dk_1042 (dk_g tcL_law_72 3 rfl)
theorem dL_law_868 : decode cL_law 868 = .ok (.iload_n 3, 1) := dk_1029 (dk_g tcL_law_72 4 rfl)
theorem dL_law_869 : decode cL_law 869 = .ok (.iconst 2, 1) := dk_1005 (dk_g tcL_law_72 5 rfl)
theorem dL_law_870 : decode cL_law 870 = .ok (.iadd, 1) := dk_1096 (dk_g tcL_law_72 6 rfl)
theorem dL_law_871 : decode cL_law 871 = .ok (.iaload, 1) := dk_1046 (dk_g tcL_law_72 7 rfl)
theorem dL_law_872 : decode cL_law 872 = .ok (.aload_n 0, 1) := dk_1042 (dk_g tcL_law_72 8 rfl)
theorem dL_law_873 : decode cL_law 873 = .ok (.iload_n 3, 1) := dk_1029 (dk_g tcL_law_72 9 rfl)
theorem dL_law_874 : decode cL_law 874 = .ok (.iconst 3, 1) := dk_1006 (dk_g tcL_law_72 10 rfl)
theorem dL_law_875 : decode cL_law 875 = .ok (.iadd, 1) := dk_1096 (dk_g tcL_law_72 11 rfl)
theorem tcL_law_73 : (cL_law.data.toList.drop 876).take 12 = [46, 182, 0, 97, 87, 167, 5, 230, 43, 42, 29, 4] := dk_h tycL_law_4 108 (by decide +kernel)
theorem dL_law_876 : decode cL_law 876 = .ok (.iaload, 1) := dk_1046 (dk_g tcL_law_73 0 rfl)
theorem dL_law_877 : decode cL_law 877 = .ok (.invokevirtual 97, 3) := dk_1182 (dk_g tcL_law_73 1 rfl) (dk_g tcL_law_73 2 rfl) (dk_g tcL_law_73 3 rfl) rfl
theorem dL_law_880 : decode cL_law 880 = .ok (.pop, 1) := dk_1087 (dk_g tcL_law_73 4 rfl)
theorem dL_law_881 : decode cL_law 881 = .ok (.goto 1510, 3) := dk_2167 (dk_g tcL_law_73 5 rfl) (dk_g tcL_law_73 6 rfl) (dk_g tcL_law_73 7 rfl) rfl rfl
theorem dL_law_884 : decode cL_law 884 = .ok (.aload_n 1, 1) := dk_1043 (dk_g tcL_law_73 8 rfl)
theorem dL_law_885 : decode cL_law 885 = .ok (.aload_n 0, 1) := dk_1042 (dk_g tcL_law_73 9 rfl)
theorem dL_law_886 : decode cL_law 886 = .ok (.iload_n 3, 1) := dk_1029 (dk_g tcL_law_73 10 rfl)
theorem dL_law_887 : decode cL_law 887 = .ok (.iconst 1, 1) := dk_1004 (dk_g tcL_law_73 11 rfl)
theorem tcL_law_74 : (cL_law.data.toList.drop 888).take 12 = [96, 46, 42, 29, 5, 96, 46, 42, 29, 6, 96, 46] := dk_h tycL_law_4 120 (by decide +kernel)
theorem dL_law_888 : decode cL_law 888 = .ok (.iadd, 1) := dk_1096 (dk_g tcL_law_74 0 rfl)
theorem dL_law_889 : decode cL_law 889 = .ok (.iaload, 1) := dk_1046 (dk_g tcL_law_74 1 rfl)
theorem dL_law_890 : decode cL_law 890 = .ok (.aload_n 0, 1) := dk_1042 (dk_g tcL_law_74 2 rfl)
theorem dL_law_891 : decode cL_law 891 = .ok (.iload_n 3, 1) := dk_1029 (dk_g tcL_law_74 3 rfl)
theorem dL_law_892 : decode cL_law 892 = .ok (.iconst 2, 1) := dk_1005 (dk_g tcL_law_74 4 rfl)
theorem dL_law_893 : decode cL_law 893 = .ok (.iadd, 1) := dk_1096 (dk_g tcL_law_74 5 rfl)
theorem dL_law_894 : decode cL_law 894 = .ok (.iaload, 1) := dk_1046 (dk_g tcL_law_74 6 rfl)
theorem dL_law_895 : decode cL_law 895 = .ok (.aload_n 0, 1) := dk_1042 (dk_g tcL_law_74 7 rfl)
theorem dL_law_896 : decode cL_law 896 = .ok (.iload_n 3, 1) := dk_1029 (dk_g tcL_law_74 8 rfl)
theorem dL_law_897 : decode cL_law 897 = .ok (.iconst 3, 1) := dk_1006 (dk_g tcL_law_74 9 rfl)
theorem dL_law_898 : decode cL_law 898 = .ok (.iadd, 1) := dk_1096 (dk_g tcL_law_74 10 rfl)
theorem dL_law_899 : decode cL_law 899 = .ok (.iaload, 1) := dk_1046 (dk_g tcL_law_74 11 rfl)
theorem tcL_law_75 : (cL_law.data.toList.drop 900).take 12 = [42, 29, 7, 96, 46, 182, 0, 98, 87, 44, 42, 29] := dk_h tycL_law_4 132 (by decide +kernel)
theorem dL_law_900 : decode cL_law 900 = .ok (.aload_n 0, 1) := dk_1042 (dk_g tcL_law_75 0 rfl)
theorem dL_law_901 : decode cL_law 901 = .ok (.iload_n 3, 1) := dk_1029 (dk_g tcL_law_75 1 rfl)
theorem dL_law_902 : decode cL_law 902 = .ok (.iconst 4, 1) := dk_1007 (dk_g tcL_law_75 2 rfl)
theorem dL_law_903 : decode cL_law 903 = .ok (.iadd, 1) := dk_1096 (dk_g tcL_law_75 3 rfl)
theorem dL_law_904 : decode cL_law 904 = .ok (.iaload, 1) := dk_1046 (dk_g tcL_law_75 4 rfl)
theorem dL_law_905 : decode cL_law 905 = .ok (.invokevirtual 98, 3) := dk_1182 (dk_g tcL_law_75 5 rfl) (dk_g tcL_law_75 6 rfl) (dk_g tcL_law_75 7 rfl) rfl
theorem dL_law_908 : decode cL_law 908 = .ok (.pop, 1) := dk_1087 (dk_g tcL_law_75 8 rfl)
theorem dL_law_909 : decode cL_law 909 = .ok (.aload_n 2, 1) := dk_1044 (dk_g tcL_law_75 9 rfl)
theorem dL_law_910 : decode cL_law 910 = .ok (.aload_n 0, 1) := dk_1042 (dk_g tcL_law_75 10 rfl)
theorem dL_law_911 : decode cL_law 911 = .ok (.iload_n 3, 1) := dk_1029 (dk_g tcL_law_75 11 rfl)
theorem tcL_law_76 : (cL_law.data.toList.drop 912).take 12 = [4, 96, 46, 42, 29, 5, 96, 46, 42, 29, 6, 96] := dk_h tycL_law_4 144 (by decide +kernel)
theorem dL_law_912 : decode cL_law 912 = .ok (.iconst 1, 1) := dk_1004 (dk_g tcL_law_76 0 rfl)
theorem dL_law_913 : decode cL_law 913 = .ok (.iadd, 1) := dk_1096 (dk_g tcL_law_76 1 rfl)
theorem dL_law_914 : decode cL_law 914 = .ok (.iaload, 1) := dk_1046 (dk_g tcL_law_76 2 rfl)
theorem dL_law_915 : decode cL_law 915 = .ok (.aload_n 0, 1) := dk_1042 (dk_g tcL_law_76 3 rfl)
theorem dL_law_916 : decode cL_law 916 = .ok (.iload_n 3, 1) := dk_1029 (dk_g tcL_law_76 4 rfl)
theorem dL_law_917 : decode cL_law 917 = .ok (.iconst 2, 1) := dk_1005 (dk_g tcL_law_76 5 rfl)
theorem dL_law_918 : decode cL_law 918 = .ok (.iadd, 1) := dk_1096 (dk_g tcL_law_76 6 rfl)
theorem dL_law_919 : decode cL_law 919 = .ok (.iaload, 1) := dk_1046 (dk_g tcL_law_76 7 rfl)
theorem dL_law_920 : decode cL_law 920 = .ok (.aload_n 0, 1) := dk_1042 (dk_g tcL_law_76 8 rfl)
theorem dL_law_921 : decode cL_law 921 = .ok (.iload_n 3, 1) := dk_1029 (dk_g tcL_law_76 9 rfl)
theorem dL_law_922 : decode cL_law 922 = .ok (.iconst 3, 1) := dk_1006 (dk_g tcL_law_76 10 rfl)
theorem dL_law_923 : decode cL_law 923 = .ok (.iadd, 1) := dk_1096 (dk_g tcL_law_76 11 rfl)
theorem tcL_law_77 : (cL_law.data.toList.drop 924).take 12 = [46, 42, 29, 7, 96, 46, 182, 0, 102, 87, 167, 5] := dk_h tycL_law_4 156 (by decide +kernel)
theorem dL_law_924 : decode cL_law 924 = .ok (.iaload, 1) := dk_1046 (dk_g tcL_law_77 0 rfl)
theorem dL_law_925 : decode cL_law 925 = .ok (.aload_n 0, 1) := dk_1042 (dk_g tcL_law_77 1 rfl)
theorem dL_law_926 : decode cL_law 926 = .ok (.iload_n 3, 1) := dk_1029 (dk_g tcL_law_77 2 rfl)
theorem dL_law_927 : decode cL_law 927 = .ok (.iconst 4, 1) := dk_1007 (dk_g tcL_law_77 3 rfl)
theorem dL_law_928 : decode cL_law 928 = .ok (.iadd, 1) := dk_1096 (dk_g tcL_law_77 4 rfl)
theorem dL_law_929 : decode cL_law 929 = .ok (.iaload, 1) := dk_1046 (dk_g tcL_law_77 5 rfl)
theorem dL_law_930 : decode cL_law 930 = .ok (.invokevirtual 102, 3) := dk_1182 (dk_g tcL_law_77 6 rfl) (dk_g tcL_law_77 7 rfl) (dk_g tcL_law_77 8 rfl) rfl
theorem dL_law_933 : decode cL_law 933 = .ok (.pop, 1) := dk_1087 (dk_g tcL_law_77 9 rfl)
theorem tcL_law_78 : (cL_law.data.toList.drop 936).take 12 = [177, 43, 42, 29, 4, 96, 46, 182, 0, 103, 87, 44] := dk_h tycL_law_4 168 (by decide +kernel)
theorem dL_law_934 : decode cL_law 934 = .ok (.goto 1457, 3) := dk_2167 (dk_g tcL_law_77 10 rfl) (dk_g tcL_law_77 11 rfl) (dk_g tcL_law_78 0 rfl) rfl rfl
theorem dL_law_937 : decode cL_law 937 = .ok (.aload_n 1, 1) := dk_1043 (dk_g tcL_law_78 1 rfl)
theorem dL_law_938 : decode cL_law 938 = .ok (.aload_n 0, 1) := dk_1042 (dk_g tcL_law_78 2 rfl)
theorem dL_law_939 : decode cL_law 939 = .ok (.iload_n 3, 1) := dk_1029 (dk_g tcL_law_78 3 rfl)
theorem dL_law_940 : decode cL_law 940 = .ok (.iconst 1, 1) := dk_1004 (dk_g tcL_law_78 4 rfl)
theorem dL_law_941 : decode cL_law 941 = .ok (.iadd, 1) := dk_1096 (dk_g tcL_law_78 5 rfl)
theorem dL_law_942 : decode cL_law 942 = .ok (.iaload, 1) := dk_1046 (dk_g tcL_law_78 6 rfl)
theorem dL_law_943 : decode cL_law 943 = .ok (.invokevirtual 103, 3) := dk_1182 (dk_g tcL_law_78 7 rfl) (dk_g tcL_law_78 8 rfl) (dk_g tcL_law_78 9 rfl) rfl
theorem dL_law_946 : decode cL_law 946 = .ok (.pop, 1) := dk_1087 (dk_g tcL_law_78 10 rfl)
theorem dL_law_947 : decode cL_law 947 = .ok (.aload_n 2, 1) := dk_1044 (dk_g tcL_law_78 11 rfl)
theorem tcL_law_79 : (cL_law.data.toList.drop 948).take 12 = [42, 29, 4, 96, 46, 182, 0, 106, 87, 167, 5, 154] := dk_h tycL_law_4 180 (by decide +kernel)
theorem dL_law_948 : decode cL_law 948 = .ok (.aload_n 0, 1) := dk_1042 (dk_g tcL_law_79 0 rfl)
theorem dL_law_949 : decode cL_law 949 = .ok (.iload_n 3, 1) := dk_1029 (dk_g tcL_law_79 1 rfl)
theorem dL_law_950 : decode cL_law 950 = .ok (.iconst 1, 1) := dk_1004 (dk_g tcL_law_79 2 rfl)
theorem dL_law_951 : decode cL_law 951 = .ok (.iadd, 1) := dk_1096 (dk_g tcL_law_79 3 rfl)
theorem dL_law_952 : decode cL_law 952 = .ok (.iaload, 1) := dk_1046 (dk_g tcL_law_79 4 rfl)
theorem dL_law_953 : decode cL_law 953 = .ok (.invokevirtual 106, 3) := dk_1182 (dk_g tcL_law_79 5 rfl) (dk_g tcL_law_79 6 rfl) (dk_g tcL_law_79 7 rfl) rfl
theorem dL_law_956 : decode cL_law 956 = .ok (.pop, 1) := dk_1087 (dk_g tcL_law_79 8 rfl)
theorem dL_law_957 : decode cL_law 957 = .ok (.goto 1434, 3) := dk_2167 (dk_g tcL_law_79 9 rfl) (dk_g tcL_law_79 10 rfl) (dk_g tcL_law_79 11 rfl) rfl rfl
set_option maxRecDepth 100000 in
noncomputable def tzcL_law_5 : { l : List UInt8 // List.drop 192 (tzcL_law_4.1) = l } := by
  constructor
  conv => lhs; whnf
theorem tycL_law_5 : cL_law.data.toList.drop 960 = tzcL_law_5.1 := dk_z tycL_law_4 tzcL_law_5.2
theorem tcL_law_80 : (cL_law.data.toList.drop 960).take 12 = [43, 42, 29, 4, 96, 46, 42, 29, 5, 96, 46, 182] := dk_h tycL_law_5 0 (by decide +kernel)
theorem dL_law_960 : decode cL_law 960 = .ok (.aload_n 1, 1) := dk_1043 (dk_g tcL_law_80 0 rfl)
theorem dL_law_961 : decode cL_law 961 = .ok (.aload_n 0, 1) := dk_1042 (dk_g tcL_law_80 1 rfl)
theorem dL_law_962 : decode cL_law 962 = .ok (.iload_n 3, 1) := dk_1029 (dk_g tcL_law_80 2 rfl)
theorem dL_law_963 : decode cL_law 963 = .ok (.iconst 1, 1) := dk_1004 (dk_g tcL_law_80 3 rfl)
theorem dL_law_964 : decode cL_law 964 = .ok (.iadd, 1) := dk_1096 (dk_g tcL_law_80 4 rfl)
theorem dL_law_965 : decode cL_law 965 = .ok (.iaload, 1) := dk_1046 (dk_g tcL_law_80 5 rfl)
theorem dL_law_966 : decode cL_law 966 = .ok (.aload_n 0, 1) := dk_1042 (dk_g tcL_law_80 6 rfl)
theorem dL_law_967 : decode cL_law 967 = .ok (.iload_n 3, 1) := dk_1029 (dk_g tcL_law_80 7 rfl)
theorem dL_law_968 : decode cL_law 968 = .ok (.iconst 2, 1) := dk_1005 (dk_g tcL_law_80 8 rfl)
theorem dL_law_969 : decode cL_law 969 = .ok (.iadd, 1) := dk_1096 (dk_g tcL_law_80 9 rfl)
theorem dL_law_970 : decode cL_law 970 = .ok (.iaload, 1) := dk_1046 (dk_g tcL_law_80 10 rfl)
theorem tcL_law_81 : (cL_law.data.toList.drop 972).take 12 = [0, 107, 87, 44, 42, 29, 4, 96, 46, 42, 29, 5] := dk_h tycL_law_5 12 (by decide +kernel)
theorem dL_law_971 : decode cL_law 971 = .ok (.invokevirtual 107, 3) := dk_1182 (dk_g tcL_law_80 11 rfl) (dk_g tcL_law_81 0 rfl) (dk_g tcL_law_81 1 rfl) rfl
theorem dL_law_974 : decode cL_law 974 = .ok (.pop, 1) := dk_1087 (dk_g tcL_law_81 2 rfl)
theorem dL_law_975 : decode cL_law 975 = .ok (.aload_n 2, 1) := dk_1044 (dk_g tcL_law_81 3 rfl)
theorem dL_law_976 : decode cL_law 976 = .ok (.aload_n 0, 1) := dk_1042 (dk_g tcL_law_81 4 rfl)
theorem dL_law_977 : decode cL_law 977 = .ok (.iload_n 3, 1) := dk_1029 (dk_g tcL_law_81 5 rfl)
theorem dL_law_978 : decode cL_law 978 = .ok (.iconst 1, 1) := dk_1004 (dk_g tcL_law_81 6 rfl)
theorem dL_law_979 : decode cL_law 979 = .ok (.iadd, 1) := dk_1096 (dk_g tcL_law_81 7 rfl)
theorem dL_law_980 : decode cL_law 980 = .ok (.iaload, 1) := dk_1046 (dk_g tcL_law_81 8 rfl)
theorem dL_law_981 : decode cL_law 981 = .ok (.aload_n 0, 1) := dk_1042 (dk_g tcL_law_81 9 rfl)
theorem dL_law_982 : decode cL_law 982 = .ok (.iload_n 3, 1) := dk_1029 (dk_g tcL_law_81 10 rfl)
theorem dL_law_983 : decode cL_law 983 = .ok (.iconst 2, 1) := dk_1005 (dk_g tcL_law_81 11 rfl)
theorem tcL_law_82 : (cL_law.data.toList.drop 984).take 12 = [96, 46, 182, 0, 110, 87, 167, 5, 121, 43, 42, 29] := dk_h tycL_law_5 24 (by decide +kernel)
theorem dL_law_984 : decode cL_law 984 = .ok (.iadd, 1) := dk_1096 (dk_g tcL_law_82 0 rfl)
theorem dL_law_985 : decode cL_law 985 = .ok (.iaload, 1) := dk_1046 (dk_g tcL_law_82 1 rfl)
theorem dL_law_986 : decode cL_law 986 = .ok (.invokevirtual 110, 3) := dk_1182 (dk_g tcL_law_82 2 rfl) (dk_g tcL_law_82 3 rfl) (dk_g tcL_law_82 4 rfl) rfl
theorem dL_law_989 : decode cL_law 989 = .ok (.pop, 1) := dk_1087 (dk_g tcL_law_82 5 rfl)
theorem dL_law_990 : decode cL_law 990 = .ok (.goto 1401, 3) := dk_2167 (dk_g tcL_law_82 6 rfl) (dk_g tcL_law_82 7 rfl) (dk_g tcL_law_82 8 rfl) rfl rfl
theorem dL_law_993 : decode cL_law 993 = .ok (.aload_n 1, 1) := dk_1043 (dk_g tcL_law_82 9 rfl)
theorem dL_law_994 : decode cL_law 994 = .ok (.aload_n 0, 1) := dk_1042 (dk_g tcL_law_82 10 rfl)
theorem dL_law_995 : decode cL_law 995 = .ok (.iload_n 3, 1) := dk_1029 (dk_g tcL_law_82 11 rfl)
theorem tcL_law_83 : (cL_law.data.toList.drop 996).take 12 = [4, 96, 46, 182, 0, 111, 87, 44, 42, 29, 4, 96] := dk_h tycL_law_5 36 (by decide +kernel)
theorem dL_law_996 : decode cL_law 996 = .ok (.iconst 1, 1) := dk_1004 (dk_g tcL_law_83 0 rfl)
theorem dL_law_997 : decode cL_law 997 = .ok (.iadd, 1) := dk_1096 (dk_g tcL_law_83 1 rfl)
theorem dL_law_998 : decode cL_law 998 = .ok (.iaload, 1) := dk_1046 (dk_g tcL_law_83 2 rfl)
theorem dL_law_999 : decode cL_law 999 = .ok (.invokevirtual 111, 3) := dk_1182 (dk_g tcL_law_83 3 rfl) (dk_g tcL_law_83 4 rfl) (dk_g tcL_law_83 5 rfl) rfl
theorem dL_law_1002 : decode cL_law 1002 = .ok (.pop, 1) := dk_1087 (dk_g tcL_law_83 6 rfl)
theorem dL_law_1003 : decode cL_law 1003 = .ok (.aload_n 2, 1) := dk_1044 (dk_g tcL_law_83 7 rfl)
theorem dL_law_1004 : decode cL_law 1004 = .ok (.aload_n 0, 1) := dk_1042 (dk_g tcL_law_83 8 rfl)
theorem dL_law_1005 : decode cL_law 1005 = .ok (.iload_n 3, 1) := dk_1029 (dk_g tcL_law_83 9 rfl)
theorem dL_law_1006 : decode cL_law 1006 = .ok (.iconst 1, 1) := dk_1004 (dk_g tcL_law_83 10 rfl)
theorem dL_law_1007 : decode cL_law 1007 = .ok (.iadd, 1) := dk_1096 (dk_g tcL_law_83 11 rfl)
theorem tcL_law_84 : (cL_law.data.toList.drop 1008).take 12 = [46, 182, 0, 114, 87, 167, 5, 98, 43, 42, 29, 4] := dk_h tycL_law_5 48 (by decide +kernel)
theorem dL_law_1008 : decode cL_law 1008 = .ok (.iaload, 1) := dk_1046 (dk_g tcL_law_84 0 rfl)
theorem dL_law_1009 : decode cL_law 1009 = .ok (.invokevirtual 114, 3) := dk_1182 (dk_g tcL_law_84 1 rfl) (dk_g tcL_law_84 2 rfl) (dk_g tcL_law_84 3 rfl) rfl
theorem dL_law_1012 : decode cL_law 1012 = .ok (.pop, 1) := dk_1087 (dk_g tcL_law_84 4 rfl)
theorem dL_law_1013 : decode cL_law 1013 = .ok (.goto 1378, 3) := dk_2167 (dk_g tcL_law_84 5 rfl) (dk_g tcL_law_84 6 rfl) (dk_g tcL_law_84 7 rfl) rfl rfl
theorem dL_law_1016 : decode cL_law 1016 = .ok (.aload_n 1, 1) := dk_1043 (dk_g tcL_law_84 8 rfl)
theorem dL_law_1017 : decode cL_law 1017 = .ok (.aload_n 0, 1) := dk_1042 (dk_g tcL_law_84 9 rfl)
theorem dL_law_1018 : decode cL_law 1018 = .ok (.iload_n 3, 1) := dk_1029 (dk_g tcL_law_84 10 rfl)
theorem dL_law_1019 : decode cL_law 1019 = .ok (.iconst 1, 1) := dk_1004 (dk_g tcL_law_84 11 rfl)
theorem tcL_law_85 : (cL_law.data.toList.drop 1020).take 12 = [96, 46, 182, 0, 115, 87, 44, 42, 29, 4, 96, 46] := dk_h tycL_law_5 60 (by decide +kernel)
theorem dL_law_1020 : decode cL_law 1020 = .ok (.iadd, 1) := dk_1096 (dk_g tcL_law_85 0 rfl)
theorem dL_law_1021 : decode cL_law 1021 = .ok (.iaload, 1) := dk_1046 (dk_g tcL_law_85 1 rfl)
theorem dL_law_1022 : decode cL_law 1022 = .ok (.invokevirtual 115, 3) := dk_1182 (dk_g tcL_law_85 2 rfl) (dk_g tcL_law_85 3 rfl) (dk_g tcL_law_85 4 rfl) rfl
theorem dL_law_1025 : decode cL_law 1025 = .ok (.pop, 1) := dk_1087 (dk_g tcL_law_85 5 rfl)
theorem dL_law_1026 : decode cL_law 1026 = .ok (.aload_n 2, 1) := dk_1044 (dk_g tcL_law_85 6 rfl)
theorem dL_law_1027 : decode cL_law 1027 = .ok (.aload_n 0, 1) := dk_1042 (dk_g tcL_law_85 7 rfl)
theorem dL_law_1028 : decode cL_law 1028 = .ok (.iload_n 3, 1) := dk_1029 (dk_g tcL_law_85 8 rfl)
theorem dL_law_1029 : decode cL_law 1029 = .ok (.iconst 1, 1) := dk_1004 (dk_g tcL_law_85 9 rfl)
theorem dL_law_1030 : decode cL_law 1030 = .ok (.iadd, 1) := dk_1096 (dk_g tcL_law_85 10 rfl)
theorem dL_law_1031 : decode cL_law 1031 = .ok (.iaload, 1) := dk_1046 (dk_g tcL_law_85 11 rfl)
theorem tcL_law_86 : (cL_law.data.toList.drop 1032).take 12 = [182, 0, 118, 87, 167, 5, 75, 43, 42, 29, 4, 96] := dk_h tycL_law_5 72 (by decide +kernel)
theorem dL_law_1032 : decode cL_law 1032 = .ok (.invokevirtual 118, 3) := dk_1182 (dk_g tcL_law_86 0 rfl) (dk_g tcL_law_86 1 rfl) (dk_g tcL_law_86 2 rfl) rfl
theorem dL_law_1035 : decode cL_law 1035 = .ok (.pop, 1) := dk_1087 (dk_g tcL_law_86 3 rfl)
theorem dL_law_1036 : decode cL_law 1036 = .ok (.goto 1355, 3) := dk_2167 (dk_g tcL_law_86 4 rfl) (dk_g tcL_law_86 5 rfl) (dk_g tcL_law_86 6 rfl) rfl rfl
theorem dL_law_1039 : decode cL_law 1039 = .ok (.aload_n 1, 1) := dk_1043 (dk_g tcL_law_86 7 rfl)
theorem dL_law_1040 : decode cL_law 1040 = .ok (.aload_n 0, 1) := dk_1042 (dk_g tcL_law_86 8 rfl)
theorem dL_law_1041 : decode cL_law 1041 = .ok (.iload_n 3, 1) := dk_1029 (dk_g tcL_law_86 9 rfl)
theorem dL_law_1042 : decode cL_law 1042 = .ok (.iconst 1, 1) := dk_1004 (dk_g tcL_law_86 10 rfl)
theorem dL_law_1043 : decode cL_law 1043 = .ok (.iadd, 1) := dk_1096 (dk_g tcL_law_86 11 rfl)
theorem tcL_law_87 : (cL_law.data.toList.drop 1044).take 12 = [46, 42, 29, 5, 96, 46, 42, 29, 6, 96, 46, 182] := dk_h tycL_law_5 84 (by decide +kernel)
theorem dL_law_1044 : decode cL_law 1044 = .ok (.iaload, 1) := dk_1046 (dk_g tcL_law_87 0 rfl)
theorem dL_law_1045 : decode cL_law 1045 = .ok (.aload_n 0, 1) := dk_1042 (dk_g tcL_law_87 1 rfl)
theorem dL_law_1046 : decode cL_law 1046 = .ok (.iload_n 3, 1) := dk_1029 (dk_g tcL_law_87 2 rfl)
theorem dL_law_1047 : decode cL_law 1047 = .ok (.iconst 2, 1) := dk_1005 (dk_g tcL_law_87 3 rfl)
theorem dL_law_1048 : decode cL_law 1048 = .ok (.iadd, 1) := dk_1096 (dk_g tcL_law_87 4 rfl)
theorem dL_law_1049 : decode cL_law 1049 = .ok (.iaload, 1) := dk_1046 (dk_g tcL_law_87 5 rfl)
theorem dL_law_1050 : decode cL_law 1050 = .ok (.aload_n 0, 1) := dk_1042 (dk_g tcL_law_87 6 rfl)
theorem dL_law_1051 : decode cL_law 1051 = .ok (.iload_n 3, 1) := dk_1029 (dk_g tcL_law_87 7 rfl)
theorem dL_law_1052 : decode cL_law 1052 = .ok (.iconst 3, 1) := dk_1006 (dk_g tcL_law_87 8 rfl)
theorem dL_law_1053 : decode cL_law 1053 = .ok (.iadd, 1) := dk_1096 (dk_g tcL_law_87 9 rfl)
theorem dL_law_1054 : decode cL_law 1054 = .ok (.iaload, 1) := dk_1046 (dk_g tcL_law_87 10 rfl)
theorem tcL_law_88 : (cL_law.data.toList.drop 1056).take 12 = [0, 119, 87, 44, 42, 29, 4, 96, 46, 42, 29, 5] := dk_h tycL_law_5 96 (by decide +kernel)
theorem dL_law_1055 : decode cL_law 1055 = .ok (.invokevirtual 119, 3) := dk_1182 (dk_g tcL_law_87 11 rfl) (dk_g tcL_law_88 0 rfl) (dk_g tcL_law_88 1 rfl) rfl
theorem dL_law_1058 : decode cL_law 1058 = .ok (.pop, 1) := dk_1087 (dk_g tcL_law_88 2 rfl)
theorem dL_law_1059 : decode cL_law 1059 = .ok (.aload_n 2, 1) := dk_1044 (dk_g tcL_law_88 3 rfl)
theorem dL_law_1060 : decode cL_law 1060 = .ok (.aload_n 0, 1) := dk_1042 (dk_g tcL_law_88 4 rfl)
theorem dL_law_1061 : decode cL_law 1061 = .ok (.iload_n 3, 1) := dk_1029 (dk_g tcL_law_88 5 rfl)
theorem dL_law_1062 : decode cL_law 1062 = .ok (.iconst 1, 1) := dk_1004 (dk_g tcL_law_88 6 rfl)
theorem dL_law_1063 : decode cL_law 1063 = .ok (.iadd, 1) := dk_1096 (dk_g tcL_law_88 7 rfl)
theorem dL_law_1064 : decode cL_law 1064 = .ok (.iaload, 1) := dk_1046 (dk_g tcL_law_88 8 rfl)
theorem dL_law_1065 : decode cL_law 1065 = .ok (.aload_n 0, 1) := dk_1042 (dk_g tcL_law_88 9 rfl)
theorem dL_law_1066 : decode cL_law 1066 = .ok (.iload_n 3, 1) := dk_1029 (dk_g tcL_law_88 10 rfl)
theorem dL_law_1067 : decode cL_law 1067 = .ok (.iconst 2, 1) := dk_1005 (dk_g tcL_law_88 11 rfl)
theorem tcL_law_89 : (cL_law.data.toList.drop 1068).take 12 = [96, 46, 42, 29, 6, 96, 46, 182, 0, 122, 87, 167] := dk_h tycL_law_5 108 (by decide +kernel)
theorem dL_law_1068 : decode cL_law 1068 = .ok (.iadd, 1) := dk_1096 (dk_g tcL_law_89 0 rfl)
theorem dL_law_1069 : decode cL_law 1069 = .ok (.iaload, 1) := dk_1046 (dk_g tcL_law_89 1 rfl)
theorem dL_law_1070 : decode cL_law 1070 = .ok (.aload_n 0, 1) := dk_1042 (dk_g tcL_law_89 2 rfl)
theorem dL_law_1071 : decode cL_law 1071 = .ok (.iload_n 3, 1) := dk_1029 (dk_g tcL_law_89 3 rfl)
theorem dL_law_1072 : decode cL_law 1072 = .ok (.iconst 3, 1) := dk_1006 (dk_g tcL_law_89 4 rfl)
theorem dL_law_1073 : decode cL_law 1073 = .ok (.iadd, 1) := dk_1096 (dk_g tcL_law_89 5 rfl)
theorem dL_law_1074 : decode cL_law 1074 = .ok (.iaload, 1) := dk_1046 (dk_g tcL_law_89 6 rfl)
theorem dL_law_1075 : decode cL_law 1075 = .ok (.invokevirtual 122, 3) := dk_1182 (dk_g tcL_law_89 7 rfl) (dk_g tcL_law_89 8 rfl) (dk_g tcL_law_89 9 rfl) rfl
theorem dL_law_1078 : decode cL_law 1078 = .ok (.pop, 1) := dk_1087 (dk_g tcL_law_89 10 rfl)
theorem tcL_law_90 : (cL_law.data.toList.drop 1080).take 12 = [5, 32, 43, 42, 29, 4, 96, 46, 42, 29, 5, 96] := dk_h tycL_law_5 120 (by decide +kernel)
theorem dL_law_1079 : decode cL_law 1079 = .ok (.goto 1312, 3) := dk_2167 (dk_g tcL_law_89 11 rfl) (dk_g tcL_law_90 0 rfl) (dk_g tcL_law_90 1 rfl) rfl rfl
theorem dL_law_1082 : decode cL_law 1082 = .ok (.aload_n 1, 1) := dk_1043 (dk_g tcL_law_90 2 rfl)
theorem dL_law_1083 : decode cL_law 1083 = .ok (.aload_n 0, 1) := dk_1042 (dk_g tcL_law_90 3 rfl)
theorem dL_law_1084 : decode cL_law 1084 = .ok (.iload_n 3, 1) := dk_1029 (dk_g tcL_law_90 4 rfl)
theorem dL_law_1085 : decode cL_law 1085 = .ok (.iconst 1, 1) := dk_1004 (dk_g tcL_law_90 5 rfl)
theorem dL_law_1086 : decode cL_law 1086 = .ok (.iadd, 1) := dk_1096 (dk_g tcL_law_90 6 rfl)
theorem dL_law_1087 : decode cL_law 1087 = .ok (.iaload, 1) := dk_1046 (dk_g tcL_law_90 7 rfl)
theorem dL_law_1088 : decode cL_law 1088 = .ok (.aload_n 0, 1) := dk_1042 (dk_g tcL_law_90 8 rfl)
theorem dL_law_1089 : decode cL_law 1089 = .ok (.iload_n 3, 1) := dk_1029 (dk_g tcL_law_90 9 rfl)
theorem dL_law_1090 : decode cL_law 1090 = .ok (.iconst 2, 1) := dk_1005 (dk_g tcL_law_90 10 rfl)
theorem dL_law_1091 : decode cL_law 1091 = .ok (.iadd, 1) := dk_1096 (dk_g tcL_law_90 11 rfl)
theorem tcL_law_91 : (cL_law.data.toList.drop 1092).take 12 = [46, 42, 29, 6, 96, 46, 182, 0, 123, 87, 44, 42] := dk_h tycL_law_5 132 (by decide +kernel)
theorem dL_law_1092 : decode cL_law 1092 = .ok (.iaload, 1) := dk_1046 (dk_g tcL_law_91 0 rfl)
theorem dL_law_1093 : decode cL_law 1093 = .ok (.aload_n 0, 1) := dk_1042 (dk_g tcL_law_91 1 rfl)
theorem dL_law_1094 : decode cL_law 1094 = .ok (.iload_n 3, 1) := dk_1029 (dk_g tcL_law_91 2 rfl)
theorem dL_law_1095 : decode cL_law 1095 = .ok (.iconst 3, 1) := dk_1006 (dk_g tcL_law_91 3 rfl)
theorem dL_law_1096 : decode cL_law 1096 = .ok (.iadd, 1) := dk_1096 (dk_g tcL_law_91 4 rfl)
theorem dL_law_1097 : decode cL_law 1097 = .ok (.iaload, 1) := dk_1046 (dk_g tcL_law_91 5 rfl)
theorem dL_law_1098 : decode cL_law 1098 = .ok (.invokevirtual 123, 3) := dk_1182 (dk_g tcL_law_91 6 rfl) (dk_g tcL_law_91 7 rfl) (dk_g tcL_law_91 8 rfl) rfl
theorem dL_law_1101 : decode cL_law 1101 = .ok (.pop, 1) := dk_1087 (dk_g tcL_law_91 9 rfl)
theorem dL_law_1102 : decode cL_law 1102 = .ok (.aload_n 2, 1) := dk_1044 (dk_g tcL_law_91 10 rfl)
theorem dL_law_1103 : decode cL_law 1103 = .ok (.aload_n 0, 1) := dk_1042 (dk_g tcL_law_91 11 rfl)
theorem tcL_law_92 : (cL_law.data.toList.drop 1104).take 12 = [29, 4, 96, 46, 42, 29, 5, 96, 46, 42, 29, 6] := dk_h tycL_law_5 144 (by decide +kernel)
theorem dL_law_1104 : decode cL_law 1104 = .ok (.iload_n 3, 1) := dk_1029 (dk_g tcL_law_92 0 rfl)
theorem dL_law_1105 : decode cL_law 1105 = .ok (.iconst 1, 1) := dk_1004 (dk_g tcL_law_92 1 rfl)
theorem dL_law_1106 : decode cL_law 1106 = .ok (.iadd, 1) := dk_1096 (dk_g tcL_law_92 2 rfl)
theorem dL_law_1107 : decode cL_law 1107 = .ok (.iaload, 1) := dk_1046 (dk_g tcL_law_92 3 rfl)
theorem dL_law_1108 : decode cL_law 1108 = .ok (.aload_n 0, 1) := dk_1042 (dk_g tcL_law_92 4 rfl)
theorem dL_law_1109 : decode cL_law 1109 = .ok (.iload_n 3, 1) := dk_1029 (dk_g tcL_law_92 5 rfl)
theorem dL_law_1110 : decode cL_law 1110 = .ok (.iconst 2, 1) := dk_1005 (dk_g tcL_law_92 6 rfl)
theorem dL_law_1111 : decode cL_law 1111 = .ok (.iadd, 1) := dk_1096 (dk_g tcL_law_92 7 rfl)
theorem dL_law_1112 : decode cL_law 1112 = .ok (.iaload, 1) := dk_1046 (dk_g tcL_law_92 8 rfl)
theorem dL_law_1113 : decode cL_law 1113 = .ok (.aload_n 0, 1) := dk_1042 (dk_g tcL_law_92 9 rfl)
theorem dL_law_1114 : decode cL_law 1114 = .ok (.iload_n 3, 1) := dk_1029 (dk_g tcL_law_92 10 rfl)
theorem dL_law_1115 : decode cL_law 1115 = .ok (.iconst 3, 1) := dk_1006 (dk_g tcL_law_92 11 rfl)
theorem tcL_law_93 : (cL_law.data.toList.drop 1116).take 12 = [96, 46, 182, 0, 126, 87, 167, 4, 245, 43, 42, 29] := dk_h tycL_law_5 156 (by decide +kernel)
theorem dL_law_1116 : decode cL_law 1116 = .ok (.iadd, 1) := dk_1096 (dk_g tcL_law_93 0 rfl)
theorem dL_law_1117 : decode cL_law 1117 = .ok (.iaload, 1) := dk_1046 (dk_g tcL_law_93 1 rfl)
theorem dL_law_1118 : decode cL_law 1118 = .ok (.invokevirtual 126, 3) := dk_1182 (dk_g tcL_law_93 2 rfl) (dk_g tcL_law_93 3 rfl) (dk_g tcL_law_93 4 rfl) rfl
theorem dL_law_1121 : decode cL_law 1121 = .ok (.pop, 1) := dk_1087 (dk_g tcL_law_93 5 rfl)
theorem dL_law_1122 : decode cL_law 1122 = .ok (.goto 1269, 3) := dk_2167 (dk_g tcL_law_93 6 rfl) (dk_g tcL_law_93 7 rfl) (dk_g tcL_law_93 8 rfl) rfl rfl
theorem dL_law_1125 : decode cL_law 1125 = .ok (.aload_n 1, 1) := dk_1043 (dk_g tcL_law_93 9 rfl)
theorem dL_law_1126 : decode cL_law 1126 = .ok (.aload_n 0, 1) := dk_1042 (dk_g tcL_law_93 10 rfl)
theorem dL_law_1127 : decode cL_law 1127 = .ok (.iload_n 3, 1) := dk_1029 (dk_g tcL_law_93 11 rfl)
theorem tcL_law_94 : (cL_law.data.toList.drop 1128).take 12 = [4, 96, 46, 42, 29, 5, 96, 46, 42, 29, 6, 96] := dk_h tycL_law_5 168 (by decide +kernel)
theorem dL_law_1128 : decode cL_law 1128 = .ok (.iconst 1, 1) := dk_1004 (dk_g tcL_law_94 0 rfl)
theorem dL_law_1129 : decode cL_law 1129 = .ok (.iadd, 1) := dk_1096 (dk_g tcL_law_94 1 rfl)
theorem dL_law_1130 : decode cL_law 1130 = .ok (.iaload, 1) := dk_1046 (dk_g tcL_law_94 2 rfl)
theorem dL_law_1131 : decode cL_law 1131 = .ok (.aload_n 0, 1) := dk_1042 (dk_g tcL_law_94 3 rfl)
theorem dL_law_1132 : decode cL_law 1132 = .ok (.iload_n 3, 1) := dk_1029 (dk_g tcL_law_94 4 rfl)
theorem dL_law_1133 : decode cL_law 1133 = .ok (.iconst 2, 1) := dk_1005 (dk_g tcL_law_94 5 rfl)
theorem dL_law_1134 : decode cL_law 1134 = .ok (.iadd, 1) := dk_1096 (dk_g tcL_law_94 6 rfl)
theorem dL_law_1135 : decode cL_law 1135 = .ok (.iaload, 1) := dk_1046 (dk_g tcL_law_94 7 rfl)
theorem dL_law_1136 : decode cL_law 1136 = .ok (.aload_n 0, 1) := dk_1042 (dk_g tcL_law_94 8 rfl)
theorem dL_law_1137 : decode cL_law 1137 = .ok (.iload_n 3, 1) := dk_1029 (dk_g tcL_law_94 9 rfl)
theorem dL_law_1138 : decode cL_law 1138 = .ok (.iconst 3, 1) := dk_1006 (dk_g tcL_law_94 10 rfl)
theorem dL_law_1139 : decode cL_law 1139 = .ok (.iadd, 1) := dk_1096 (dk_g tcL_law_94 11 rfl)
theorem tcL_law_95 : (cL_law.data.toList.drop 1140).take 12 = [46, 182, 0, 127, 87, 44, 42, 29, 4, 96, 46, 42] := dk_h tycL_law_5 180 (by decide +kernel)
theorem dL_law_1140 : decode cL_law 1140 = .ok (.iaload, 1) := dk_1046 (dk_g tcL_law_95 0 rfl)
theorem dL_law_1141 : decode cL_law 1141 = .ok (.invokevirtual 127, 3) := dk_1182 (dk_g tcL_law_95 1 rfl) (dk_g tcL_law_95 2 rfl) (dk_g tcL_law_95 3 rfl) rfl
theorem dL_law_1144 : decode cL_law 1144 = .ok (.pop, 1) := dk_1087 (dk_g tcL_law_95 4 rfl)
theorem dL_law_1145 : decode cL_law 1145 = .ok (.aload_n 2, 1) := dk_1044 (dk_g tcL_law_95 5 rfl)
theorem dL_law_1146 : decode cL_law 1146 = .ok (.aload_n 0, 1) := dk_1042 (dk_g tcL_law_95 6 rfl)
theorem dL_law_1147 : decode cL_law 1147 = .ok (.iload_n 3, 1) := dk_1029 (dk_g tcL_law_95 7 rfl)
theorem dL_law_1148 : decode cL_law 1148 = .ok (.iconst 1, 1) := dk_1004 (dk_g tcL_law_95 8 rfl)
theorem dL_law_1149 : decode cL_law 1149 = .ok (.iadd, 1) := dk_1096 (dk_g tcL_law_95 9 rfl)
theorem dL_law_1150 : decode cL_law 1150 = .ok (.iaload, 1) := dk_1046 (dk_g tcL_law_95 10 rfl)
theorem dL_law_1151 : decode cL_law 1151 = .ok (.aload_n 0, 1) := dk_1042 (dk_g tcL_law_95 11 rfl)
set_option maxRecDepth 100000 in
noncomputable def tzcL_law_6 : { l : List UInt8 // List.drop 192 (tzcL_law_5.1) = l } := by
  constructor
  conv => lhs; whnf
theorem tycL_law_6 : cL_law.data.toList.drop 1152 = tzcL_law_6.1 := dk_z tycL_law_5 tzcL_law_6.2
theorem tcL_law_96 : (cL_law.data.toList.drop 1152).take 12 = [29, 5, 96, 46, 42, 29, 6, 96, 46, 182, 0, 130] := dk_h tycL_law_6 0 (by decide +kernel)
theorem dL_law_1152 : decode cL_law 1152 = .ok (.iload_n 3, 1) := dk_1029 (dk_g tcL_law_96 0 rfl)
theorem dL_law_1153 : decode cL_law 1153 = .ok (.iconst 2, 1) := dk_1005 (dk_g tcL_law_96 1 rfl)
theorem dL_law_1154 : decode cL_law 1154 = .ok (.iadd, 1) := dk_1096 (dk_g tcL_law_96 2 rfl)
theorem dL_law_1155 : decode cL_law 1155 = .ok (.iaload, 1) := dk_1046 (dk_g tcL_law_96 3 rfl)
theorem dL_law_1156 : decode cL_law 1156 = .ok (.aload_n 0, 1) := dk_1042 (dk_g tcL_law_96 4 rfl)
theorem dL_law_1157 : decode cL_law 1157 = .ok (.iload_n 3, 1) := dk_1029 (dk_g tcL_law_96 5 rfl)
theorem dL_law_1158 : decode cL_law 1158 = .ok (.iconst 3, 1) := dk_1006 (dk_g tcL_law_96 6 rfl)
theorem dL_law_1159 : decode cL_law 1159 = .ok (.iadd, 1) := dk_1096 (dk_g tcL_law_96 7 rfl)
theorem dL_law_1160 : decode cL_law 1160 = .ok (.iaload, 1) := dk_1046 (dk_g tcL_law_96 8 rfl)
theorem dL_law_1161 : decode cL_law 1161 = .ok (.invokevirtual 130, 3) := dk_1182 (dk_g tcL_law_96 9 rfl) (dk_g tcL_law_96 10 rfl) (dk_g tcL_law_96 11 rfl) rfl
theorem tcL_law_97 : (cL_law.data.toList.drop 1164).take 12 = [87, 167, 4, 202, 43, 42, 29, 4, 96, 46, 42, 29] := dk_h tycL_law_6 12 (by decide +kernel)
theorem dL_law_1164 : decode cL_law 1164 = .ok (.pop, 1) := dk_1087 (dk_g tcL_law_97 0 rfl)
theorem dL_law_1165 : decode cL_law 1165 = .ok (.goto 1226, 3) := dk_2167 (dk_g tcL_law_97 1 rfl) (dk_g tcL_law_97 2 rfl) (dk_g tcL_law_97 3 rfl) rfl rfl
theorem dL_law_1168 : decode cL_law 1168 = .ok (.aload_n 1, 1) := dk_1043 (dk_g tcL_law_97 4 rfl)
theorem dL_law_1169 : decode cL_law 1169 = .ok (.aload_n 0, 1) := dk_1042 (dk_g tcL_law_97 5 rfl)
theorem dL_law_1170 : decode cL_law 1170 = .ok (.iload_n 3, 1) := dk_1029 (dk_g tcL_law_97 6 rfl)
theorem dL_law_1171 : decode cL_law 1171 = .ok (.iconst 1, 1) := dk_1004 (dk_g tcL_law_97 7 rfl)
theorem dL_law_1172 : decode cL_law 1172 = .ok (.iadd, 1) := dk_1096 (dk_g tcL_law_97 8 rfl)
theorem dL_law_1173 : decode cL_law 1173 = .ok (.iaload, 1) := dk_1046 (dk_g tcL_law_97 9 rfl)
theorem dL_law_1174 : decode cL_law 1174 = .ok (.aload_n 0, 1) := dk_1042 (dk_g tcL_law_97 10 rfl)
theorem dL_law_1175 : decode cL_law 1175 = .ok (.iload_n 3, 1) := dk_1029 (dk_g tcL_law_97 11 rfl)
theorem tcL_law_98 : (cL_law.data.toList.drop 1176).take 12 = [5, 96, 46, 182, 0, 131, 44, 42, 29, 4, 96, 46] := dk_h tycL_law_6 24 (by decide +kernel)
theorem dL_law_1176 : decode cL_law 1176 = .ok (.iconst 2, 1) := dk_1005 (dk_g tcL_law_98 0 rfl)
theorem dL_law_1177 : decode cL_law 1177 = .ok (.iadd, 1) := dk_1096 (dk_g tcL_law_98 1 rfl)
theorem dL_law_1178 : decode cL_law 1178 = .ok (.iaload, 1) := dk_1046 (dk_g tcL_law_98 2 rfl)
theorem dL_law_1179 : decode cL_law 1179 = .ok (.invokevirtual 131, 3) := dk_1182 (dk_g tcL_law_98 3 rfl) (dk_g tcL_law_98 4 rfl) (dk_g tcL_law_98 5 rfl) rfl
theorem dL_law_1182 : decode cL_law 1182 = .ok (.aload_n 2, 1) := dk_1044 (dk_g tcL_law_98 6 rfl)
theorem dL_law_1183 : decode cL_law 1183 = .ok (.aload_n 0, 1) := dk_1042 (dk_g tcL_law_98 7 rfl)
theorem dL_law_1184 : decode cL_law 1184 = .ok (.iload_n 3, 1) := dk_1029 (dk_g tcL_law_98 8 rfl)
theorem dL_law_1185 : decode cL_law 1185 = .ok (.iconst 1, 1) := dk_1004 (dk_g tcL_law_98 9 rfl)
theorem dL_law_1186 : decode cL_law 1186 = .ok (.iadd, 1) := dk_1096 (dk_g tcL_law_98 10 rfl)
theorem dL_law_1187 : decode cL_law 1187 = .ok (.iaload, 1) := dk_1046 (dk_g tcL_law_98 11 rfl)
theorem tcL_law_99 : (cL_law.data.toList.drop 1188).take 12 = [42, 29, 5, 96, 46, 182, 0, 134, 159, 4, 171, 3] := dk_h tycL_law_6 36 (by decide +kernel)
theorem dL_law_1188 : decode cL_law 1188 = .ok (.aload_n 0, 1) := dk_1042 (dk_g tcL_law_99 0 rfl)
theorem dL_law_1189 : decode cL_law 1189 = .ok (.iload_n 3, 1) := dk_1029 (dk_g tcL_law_99 1 rfl)
theorem dL_law_1190 : decode cL_law 1190 = .ok (.iconst 2, 1) := dk_1005 (dk_g tcL_law_99 2 rfl)
theorem dL_law_1191 : decode cL_law 1191 = .ok (.iadd, 1) := dk_1096 (dk_g tcL_law_99 3 rfl)
theorem dL_law_1192 : decode cL_law 1192 = .ok (.iaload, 1) := dk_1046 (dk_g tcL_law_99 4 rfl)
theorem dL_law_1193 : decode cL_law 1193 = .ok (.invokevirtual 134, 3) := dk_1182 (dk_g tcL_law_99 5 rfl) (dk_g tcL_law_99 6 rfl) (dk_g tcL_law_99 7 rfl) rfl
theorem dL_law_1196 : decode cL_law 1196 = .ok (.if_icmp .eq 1195, 3) := dk_2159 (dk_g tcL_law_99 8 rfl) (dk_g tcL_law_99 9 rfl) (dk_g tcL_law_99 10 rfl) rfl rfl
theorem tcL_law_100 : (cL_law.data.toList.drop 1200).take 12 = [172, 43, 42, 29, 4, 96, 46, 42, 29, 5, 96, 46] := dk_h tycL_law_6 48 (by decide +kernel)
theorem dL_law_1201 : decode cL_law 1201 = .ok (.aload_n 1, 1) := dk_1043 (dk_g tcL_law_100 1 rfl)
theorem dL_law_1202 : decode cL_law 1202 = .ok (.aload_n 0, 1) := dk_1042 (dk_g tcL_law_100 2 rfl)
theorem dL_law_1203 : decode cL_law 1203 = .ok (.iload_n 3, 1) := dk_1029 (dk_g tcL_law_100 3 rfl)
theorem dL_law_1204 : decode cL_law 1204 = .ok (.iconst 1, 1) := dk_1004 (dk_g tcL_law_100 4 rfl)
theorem dL_law_1205 : decode cL_law 1205 = .ok (.iadd, 1) := dk_1096 (dk_g tcL_law_100 5 rfl)
theorem dL_law_1206 : decode cL_law 1206 = .ok (.iaload, 1) := dk_1046 (dk_g tcL_law_100 6 rfl)
theorem dL_law_1207 : decode cL_law 1207 = .ok (.aload_n 0, 1) := dk_1042 (dk_g tcL_law_100 7 rfl)
theorem dL_law_1208 : decode cL_law 1208 = .ok (.iload_n 3, 1) := dk_1029 (dk_g tcL_law_100 8 rfl)
theorem dL_law_1209 : decode cL_law 1209 = .ok (.iconst 2, 1) := dk_1005 (dk_g tcL_law_100 9 rfl)
theorem dL_law_1210 : decode cL_law 1210 = .ok (.iadd, 1) := dk_1096 (dk_g tcL_law_100 10 rfl)
theorem dL_law_1211 : decode cL_law 1211 = .ok (.iaload, 1) := dk_1046 (dk_g tcL_law_100 11 rfl)
theorem tcL_law_101 : (cL_law.data.toList.drop 1212).take 12 = [182, 0, 135, 87, 44, 42, 29, 4, 96, 46, 42, 29] := dk_h tycL_law_6 60 (by decide +kernel)
theorem dL_law_1212 : decode cL_law 1212 = .ok (.invokevirtual 135, 3) := dk_1182 (dk_g tcL_law_101 0 rfl) (dk_g tcL_law_101 1 rfl) (dk_g tcL_law_101 2 rfl) rfl
theorem dL_law_1215 : decode cL_law 1215 = .ok (.pop, 1) := dk_1087 (dk_g tcL_law_101 3 rfl)
theorem dL_law_1216 : decode cL_law 1216 = .ok (.aload_n 2, 1) := dk_1044 (dk_g tcL_law_101 4 rfl)
theorem dL_law_1217 : decode cL_law 1217 = .ok (.aload_n 0, 1) := dk_1042 (dk_g tcL_law_101 5 rfl)
theorem dL_law_1218 : decode cL_law 1218 = .ok (.iload_n 3, 1) := dk_1029 (dk_g tcL_law_101 6 rfl)
theorem dL_law_1219 : decode cL_law 1219 = .ok (.iconst 1, 1) := dk_1004 (dk_g tcL_law_101 7 rfl)
theorem dL_law_1220 : decode cL_law 1220 = .ok (.iadd, 1) := dk_1096 (dk_g tcL_law_101 8 rfl)
theorem dL_law_1221 : decode cL_law 1221 = .ok (.iaload, 1) := dk_1046 (dk_g tcL_law_101 9 rfl)
theorem dL_law_1222 : decode cL_law 1222 = .ok (.aload_n 0, 1) := dk_1042 (dk_g tcL_law_101 10 rfl)
theorem dL_law_1223 : decode cL_law 1223 = .ok (.iload_n 3, 1) := dk_1029 (dk_g tcL_law_101 11 rfl)
theorem tcL_law_102 : (cL_law.data.toList.drop 1224).take 12 = [5, 96, 46, 182, 0, 138, 87, 167, 4, 136, 43, 42] := dk_h tycL_law_6 72 (by decide +kernel)
theorem dL_law_1224 : decode cL_law 1224 = .ok (.iconst 2, 1) := dk_1005 (dk_g tcL_law_102 0 rfl)
theorem dL_law_1225 : decode cL_law 1225 = .ok (.iadd, 1) := dk_1096 (dk_g tcL_law_102 1 rfl)
theorem dL_law_1226 : decode cL_law 1226 = .ok (.iaload, 1) := dk_1046 (dk_g tcL_law_102 2 rfl)
theorem dL_law_1227 : decode cL_law 1227 = .ok (.invokevirtual 138, 3) := dk_1182 (dk_g tcL_law_102 3 rfl) (dk_g tcL_law_102 4 rfl) (dk_g tcL_law_102 5 rfl) rfl
theorem dL_law_1230 : decode cL_law 1230 = .ok (.pop, 1) := dk_1087 (dk_g tcL_law_102 6 rfl)
theorem dL_law_1231 : decode cL_law 1231 = .ok (.goto 1160, 3) := dk_2167 (dk_g tcL_law_102 7 rfl) (dk_g tcL_law_102 8 rfl) (dk_g tcL_law_102 9 rfl) rfl rfl
theorem dL_law_1234 : decode cL_law 1234 = .ok (.aload_n 1, 1) := dk_1043 (dk_g tcL_law_102 10 rfl)
theorem dL_law_1235 : decode cL_law 1235 = .ok (.aload_n 0, 1) := dk_1042 (dk_g tcL_law_102 11 rfl)
theorem tcL_law_103 : (cL_law.data.toList.drop 1236).take 12 = [29, 4, 96, 46, 42, 29, 5, 96, 46, 42, 29, 6] := dk_h tycL_law_6 84 (by decide +kernel)
theorem dL_law_1236 : decode cL_law 1236 = .ok (.iload_n 3, 1) := dk_1029 (dk_g tcL_law_103 0 rfl)
theorem dL_law_1237 : decode cL_law 1237 = .ok (.iconst 1, 1) := dk_1004 (dk_g tcL_law_103 1 rfl)
theorem dL_law_1238 : decode cL_law 1238 = .ok (.iadd, 1) := dk_1096 (dk_g tcL_law_103 2 rfl)
theorem dL_law_1239 : decode cL_law 1239 = .ok (.iaload, 1) := dk_1046 (dk_g tcL_law_103 3 rfl)
theorem dL_law_1240 : decode cL_law 1240 = .ok (.aload_n 0, 1) := dk_1042 (dk_g tcL_law_103 4 rfl)
theorem dL_law_1241 : decode cL_law 1241 = .ok (.iload_n 3, 1) := dk_1029 (dk_g tcL_law_103 5 rfl)
theorem dL_law_1242 : decode cL_law 1242 = .ok (.iconst 2, 1) := dk_1005 (dk_g tcL_law_103 6 rfl)
theorem dL_law_1243 : decode cL_law 1243 = .ok (.iadd, 1) := dk_1096 (dk_g tcL_law_103 7 rfl)
theorem dL_law_1244 : decode cL_law 1244 = .ok (.iaload, 1) := dk_1046 (dk_g tcL_law_103 8 rfl)
theorem dL_law_1245 : decode cL_law 1245 = .ok (.aload_n 0, 1) := dk_1042 (dk_g tcL_law_103 9 rfl)
theorem dL_law_1246 : decode cL_law 1246 = .ok (.iload_n 3, 1) := dk_1029 (dk_g tcL_law_103 10 rfl)
theorem dL_law_1247 : decode cL_law 1247 = .ok (.iconst 3, 1) := dk_1006 (dk_g tcL_law_103 11 rfl)
theorem tcL_law_104 : (cL_law.data.toList.drop 1248).take 12 = [96, 46, 42, 29, 7, 96, 46, 182, 0, 139, 87, 44] := dk_h tycL_law_6 96 (by decide +kernel)
theorem dL_law_1248 : decode cL_law 1248 = .ok (.iadd, 1) := dk_1096 (dk_g tcL_law_104 0 rfl)
theorem dL_law_1249 : decode cL_law 1249 = .ok (.iaload, 1) := dk_1046 (dk_g tcL_law_104 1 rfl)
theorem dL_law_1250 : decode cL_law 1250 = .ok (.aload_n 0, 1) := dk_1042 (dk_g tcL_law_104 2 rfl)
theorem dL_law_1251 : decode cL_law 1251 = .ok (.iload_n 3, 1) := dk_1029 (dk_g tcL_law_104 3 rfl)
theorem dL_law_1252 : decode cL_law 1252 = .ok (.iconst 4, 1) := dk_1007 (dk_g tcL_law_104 4 rfl)
theorem dL_law_1253 : decode cL_law 1253 = .ok (.iadd, 1) := dk_1096 (dk_g tcL_law_104 5 rfl)
theorem dL_law_1254 : decode cL_law 1254 = .ok (.iaload, 1) := dk_1046 (dk_g tcL_law_104 6 rfl)
theorem dL_law_1255 : decode cL_law 1255 = .ok (.invokevirtual 139, 3) := dk_1182 (dk_g tcL_law_104 7 rfl) (dk_g tcL_law_104 8 rfl) (dk_g tcL_law_104 9 rfl) rfl
theorem dL_law_1258 : decode cL_law 1258 = .ok (.pop, 1) := dk_1087 (dk_g tcL_law_104 10 rfl)
theorem dL_law_1259 : decode cL_law 1259 = .ok (.aload_n 2, 1) := dk_1044 (dk_g tcL_law_104 11 rfl)
theorem tcL_law_105 : (cL_law.data.toList.drop 1260).take 12 = [42, 29, 4, 96, 46, 42, 29, 5, 96, 46, 42, 29] := dk_h tycL_law_6 108 (by decide +kernel)
theorem dL_law_1260 : decode cL_law 1260 = .ok (.aload_n 0, 1) := dk_1042 (dk_g tcL_law_105 0 rfl)
theorem dL_law_1261 : decode cL_law 1261 = .ok (.iload_n 3, 1) := dk_1029 (dk_g tcL_law_105 1 rfl)
theorem dL_law_1262 : decode cL_law 1262 = .ok (.iconst 1, 1) := dk_1004 (dk_g tcL_law_105 2 rfl)
theorem dL_law_1263 : decode cL_law 1263 = .ok (.iadd, 1) := dk_1096 (dk_g tcL_law_105 3 rfl)
theorem dL_law_1264 : decode cL_law 1264 = .ok (.iaload, 1) := dk_1046 (dk_g tcL_law_105 4 rfl)
theorem dL_law_1265 : decode cL_law 1265 = .ok (.aload_n 0, 1) := dk_1042 (dk_g tcL_law_105 5 rfl)
theorem dL_law_1266 : decode cL_law 1266 = .ok (.iload_n 3, 1) := dk_1029 (dk_g tcL_law_105 6 rfl)
theorem dL_law_1267 : decode cL_law 1267 = .ok (.iconst 2, 1) := dk_1005 (dk_g tcL_law_105 7 rfl)
theorem dL_law_1268 : decode cL_law 1268 = .ok (.iadd, 1) := dk_1096 (dk_g tcL_law_105 8 rfl)
theorem dL_law_1269 : decode cL_law 1269 = .ok (.iaload, 1) := dk_1046 (dk_g tcL_law_105 9 rfl)
theorem dL_law_1270 : decode cL_law 1270 = .ok (.aload_n 0, 1) := dk_1042 (dk_g tcL_law_105 10 rfl)
theorem dL_law_1271 : decode cL_law 1271 = .ok (.iload_n 3, 1) := dk_1029 (dk_g tcL_law_105 11 rfl)
theorem tcL_law_106 : (cL_law.data.toList.drop 1272).take 12 = [6, 96, 46, 42, 29, 7, 96, 46, 182, 0, 142, 87] := dk_h tycL_law_6 120 (by decide +kernel)
theorem dL_law_1272 : decode cL_law 1272 = .ok (.iconst 3, 1) := dk_1006 (dk_g tcL_law_106 0 rfl)
theorem dL_law_1273 : decode cL_law 1273 = .ok (.iadd, 1) := dk_1096 (dk_g tcL_law_106 1 rfl)
theorem dL_law_1274 : decode cL_law 1274 = .ok (.iaload, 1) := dk_1046 (dk_g tcL_law_106 2 rfl)
theorem dL_law_1275 : decode cL_law 1275 = .ok (.aload_n 0, 1) := dk_1042 (dk_g tcL_law_106 3 rfl)
theorem dL_law_1276 : decode cL_law 1276 = .ok (.iload_n 3, 1) := dk_1029 (dk_g tcL_law_106 4 rfl)
theorem dL_law_1277 : decode cL_law 1277 = .ok (.iconst 4, 1) := dk_1007 (dk_g tcL_law_106 5 rfl)
theorem dL_law_1278 : decode cL_law 1278 = .ok (.iadd, 1) := dk_1096 (dk_g tcL_law_106 6 rfl)
theorem dL_law_1279 : decode cL_law 1279 = .ok (.iaload, 1) := dk_1046 (dk_g tcL_law_106 7 rfl)
theorem dL_law_1280 : decode cL_law 1280 = .ok (.invokevirtual 142, 3) := dk_1182 (dk_g tcL_law_106 8 rfl) (dk_g tcL_law_106 9 rfl) (dk_g tcL_law_106 10 rfl) rfl
theorem dL_law_1283 : decode cL_law 1283 = .ok (.pop, 1) := dk_1087 (dk_g tcL_law_106 11 rfl)
theorem tcL_law_107 : (cL_law.data.toList.drop 1284).take 12 = [167, 4, 83, 43, 42, 29, 4, 96, 46, 42, 29, 5] := dk_h tycL_law_6 132 (by decide +kernel)
theorem dL_law_1284 : decode cL_law 1284 = .ok (.goto 1107, 3) := dk_2167 (dk_g tcL_law_107 0 rfl) (dk_g tcL_law_107 1 rfl) (dk_g tcL_law_107 2 rfl) rfl rfl
theorem dL_law_1287 : decode cL_law 1287 = .ok (.aload_n 1, 1) := dk_1043 (dk_g tcL_law_107 3 rfl)
theorem dL_law_1288 : decode cL_law 1288 = .ok (.aload_n 0, 1) := dk_1042 (dk_g tcL_law_107 4 rfl)
theorem dL_law_1289 : decode cL_law 1289 = .ok (.iload_n 3, 1) := dk_1029 (dk_g tcL_law_107 5 rfl)
theorem dL_law_1290 : decode cL_law 1290 = .ok (.iconst 1, 1) := dk_1004 (dk_g tcL_law_107 6 rfl)
theorem dL_law_1291 : decode cL_law 1291 = .ok (.iadd, 1) := dk_1096 (dk_g tcL_law_107 7 rfl)
theorem dL_law_1292 : decode cL_law 1292 = .ok (.iaload, 1) := dk_1046 (dk_g tcL_law_107 8 rfl)
theorem dL_law_1293 : decode cL_law 1293 = .ok (.aload_n 0, 1) := dk_1042 (dk_g tcL_law_107 9 rfl)
theorem dL_law_1294 : decode cL_law 1294 = .ok (.iload_n 3, 1) := dk_1029 (dk_g tcL_law_107 10 rfl)
theorem dL_law_1295 : decode cL_law 1295 = .ok (.iconst 2, 1) := dk_1005 (dk_g tcL_law_107 11 rfl)
theorem tcL_law_108 : (cL_law.data.toList.drop 1296).take 12 = [96, 46, 42, 29, 6, 96, 46, 42, 29, 7, 96, 46] := dk_h tycL_law_6 144 (by decide +kernel)
theorem dL_law_1296 : decode cL_law 1296 = .ok (.iadd, 1) := dk_1096 (dk_g tcL_law_108 0 rfl)
theorem dL_law_1297 : decode cL_law 1297 = .ok (.iaload, 1) := dk_1046 (dk_g tcL_law_108 1 rfl)
theorem dL_law_1298 : decode cL_law 1298 = .ok (.aload_n 0, 1) := dk_1042 (dk_g tcL_law_108 2 rfl)
theorem dL_law_1299 : decode cL_law 1299 = .ok (.iload_n 3, 1) := dk_1029 (dk_g tcL_law_108 3 rfl)
theorem dL_law_1300 : decode cL_law 1300 = .ok (.iconst 3, 1) := dk_1006 (dk_g tcL_law_108 4 rfl)
theorem dL_law_1301 : decode cL_law 1301 = .ok (.iadd, 1) := dk_1096 (dk_g tcL_law_108 5 rfl)
theorem dL_law_1302 : decode cL_law 1302 = .ok (.iaload, 1) := dk_1046 (dk_g tcL_law_108 6 rfl)
theorem dL_law_1303 : decode cL_law 1303 = .ok (.aload_n 0, 1) := dk_1042 (dk_g tcL_law_108 7 rfl)
theorem dL_law_1304 : decode cL_law 1304 = .ok (.iload_n 3, 1) := dk_1029 (dk_g tcL_law_108 8 rfl)
theorem dL_law_1305 : decode cL_law 1305 = .ok (.iconst 4, 1) := dk_1007 (dk_g tcL_law_108 9 rfl)
theorem dL_law_1306 : decode cL_law 1306 = .ok (.iadd, 1) := dk_1096 (dk_g tcL_law_108 10 rfl)
theorem dL_law_1307 : decode cL_law 1307 = .ok (.iaload, 1) := dk_1046 (dk_g tcL_law_108 11 rfl)
theorem tcL_law_109 : (cL_law.data.toList.drop 1308).take 12 = [182, 0, 143, 87, 44, 42, 29, 4, 96, 46, 42, 29] := dk_h tycL_law_6 156 (by decide +kernel)
theorem dL_law_1308 : decode cL_law 1308 = .ok (.invokevirtual 143, 3) := dk_1182 (dk_g tcL_law_109 0 rfl) (dk_g tcL_law_109 1 rfl) (dk_g tcL_law_109 2 rfl) rfl
theorem dL_law_1311 : decode cL_law 1311 = .ok (.pop, 1) := dk_1087 (dk_g tcL_law_109 3 rfl)
theorem dL_law_1312 : decode cL_law 1312 = .ok (.aload_n 2, 1) := dk_1044 (dk_g tcL_law_109 4 rfl)
theorem dL_law_1313 : decode cL_law 1313 = .ok (.aload_n 0, 1) := dk_1042 (dk_g tcL_law_109 5 rfl)
theorem dL_law_1314 : decode cL_law 1314 = .ok (.iload_n 3, 1) := dk_1029 (dk_g tcL_law_109 6 rfl)
theorem dL_law_1315 : decode cL_law 1315 = .ok (.iconst 1, 1) := dk_1004 (dk_g tcL_law_109 7 rfl)
theorem dL_law_1316 : decode cL_law 1316 = .ok (.iadd, 1) := dk_1096 (dk_g tcL_law_109 8 rfl)
theorem dL_law_1317 : decode cL_law 1317 = .ok (.iaload, 1) := dk_1046 (dk_g tcL_law_109 9 rfl)
theorem dL_law_1318 : decode cL_law 1318 = .ok (.aload_n 0, 1) := dk_1042 (dk_g tcL_law_109 10 rfl)
theorem dL_law_1319 : decode cL_law 1319 = .ok (.iload_n 3, 1) := dk_1029 (dk_g tcL_law_109 11 rfl)
theorem tcL_law_110 : (cL_law.data.toList.drop 1320).take 12 = [5, 96, 46, 42, 29, 6, 96, 46, 42, 29, 7, 96] := dk_h tycL_law_6 168 (by decide +kernel)
theorem dL_law_1320 : decode cL_law 1320 = .ok (.iconst 2, 1) := dk_1005 (dk_g tcL_law_110 0 rfl)
theorem dL_law_1321 : decode cL_law 1321 = .ok (.iadd, 1) := dk_1096 (dk_g tcL_law_110 1 rfl)
theorem dL_law_1322 : decode cL_law 1322 = .ok (.iaload, 1) := dk_1046 (dk_g tcL_law_110 2 rfl)
theorem dL_law_1323 : decode cL_law 1323 = .ok (.aload_n 0, 1) := dk_1042 (dk_g tcL_law_110 3 rfl)
theorem dL_law_1324 : decode cL_law 1324 = .ok (.iload_n 3, 1) := dk_1029 (dk_g tcL_law_110 4 rfl)
theorem dL_law_1325 : decode cL_law 1325 = .ok (.iconst 3, 1) := dk_1006 (dk_g tcL_law_110 5 rfl)
theorem dL_law_1326 : decode cL_law 1326 = .ok (.iadd, 1) := dk_1096 (dk_g tcL_law_110 6 rfl)
theorem dL_law_1327 : decode cL_law 1327 = .ok (.iaload, 1) := dk_1046 (dk_g tcL_law_110 7 rfl)
theorem dL_law_1328 : decode cL_law 1328 = .ok (.aload_n 0, 1) := dk_1042 (dk_g tcL_law_110 8 rfl)
theorem dL_law_1329 : decode cL_law 1329 = .ok (.iload_n 3, 1) := dk_1029 (dk_g tcL_law_110 9 rfl)
theorem dL_law_1330 : decode cL_law 1330 = .ok (.iconst 4, 1) := dk_1007 (dk_g tcL_law_110 10 rfl)
theorem dL_law_1331 : decode cL_law 1331 = .ok (.iadd, 1) := dk_1096 (dk_g tcL_law_110 11 rfl)
theorem tcL_law_111 : (cL_law.data.toList.drop 1332).take 12 = [46, 182, 0, 146, 87, 167, 4, 30, 43, 42, 29, 4] := dk_h tycL_law_6 180 (by decide +kernel)
theorem dL_law_1332 : decode cL_law 1332 = .ok (.iaload, 1) := dk_1046 (dk_g tcL_law_111 0 rfl)
theorem dL_law_1333 : decode cL_law 1333 = .ok (.invokevirtual 146, 3) := dk_1182 (dk_g tcL_law_111 1 rfl) (dk_g tcL_law_111 2 rfl) (dk_g tcL_law_111 3 rfl) rfl
theorem dL_law_1336 : decode cL_law 1336 = .ok (.pop, 1) := dk_1087 (dk_g tcL_law_111 4 rfl)
theorem dL_law_1337 : decode cL_law 1337 = .ok (.goto 1054, 3) := dk_2167 (dk_g tcL_law_111 5 rfl) (dk_g tcL_law_111 6 rfl) (dk_g tcL_law_111 7 rfl) rfl rfl
theorem dL_law_1340 : decode cL_law 1340 = .ok (.aload_n 1, 1) := dk_1043 (dk_g tcL_law_111 8 rfl)
theorem dL_law_1341 : decode cL_law 1341 = .ok (.aload_n 0, 1) := dk_1042 (dk_g tcL_law_111 9 rfl)
theorem dL_law_1342 : decode cL_law 1342 = .ok (.iload_n 3, 1) := dk_1029 (dk_g tcL_law_111 10 rfl)
theorem dL_law_1343 : decode cL_law 1343 = .ok (.iconst 1, 1) := dk_1004 (dk_g tcL_law_111 11 rfl)
set_option maxRecDepth 100000 in
noncomputable def tzcL_law_7 : { l : List UInt8 // List.drop 192 (tzcL_law_6.1) = l } := by
  constructor
  conv => lhs; whnf
theorem tycL_law_7 : cL_law.data.toList.drop 1344 = tzcL_law_7.1 := dk_z tycL_law_6 tzcL_law_7.2
theorem tcL_law_112 : (cL_law.data.toList.drop 1344).take 12 = [96, 46, 42, 29, 5, 96, 46, 42, 29, 6, 96, 46] := dk_h tycL_law_7 0 (by decide +kernel)
theorem dL_law_1344 : decode cL_law 1344 = .ok (.iadd, 1) := dk_1096 (dk_g tcL_law_112 0 rfl)
theorem dL_law_1345 : decode cL_law 1345 = .ok (.iaload, 1) := dk_1046 (dk_g tcL_law_112 1 rfl)
theorem dL_law_1346 : decode cL_law 1346 = .ok (.aload_n 0, 1) := dk_1042 (dk_g tcL_law_112 2 rfl)
theorem dL_law_1347 : decode cL_law 1347 = .ok (.iload_n 3, 1) := dk_1029 (dk_g tcL_law_112 3 rfl)
theorem dL_law_1348 : decode cL_law 1348 = .ok (.iconst 2, 1) := dk_1005 (dk_g tcL_law_112 4 rfl)
theorem dL_law_1349 : decode cL_law 1349 = .ok (.iadd, 1) := dk_1096 (dk_g tcL_law_112 5 rfl)
theorem dL_law_1350 : decode cL_law 1350 = .ok (.iaload, 1) := dk_1046 (dk_g tcL_law_112 6 rfl)
theorem dL_law_1351 : decode cL_law 1351 = .ok (.aload_n 0, 1) := dk_1042 (dk_g tcL_law_112 7 rfl)
theorem dL_law_1352 : decode cL_law 1352 = .ok (.iload_n 3, 1) := dk_1029 (dk_g tcL_law_112 8 rfl)
theorem dL_law_1353 : decode cL_law 1353 = .ok (.iconst 3, 1) := dk_1006 (dk_g tcL_law_112 9 rfl)
theorem dL_law_1354 : decode cL_law 1354 = .ok (.iadd, 1) := dk_1096 (dk_g tcL_law_112 10 rfl)
theorem dL_law_1355 : decode cL_law 1355 = .ok (.iaload, 1) := dk_1046 (dk_g tcL_law_112 11 rfl)
theorem tcL_law_113 : (cL_law.data.toList.drop 1356).take 12 = [182, 0, 147, 87, 44, 42, 29, 4, 96, 46, 42, 29] := dk_h tycL_law_7 12 (by decide +kernel)
theorem dL_law_1356 : decode cL_law 1356 = .ok (.invokevirtual 147, 3) := dk_1182 (dk_g tcL_law_113 0 rfl) (dk_g tcL_law_113 1 rfl) (dk_g tcL_law_113 2 rfl) rfl
theorem dL_law_1359 : decode cL_law 1359 = .ok (.pop, 1) := dk_1087 (dk_g tcL_law_113 3 rfl)
theorem dL_law_1360 : decode cL_law 1360 = .ok (.aload_n 2, 1) := dk_1044 (dk_g tcL_law_113 4 rfl)
theorem dL_law_1361 : decode cL_law 1361 = .ok (.aload_n 0, 1) := dk_1042 (dk_g tcL_law_113 5 rfl)
theorem dL_law_1362 : decode cL_law 1362 = .ok (.iload_n 3, 1) := dk_1029 (dk_g tcL_law_113 6 rfl)
theorem dL_law_1363 : decode cL_law 1363 = .ok (.iconst 1, 1) := dk_1004 (dk_g tcL_law_113 7 rfl)
theorem dL_law_1364 : decode cL_law 1364 = .ok (.iadd, 1) := dk_1096 (dk_g tcL_law_113 8 rfl)
theorem dL_law_1365 : decode cL_law 1365 = .ok (.iaload, 1) := dk_1046 (dk_g tcL_law_113 9 rfl)
theorem dL_law_1366 : decode cL_law 1366 = .ok (.aload_n 0, 1) := dk_1042 (dk_g tcL_law_113 10 rfl)
theorem dL_law_1367 : decode cL_law 1367 = .ok (.iload_n 3, 1) := dk_1029 (dk_g tcL_law_113 11 rfl)
theorem tcL_law_114 : (cL_law.data.toList.drop 1368).take 12 = [5, 96, 46, 42, 29, 6, 96, 46, 182, 0, 150, 87] := dk_h tycL_law_7 24 (by decide +kernel)
theorem dL_law_1368 : decode cL_law 1368 = .ok (.iconst 2, 1) := dk_1005 (dk_g tcL_law_114 0 rfl)
theorem dL_law_1369 : decode cL_law 1369 = .ok (.iadd, 1) := dk_1096 (dk_g tcL_law_114 1 rfl)
theorem dL_law_1370 : decode cL_law 1370 = .ok (.iaload, 1) := dk_1046 (dk_g tcL_law_114 2 rfl)
theorem dL_law_1371 : decode cL_law 1371 = .ok (.aload_n 0, 1) := dk_1042 (dk_g tcL_law_114 3 rfl)
theorem dL_law_1372 : decode cL_law 1372 = .ok (.iload_n 3, 1) := dk_1029 (dk_g tcL_law_114 4 rfl)
theorem dL_law_1373 : decode cL_law 1373 = .ok (.iconst 3, 1) := dk_1006 (dk_g tcL_law_114 5 rfl)
theorem dL_law_1374 : decode cL_law 1374 = .ok (.iadd, 1) := dk_1096 (dk_g tcL_law_114 6 rfl)
theorem dL_law_1375 : decode cL_law 1375 = .ok (.iaload, 1) := dk_1046 (dk_g tcL_law_114 7 rfl)
theorem dL_law_1376 : decode cL_law 1376 = .ok (.invokevirtual 150, 3) := dk_1182 (dk_g tcL_law_114 8 rfl) (dk_g tcL_law_114 9 rfl) (dk_g tcL_law_114 10 rfl) rfl
theorem dL_law_1379 : decode cL_law 1379 = .ok (.pop, 1) := dk_1087 (dk_g tcL_law_114 11 rfl)
theorem tcL_law_115 : (cL_law.data.toList.drop 1380).take 12 = [167, 3, 243, 43, 182, 0, 151, 87, 44, 182, 0, 154] := dk_h tycL_law_7 36 (by decide +kernel)
theorem dL_law_1380 : decode cL_law 1380 = .ok (.goto 1011, 3) := dk_2167 (dk_g tcL_law_115 0 rfl) (dk_g tcL_law_115 1 rfl) (dk_g tcL_law_115 2 rfl) rfl rfl
theorem dL_law_1383 : decode cL_law 1383 = .ok (.aload_n 1, 1) := dk_1043 (dk_g tcL_law_115 3 rfl)
theorem dL_law_1384 : decode cL_law 1384 = .ok (.invokevirtual 151, 3) := dk_1182 (dk_g tcL_law_115 4 rfl) (dk_g tcL_law_115 5 rfl) (dk_g tcL_law_115 6 rfl) rfl
theorem dL_law_1387 : decode cL_law 1387 = .ok (.pop, 1) := dk_1087 (dk_g tcL_law_115 7 rfl)
theorem dL_law_1388 : decode cL_law 1388 = .ok (.aload_n 2, 1) := dk_1044 (dk_g tcL_law_115 8 rfl)
theorem dL_law_1389 : decode cL_law 1389 = .ok (.invokevirtual 154, 3) := dk_1182 (dk_g tcL_law_115 9 rfl) (dk_g tcL_law_115 10 rfl) (dk_g tcL_law_115 11 rfl) rfl
theorem tcL_law_116 : (cL_law.data.toList.drop 1392).take 12 = [87, 167, 3, 230, 43, 42, 29, 4, 96, 46, 42, 29] := dk_h tycL_law_7 48 (by decide +kernel)
theorem dL_law_1392 : decode cL_law 1392 = .ok (.pop, 1) := dk_1087 (dk_g tcL_law_116 0 rfl)
theorem dL_law_1393 : decode cL_law 1393 = .ok (.goto 998, 3) := dk_2167 (dk_g tcL_law_116 1 rfl) (dk_g tcL_law_116 2 rfl) (dk_g tcL_law_116 3 rfl) rfl rfl
theorem dL_law_1396 : decode cL_law 1396 = .ok (.aload_n 1, 1) := dk_1043 (dk_g tcL_law_116 4 rfl)
theorem dL_law_1397 : decode cL_law 1397 = .ok (.aload_n 0, 1) := dk_1042 (dk_g tcL_law_116 5 rfl)
theorem dL_law_1398 : decode cL_law 1398 = .ok (.iload_n 3, 1) := dk_1029 (dk_g tcL_law_116 6 rfl)
theorem dL_law_1399 : decode cL_law 1399 = .ok (.iconst 1, 1) := dk_1004 (dk_g tcL_law_116 7 rfl)
theorem dL_law_1400 : decode cL_law 1400 = .ok (.iadd, 1) := dk_1096 (dk_g tcL_law_116 8 rfl)
theorem dL_law_1401 : decode cL_law 1401 = .ok (.iaload, 1) := dk_1046 (dk_g tcL_law_116 9 rfl)
theorem dL_law_1402 : decode cL_law 1402 = .ok (.aload_n 0, 1) := dk_1042 (dk_g tcL_law_116 10 rfl)
theorem dL_law_1403 : decode cL_law 1403 = .ok (.iload_n 3, 1) := dk_1029 (dk_g tcL_law_116 11 rfl)
theorem tcL_law_117 : (cL_law.data.toList.drop 1404).take 12 = [5, 96, 46, 182, 0, 155, 87, 44, 42, 29, 4, 96] := dk_h tycL_law_7 60 (by decide +kernel)
theorem dL_law_1404 : decode cL_law 1404 = .ok (.iconst 2, 1) := dk_1005 (dk_g tcL_law_117 0 rfl)
theorem dL_law_1405 : decode cL_law 1405 = .ok (.iadd, 1) := dk_1096 (dk_g tcL_law_117 1 rfl)
theorem dL_law_1406 : decode cL_law 1406 = .ok (.iaload, 1) := dk_1046 (dk_g tcL_law_117 2 rfl)
theorem dL_law_1407 : decode cL_law 1407 = .ok (.invokevirtual 155, 3) := dk_1182 (dk_g tcL_law_117 3 rfl) (dk_g tcL_law_117 4 rfl) (dk_g tcL_law_117 5 rfl) rfl
theorem dL_law_1410 : decode cL_law 1410 = .ok (.pop, 1) := dk_1087 (dk_g tcL_law_117 6 rfl)
theorem dL_law_1411 : decode cL_law 1411 = .ok (.aload_n 2, 1) := dk_1044 (dk_g tcL_law_117 7 rfl)
theorem dL_law_1412 : decode cL_law 1412 = .ok (.aload_n 0, 1) := dk_1042 (dk_g tcL_law_117 8 rfl)
theorem dL_law_1413 : decode cL_law 1413 = .ok (.iload_n 3, 1) := dk_1029 (dk_g tcL_law_117 9 rfl)
theorem dL_law_1414 : decode cL_law 1414 = .ok (.iconst 1, 1) := dk_1004 (dk_g tcL_law_117 10 rfl)
theorem dL_law_1415 : decode cL_law 1415 = .ok (.iadd, 1) := dk_1096 (dk_g tcL_law_117 11 rfl)
theorem tcL_law_118 : (cL_law.data.toList.drop 1416).take 12 = [46, 42, 29, 5, 96, 46, 182, 0, 158, 87, 167, 3] := dk_h tycL_law_7 72 (by decide +kernel)
theorem dL_law_1416 : decode cL_law 1416 = .ok (.iaload, 1) := dk_1046 (dk_g tcL_law_118 0 rfl)
theorem dL_law_1417 : decode cL_law 1417 = .ok (.aload_n 0, 1) := dk_1042 (dk_g tcL_law_118 1 rfl)
theorem dL_law_1418 : decode cL_law 1418 = .ok (.iload_n 3, 1) := dk_1029 (dk_g tcL_law_118 2 rfl)
theorem dL_law_1419 : decode cL_law 1419 = .ok (.iconst 2, 1) := dk_1005 (dk_g tcL_law_118 3 rfl)
theorem dL_law_1420 : decode cL_law 1420 = .ok (.iadd, 1) := dk_1096 (dk_g tcL_law_118 4 rfl)
theorem dL_law_1421 : decode cL_law 1421 = .ok (.iaload, 1) := dk_1046 (dk_g tcL_law_118 5 rfl)
theorem dL_law_1422 : decode cL_law 1422 = .ok (.invokevirtual 158, 3) := dk_1182 (dk_g tcL_law_118 6 rfl) (dk_g tcL_law_118 7 rfl) (dk_g tcL_law_118 8 rfl) rfl
theorem dL_law_1425 : decode cL_law 1425 = .ok (.pop, 1) := dk_1087 (dk_g tcL_law_118 9 rfl)
theorem tcL_law_119 : (cL_law.data.toList.drop 1428).take 12 = [197, 43, 42, 29, 4, 96, 46, 42, 29, 5, 96, 46] := dk_h tycL_law_7 84 (by decide +kernel)
theorem dL_law_1426 : decode cL_law 1426 = .ok (.goto 965, 3) := dk_2167 (dk_g tcL_law_118 10 rfl) (dk_g tcL_law_118 11 rfl) (dk_g tcL_law_119 0 rfl) rfl rfl
theorem dL_law_1429 : decode cL_law 1429 = .ok (.aload_n 1, 1) := dk_1043 (dk_g tcL_law_119 1 rfl)
theorem dL_law_1430 : decode cL_law 1430 = .ok (.aload_n 0, 1) := dk_1042 (dk_g tcL_law_119 2 rfl)
theorem dL_law_1431 : decode cL_law 1431 = .ok (.iload_n 3, 1) := dk_1029 (dk_g tcL_law_119 3 rfl)
theorem dL_law_1432 : decode cL_law 1432 = .ok (.iconst 1, 1) := dk_1004 (dk_g tcL_law_119 4 rfl)
theorem dL_law_1433 : decode cL_law 1433 = .ok (.iadd, 1) := dk_1096 (dk_g tcL_law_119 5 rfl)
theorem dL_law_1434 : decode cL_law 1434 = .ok (.iaload, 1) := dk_1046 (dk_g tcL_law_119 6 rfl)
theorem dL_law_1435 : decode cL_law 1435 = .ok (.aload_n 0, 1) := dk_1042 (dk_g tcL_law_119 7 rfl)
theorem dL_law_1436 : decode cL_law 1436 = .ok (.iload_n 3, 1) := dk_1029 (dk_g tcL_law_119 8 rfl)
theorem dL_law_1437 : decode cL_law 1437 = .ok (.iconst 2, 1) := dk_1005 (dk_g tcL_law_119 9 rfl)
theorem dL_law_1438 : decode cL_law 1438 = .ok (.iadd, 1) := dk_1096 (dk_g tcL_law_119 10 rfl)
theorem dL_law_1439 : decode cL_law 1439 = .ok (.iaload, 1) := dk_1046 (dk_g tcL_law_119 11 rfl)
theorem tcL_law_120 : (cL_law.data.toList.drop 1440).take 12 = [182, 0, 159, 87, 44, 42, 29, 4, 96, 46, 42, 29] := dk_h tycL_law_7 96 (by decide +kernel)
theorem dL_law_1440 : decode cL_law 1440 = .ok (.invokevirtual 159, 3) := dk_1182 (dk_g tcL_law_120 0 rfl) (dk_g tcL_law_120 1 rfl) (dk_g tcL_law_120 2 rfl) rfl
theorem dL_law_1443 : decode cL_law 1443 = .ok (.pop, 1) := dk_1087 (dk_g tcL_law_120 3 rfl)
theorem dL_law_1444 : decode cL_law 1444 = .ok (.aload_n 2, 1) := dk_1044 (dk_g tcL_law_120 4 rfl)
theorem dL_law_1445 : decode cL_law 1445 = .ok (.aload_n 0, 1) := dk_1042 (dk_g tcL_law_120 5 rfl)
theorem dL_law_1446 : decode cL_law 1446 = .ok (.iload_n 3, 1) := dk_1029 (dk_g tcL_law_120 6 rfl)
theorem dL_law_1447 : decode cL_law 1447 = .ok (.iconst 1, 1) := dk_1004 (dk_g tcL_law_120 7 rfl)
theorem dL_law_1448 : decode cL_law 1448 = .ok (.iadd, 1) := dk_1096 (dk_g tcL_law_120 8 rfl)
theorem dL_law_1449 : decode cL_law 1449 = .ok (.iaload, 1) := dk_1046 (dk_g tcL_law_120 9 rfl)
theorem dL_law_1450 : decode cL_law 1450 = .ok (.aload_n 0, 1) := dk_1042 (dk_g tcL_law_120 10 rfl)
theorem dL_law_1451 : decode cL_law 1451 = .ok (.iload_n 3, 1) := dk_1029 (dk_g tcL_law_120 11 rfl)
theorem tcL_law_121 : (cL_law.data.toList.drop 1452).take 12 = [5, 96, 46, 182, 0, 162, 87, 167, 3, 164, 43, 42] := dk_h tycL_law_7 108 (by decide +kernel)
theorem dL_law_1452 : decode cL_law 1452 = .ok (.iconst 2, 1) := dk_1005 (dk_g tcL_law_121 0 rfl)
theorem dL_law_1453 : decode cL_law 1453 = .ok (.iadd, 1) := dk_1096 (dk_g tcL_law_121 1 rfl)
theorem dL_law_1454 : decode cL_law 1454 = .ok (.iaload, 1) := dk_1046 (dk_g tcL_law_121 2 rfl)
theorem dL_law_1455 : decode cL_law 1455 = .ok (.invokevirtual 162, 3) := dk_1182 (dk_g tcL_law_121 3 rfl) (dk_g tcL_law_121 4 rfl) (dk_g tcL_law_121 5 rfl) rfl
theorem dL_law_1458 : decode cL_law 1458 = .ok (.pop, 1) := dk_1087 (dk_g tcL_law_121 6 rfl)
theorem dL_law_1459 : decode cL_law 1459 = .ok (.goto 932, 3) := dk_2167 (dk_g tcL_law_121 7 rfl) (dk_g tcL_law_121 8 rfl) (dk_g tcL_law_121 9 rfl) rfl rfl
theorem dL_law_1462 : decode cL_law 1462 = .ok (.aload_n 1, 1) := dk_1043 (dk_g tcL_law_121 10 rfl)
theorem dL_law_1463 : decode cL_law 1463 = .ok (.aload_n 0, 1) := dk_1042 (dk_g tcL_law_121 11 rfl)
theorem tcL_law_122 : (cL_law.data.toList.drop 1464).take 12 = [29, 4, 96, 46, 42, 29, 5, 96, 46, 182, 0, 163] := dk_h tycL_law_7 120 (by decide +kernel)
theorem dL_law_1464 : decode cL_law 1464 = .ok (.iload_n 3, 1) := dk_1029 (dk_g tcL_law_122 0 rfl)
theorem dL_law_1465 : decode cL_law 1465 = .ok (.iconst 1, 1) := dk_1004 (dk_g tcL_law_122 1 rfl)
theorem dL_law_1466 : decode cL_law 1466 = .ok (.iadd, 1) := dk_1096 (dk_g tcL_law_122 2 rfl)
theorem dL_law_1467 : decode cL_law 1467 = .ok (.iaload, 1) := dk_1046 (dk_g tcL_law_122 3 rfl)
theorem dL_law_1468 : decode cL_law 1468 = .ok (.aload_n 0, 1) := dk_1042 (dk_g tcL_law_122 4 rfl)
theorem dL_law_1469 : decode cL_law 1469 = .ok (.iload_n 3, 1) := dk_1029 (dk_g tcL_law_122 5 rfl)
theorem dL_law_1470 : decode cL_law 1470 = .ok (.iconst 2, 1) := dk_1005 (dk_g tcL_law_122 6 rfl)
theorem dL_law_1471 : decode cL_law 1471 = .ok (.iadd, 1) := dk_1096 (dk_g tcL_law_122 7 rfl)
theorem dL_law_1472 : decode cL_law 1472 = .ok (.iaload, 1) := dk_1046 (dk_g tcL_law_122 8 rfl)
theorem dL_law_1473 : decode cL_law 1473 = .ok (.invokevirtual 163, 3) := dk_1182 (dk_g tcL_law_122 9 rfl) (dk_g tcL_law_122 10 rfl) (dk_g tcL_law_122 11 rfl) rfl
theorem tcL_law_123 : (cL_law.data.toList.drop 1476).take 12 = [87, 44, 42, 29, 4, 96, 46, 42, 29, 5, 96, 46] := dk_h tycL_law_7 132 (by decide +kernel)
theorem dL_law_1476 : decode cL_law 1476 = .ok (.pop, 1) := dk_1087 (dk_g tcL_law_123 0 rfl)
theorem dL_law_1477 : decode cL_law 1477 = .ok (.aload_n 2, 1) := dk_1044 (dk_g tcL_law_123 1 rfl)
theorem dL_law_1478 : decode cL_law 1478 = .ok (.aload_n 0, 1) := dk_1042 (dk_g tcL_law_123 2 rfl)
theorem dL_law_1479 : decode cL_law 1479 = .ok (.iload_n 3, 1) := dk_1029 (dk_g tcL_law_123 3 rfl)
theorem dL_law_1480 : decode cL_law 1480 = .ok (.iconst 1, 1) := dk_1004 (dk_g tcL_law_123 4 rfl)
theorem dL_law_1481 : decode cL_law 1481 = .ok (.iadd, 1) := dk_1096 (dk_g tcL_law_123 5 rfl)
theorem dL_law_1482 : decode cL_law 1482 = .ok (.iaload, 1) := dk_1046 (dk_g tcL_law_123 6 rfl)
theorem dL_law_1483 : decode cL_law 1483 = .ok (.aload_n 0, 1) := dk_1042 (dk_g tcL_law_123 7 rfl)
theorem dL_law_1484 : decode cL_law 1484 = .ok (.iload_n 3, 1) := dk_1029 (dk_g tcL_law_123 8 rfl)
theorem dL_law_1485 : decode cL_law 1485 = .ok (.iconst 2, 1) := dk_1005 (dk_g tcL_law_123 9 rfl)
theorem dL_law_1486 : decode cL_law 1486 = .ok (.iadd, 1) := dk_1096 (dk_g tcL_law_123 10 rfl)
theorem dL_law_1487 : decode cL_law 1487 = .ok (.iaload, 1) := dk_1046 (dk_g tcL_law_123 11 rfl)
theorem tcL_law_124 : (cL_law.data.toList.drop 1488).take 12 = [182, 0, 166, 87, 167, 3, 131, 43, 42, 29, 4, 96] := dk_h tycL_law_7 144 (by decide +kernel)
theorem dL_law_1488 : decode cL_law 1488 = .ok (.invokevirtual 166, 3) := dk_1182 (dk_g tcL_law_124 0 rfl) (dk_g tcL_law_124 1 rfl) (dk_g tcL_law_124 2 rfl) rfl
theorem dL_law_1491 : decode cL_law 1491 = .ok (.pop, 1) := dk_1087 (dk_g tcL_law_124 3 rfl)
theorem dL_law_1492 : decode cL_law 1492 = .ok (.goto 899, 3) := dk_2167 (dk_g tcL_law_124 4 rfl) (dk_g tcL_law_124 5 rfl) (dk_g tcL_law_124 6 rfl) rfl rfl
theorem dL_law_1495 : decode cL_law 1495 = .ok (.aload_n 1, 1) := dk_1043 (dk_g tcL_law_124 7 rfl)
theorem dL_law_1496 : decode cL_law 1496 = .ok (.aload_n 0, 1) := dk_1042 (dk_g tcL_law_124 8 rfl)
theorem dL_law_1497 : decode cL_law 1497 = .ok (.iload_n 3, 1) := dk_1029 (dk_g tcL_law_124 9 rfl)
theorem dL_law_1498 : decode cL_law 1498 = .ok (.iconst 1, 1) := dk_1004 (dk_g tcL_law_124 10 rfl)
theorem dL_law_1499 : decode cL_law 1499 = .ok (.iadd, 1) := dk_1096 (dk_g tcL_law_124 11 rfl)
theorem tcL_law_125 : (cL_law.data.toList.drop 1500).take 12 = [46, 42, 29, 5, 96, 46, 182, 0, 167, 87, 44, 42] := dk_h tycL_law_7 156 (by decide +kernel)
theorem dL_law_1500 : decode cL_law 1500 = .ok (.iaload, 1) := dk_1046 (dk_g tcL_law_125 0 rfl)
theorem dL_law_1501 : decode cL_law 1501 = .ok (.aload_n 0, 1) := dk_1042 (dk_g tcL_law_125 1 rfl)
theorem dL_law_1502 : decode cL_law 1502 = .ok (.iload_n 3, 1) := dk_1029 (dk_g tcL_law_125 2 rfl)
theorem dL_law_1503 : decode cL_law 1503 = .ok (.iconst 2, 1) := dk_1005 (dk_g tcL_law_125 3 rfl)
theorem dL_law_1504 : decode cL_law 1504 = .ok (.iadd, 1) := dk_1096 (dk_g tcL_law_125 4 rfl)
theorem dL_law_1505 : decode cL_law 1505 = .ok (.iaload, 1) := dk_1046 (dk_g tcL_law_125 5 rfl)
theorem dL_law_1506 : decode cL_law 1506 = .ok (.invokevirtual 167, 3) := dk_1182 (dk_g tcL_law_125 6 rfl) (dk_g tcL_law_125 7 rfl) (dk_g tcL_law_125 8 rfl) rfl
theorem dL_law_1509 : decode cL_law 1509 = .ok (.pop, 1) := dk_1087 (dk_g tcL_law_125 9 rfl)
theorem dL_law_1510 : decode cL_law 1510 = .ok (.aload_n 2, 1) := dk_1044 (dk_g tcL_law_125 10 rfl)
theorem dL_law_1511 : decode cL_law 1511 = .ok (.aload_n 0, 1) := dk_1042 (dk_g tcL_law_125 11 rfl)
theorem tcL_law_126 : (cL_law.data.toList.drop 1512).take 12 = [29, 4, 96, 46, 42, 29, 5, 96, 46, 182, 0, 170] := dk_h tycL_law_7 168 (by decide +kernel)
theorem dL_law_1512 : decode cL_law 1512 = .ok (.iload_n 3, 1) := dk_1029 (dk_g tcL_law_126 0 rfl)
theorem dL_law_1513 : decode cL_law 1513 = .ok (.iconst 1, 1) := dk_1004 (dk_g tcL_law_126 1 rfl)
theorem dL_law_1514 : decode cL_law 1514 = .ok (.iadd, 1) := dk_1096 (dk_g tcL_law_126 2 rfl)
theorem dL_law_1515 : decode cL_law 1515 = .ok (.iaload, 1) := dk_1046 (dk_g tcL_law_126 3 rfl)
theorem dL_law_1516 : decode cL_law 1516 = .ok (.aload_n 0, 1) := dk_1042 (dk_g tcL_law_126 4 rfl)
theorem dL_law_1517 : decode cL_law 1517 = .ok (.iload_n 3, 1) := dk_1029 (dk_g tcL_law_126 5 rfl)
theorem dL_law_1518 : decode cL_law 1518 = .ok (.iconst 2, 1) := dk_1005 (dk_g tcL_law_126 6 rfl)
theorem dL_law_1519 : decode cL_law 1519 = .ok (.iadd, 1) := dk_1096 (dk_g tcL_law_126 7 rfl)
theorem dL_law_1520 : decode cL_law 1520 = .ok (.iaload, 1) := dk_1046 (dk_g tcL_law_126 8 rfl)
theorem dL_law_1521 : decode cL_law 1521 = .ok (.invokevirtual 170, 3) := dk_1182 (dk_g tcL_law_126 9 rfl) (dk_g tcL_law_126 10 rfl) (dk_g tcL_law_126 11 rfl) rfl
theorem tcL_law_127 : (cL_law.data.toList.drop 1524).take 12 = [87, 167, 3, 98, 43, 42, 29, 4, 96, 46, 42, 29] := dk_h tycL_law_7 180 (by decide +kernel)
theorem dL_law_1524 : decode cL_law 1524 = .ok (.pop, 1) := dk_1087 (dk_g tcL_law_127 0 rfl)
theorem dL_law_1525 : decode cL_law 1525 = .ok (.goto 866, 3) := dk_2167 (dk_g tcL_law_127 1 rfl) (dk_g tcL_law_127 2 rfl) (dk_g tcL_law_127 3 rfl) rfl rfl
theorem dL_law_1528 : decode cL_law 1528 = .ok (.aload_n 1, 1) := dk_1043 (dk_g tcL_law_127 4 rfl)
theorem dL_law_1529 : decode cL_law 1529 = .ok (.aload_n 0, 1) := dk_1042 (dk_g tcL_law_127 5 rfl)
theorem dL_law_1530 : decode cL_law 1530 = .ok (.iload_n 3, 1) := dk_1029 (dk_g tcL_law_127 6 rfl)
theorem dL_law_1531 : decode cL_law 1531 = .ok (.iconst 1, 1) := dk_1004 (dk_g tcL_law_127 7 rfl)
theorem dL_law_1532 : decode cL_law 1532 = .ok (.iadd, 1) := dk_1096 (dk_g tcL_law_127 8 rfl)
theorem dL_law_1533 : decode cL_law 1533 = .ok (.iaload, 1) := dk_1046 (dk_g tcL_law_127 9 rfl)
theorem dL_law_1534 : decode cL_law 1534 = .ok (.aload_n 0, 1) := dk_1042 (dk_g tcL_law_127 10 rfl)
theorem dL_law_1535 : decode cL_law 1535 = .ok (.iload_n 3, 1) := dk_1029 (dk_g tcL_law_127 11 rfl)
set_option maxRecDepth 100000 in
noncomputable def tzcL_law_8 : { l : List UInt8 // List.drop 192 (tzcL_law_7.1) = l } := by
  constructor
  conv => lhs; whnf
theorem tycL_law_8 : cL_law.data.toList.drop 1536 = tzcL_law_8.1 := dk_z tycL_law_7 tzcL_law_8.2
theorem tcL_law_128 : (cL_law.data.toList.drop 1536).take 12 = [5, 96, 46, 42, 29, 6, 96, 46, 42, 29, 7, 96] := dk_h tycL_law_8 0 (by decide +kernel)
theorem dL_law_1536 : decode cL_law 1536 = .ok (.iconst 2, 1) := dk_1005 (dk_g tcL_law_128 0 rfl)
theorem dL_law_1537 : decode cL_law 1537 = .ok (.iadd, 1) := dk_1096 (dk_g tcL_law_128 1 rfl)
theorem dL_law_1538 : decode cL_law 1538 = .ok (.iaload, 1) := dk_1046 (dk_g tcL_law_128 2 rfl)
theorem dL_law_1539 : decode cL_law 1539 = .ok (.aload_n 0, 1) := dk_1042 (dk_g tcL_law_128 3 rfl)
theorem dL_law_1540 : decode cL_law 1540 = .ok (.iload_n 3, 1) := dk_1029 (dk_g tcL_law_128 4 rfl)
theorem dL_law_1541 : decode cL_law 1541 = .ok (.iconst 3, 1) := dk_1006 (dk_g tcL_law_128 5 rfl)
theorem dL_law_1542 : decode cL_law 1542 = .ok (.iadd, 1) := dk_1096 (dk_g tcL_law_128 6 rfl)
theorem dL_law_1543 : decode cL_law 1543 = .ok (.iaload, 1) := dk_1046 (dk_g tcL_law_128 7 rfl)
theorem dL_law_1544 : decode cL_law 1544 = .ok (.aload_n 0, 1) := dk_1042 (dk_g tcL_law_128 8 rfl)
theorem dL_law_1545 : decode cL_law 1545 = .ok (.iload_n 3, 1) := dk_1029 (dk_g tcL_law_128 9 rfl)
theorem dL_law_1546 : decode cL_law 1546 = .ok (.iconst 4, 1) := dk_1007 (dk_g tcL_law_128 10 rfl)
theorem dL_law_1547 : decode cL_law 1547 = .ok (.iadd, 1) := dk_1096 (dk_g tcL_law_128 11 rfl)
theorem tcL_law_129 : (cL_law.data.toList.drop 1548).take 12 = [46, 182, 0, 171, 87, 44, 42, 29, 4, 96, 46, 42] := dk_h tycL_law_8 12 (by decide +kernel)
theorem dL_law_1548 : decode cL_law 1548 = .ok (.iaload, 1) := dk_1046 (dk_g tcL_law_129 0 rfl)
theorem dL_law_1549 : decode cL_law 1549 = .ok (.invokevirtual 171, 3) := dk_1182 (dk_g tcL_law_129 1 rfl) (dk_g tcL_law_129 2 rfl) (dk_g tcL_law_129 3 rfl) rfl
theorem dL_law_1552 : decode cL_law 1552 = .ok (.pop, 1) := dk_1087 (dk_g tcL_law_129 4 rfl)
theorem dL_law_1553 : decode cL_law 1553 = .ok (.aload_n 2, 1) := dk_1044 (dk_g tcL_law_129 5 rfl)
theorem dL_law_1554 : decode cL_law 1554 = .ok (.aload_n 0, 1) := dk_1042 (dk_g tcL_law_129 6 rfl)
theorem dL_law_1555 : decode cL_law 1555 = .ok (.iload_n 3, 1) := dk_1029 (dk_g tcL_law_129 7 rfl)
theorem dL_law_1556 : decode cL_law 1556 = .ok (.iconst 1, 1) := dk_1004 (dk_g tcL_law_129 8 rfl)
theorem dL_law_1557 : decode cL_law 1557 = .ok (.iadd, 1) := dk_1096 (dk_g tcL_law_129 9 rfl)
theorem dL_law_1558 : decode cL_law 1558 = .ok (.iaload, 1) := dk_1046 (dk_g tcL_law_129 10 rfl)
theorem dL_law_1559 : decode cL_law 1559 = .ok (.aload_n 0, 1) := dk_1042 (dk_g tcL_law_129 11 rfl)
theorem tcL_law_130 : (cL_law.data.toList.drop 1560).take 12 = [29, 5, 96, 46, 42, 29, 6, 96, 46, 42, 29, 7] := dk_h tycL_law_8 24 (by decide +kernel)
theorem dL_law_1560 : decode cL_law 1560 = .ok (.iload_n 3, 1) := dk_1029 (dk_g tcL_law_130 0 rfl)
theorem dL_law_1561 : decode cL_law 1561 = .ok (.iconst 2, 1) := dk_1005 (dk_g tcL_law_130 1 rfl)
theorem dL_law_1562 : decode cL_law 1562 = .ok (.iadd, 1) := dk_1096 (dk_g tcL_law_130 2 rfl)
theorem dL_law_1563 : decode cL_law 1563 = .ok (.iaload, 1) := dk_1046 (dk_g tcL_law_130 3 rfl)
theorem dL_law_1564 : decode cL_law 1564 = .ok (.aload_n 0, 1) := dk_1042 (dk_g tcL_law_130 4 rfl)
theorem dL_law_1565 : decode cL_law 1565 = .ok (.iload_n 3, 1) := dk_1029 (dk_g tcL_law_130 5 rfl)
theorem dL_law_1566 : decode cL_law 1566 = .ok (.iconst 3, 1) := dk_1006 (dk_g tcL_law_130 6 rfl)
theorem dL_law_1567 : decode cL_law 1567 = .ok (.iadd, 1) := dk_1096 (dk_g tcL_law_130 7 rfl)
theorem dL_law_1568 : decode cL_law 1568 = .ok (.iaload, 1) := dk_1046 (dk_g tcL_law_130 8 rfl)
theorem dL_law_1569 : decode cL_law 1569 = .ok (.aload_n 0, 1) := dk_1042 (dk_g tcL_law_130 9 rfl)
theorem dL_law_1570 : decode cL_law 1570 = .ok (.iload_n 3, 1) := dk_1029 (dk_g tcL_law_130 10 rfl)
theorem dL_law_1571 : decode cL_law 1571 = .ok (.iconst 4, 1) := dk_1007 (dk_g tcL_law_130 11 rfl)
theorem tcL_law_131 : (cL_law.data.toList.drop 1572).take 12 = [96, 46, 182, 0, 174, 87, 167, 3, 45, 43, 42, 29] := dk_h tycL_law_8 36 (by decide +kernel)
theorem dL_law_1572 : decode cL_law 1572 = .ok (.iadd, 1) := dk_1096 (dk_g tcL_law_131 0 rfl)
theorem dL_law_1573 : decode cL_law 1573 = .ok (.iaload, 1) := dk_1046 (dk_g tcL_law_131 1 rfl)
theorem dL_law_1574 : decode cL_law 1574 = .ok (.invokevirtual 174, 3) := dk_1182 (dk_g tcL_law_131 2 rfl) (dk_g tcL_law_131 3 rfl) (dk_g tcL_law_131 4 rfl) rfl
theorem dL_law_1577 : decode cL_law 1577 = .ok (.pop, 1) := dk_1087 (dk_g tcL_law_131 5 rfl)
theorem dL_law_1578 : decode cL_law 1578 = .ok (.goto 813, 3) := dk_2167 (dk_g tcL_law_131 6 rfl) (dk_g tcL_law_131 7 rfl) (dk_g tcL_law_131 8 rfl) rfl rfl
theorem dL_law_1581 : decode cL_law 1581 = .ok (.aload_n 1, 1) := dk_1043 (dk_g tcL_law_131 9 rfl)
theorem dL_law_1582 : decode cL_law 1582 = .ok (.aload_n 0, 1) := dk_1042 (dk_g tcL_law_131 10 rfl)
theorem dL_law_1583 : decode cL_law 1583 = .ok (.iload_n 3, 1) := dk_1029 (dk_g tcL_law_131 11 rfl)
theorem tcL_law_132 : (cL_law.data.toList.drop 1584).take 12 = [4, 96, 46, 42, 29, 5, 96, 46, 182, 0, 175, 87] := dk_h tycL_law_8 48 (by decide +kernel)
theorem dL_law_1584 : decode cL_law 1584 = .ok (.iconst 1, 1) := dk_1004 (dk_g tcL_law_132 0 rfl)
theorem dL_law_1585 : decode cL_law 1585 = .ok (.iadd, 1) := dk_1096 (dk_g tcL_law_132 1 rfl)
theorem dL_law_1586 : decode cL_law 1586 = .ok (.iaload, 1) := dk_1046 (dk_g tcL_law_132 2 rfl)
theorem dL_law_1587 : decode cL_law 1587 = .ok (.aload_n 0, 1) := dk_1042 (dk_g tcL_law_132 3 rfl)
theorem dL_law_1588 : decode cL_law 1588 = .ok (.iload_n 3, 1) := dk_1029 (dk_g tcL_law_132 4 rfl)
theorem dL_law_1589 : decode cL_law 1589 = .ok (.iconst 2, 1) := dk_1005 (dk_g tcL_law_132 5 rfl)
theorem dL_law_1590 : decode cL_law 1590 = .ok (.iadd, 1) := dk_1096 (dk_g tcL_law_132 6 rfl)
theorem dL_law_1591 : decode cL_law 1591 = .ok (.iaload, 1) := dk_1046 (dk_g tcL_law_132 7 rfl)
theorem dL_law_1592 : decode cL_law 1592 = .ok (.invokevirtual 175, 3) := dk_1182 (dk_g tcL_law_132 8 rfl) (dk_g tcL_law_132 9 rfl) (dk_g tcL_law_132 10 rfl) rfl
theorem dL_law_1595 : decode cL_law 1595 = .ok (.pop, 1) := dk_1087 (dk_g tcL_law_132 11 rfl)
theorem tcL_law_133 : (cL_law.data.toList.drop 1596).take 12 = [44, 42, 29, 4, 96, 46, 42, 29, 5, 96, 46, 182] := dk_h tycL_law_8 60 (by decide +kernel)
theorem dL_law_1596 : decode cL_law 1596 = .ok (.aload_n 2, 1) := dk_1044 (dk_g tcL_law_133 0 rfl)
theorem dL_law_1597 : decode cL_law 1597 = .ok (.aload_n 0, 1) := dk_1042 (dk_g tcL_law_133 1 rfl)
theorem dL_law_1598 : decode cL_law 1598 = .ok (.iload_n 3, 1) := dk_1029 (dk_g tcL_law_133 2 rfl)
theorem dL_law_1599 : decode cL_law 1599 = .ok (.iconst 1, 1) := dk_1004 (dk_g tcL_law_133 3 rfl)
theorem dL_law_1600 : decode cL_law 1600 = .ok (.iadd, 1) := dk_1096 (dk_g tcL_law_133 4 rfl)
theorem dL_law_1601 : decode cL_law 1601 = .ok (.iaload, 1) := dk_1046 (dk_g tcL_law_133 5 rfl)
theorem dL_law_1602 : decode cL_law 1602 = .ok (.aload_n 0, 1) := dk_1042 (dk_g tcL_law_133 6 rfl)
theorem dL_law_1603 : decode cL_law 1603 = .ok (.iload_n 3, 1) := dk_1029 (dk_g tcL_law_133 7 rfl)
theorem dL_law_1604 : decode cL_law 1604 = .ok (.iconst 2, 1) := dk_1005 (dk_g tcL_law_133 8 rfl)
theorem dL_law_1605 : decode cL_law 1605 = .ok (.iadd, 1) := dk_1096 (dk_g tcL_law_133 9 rfl)
theorem dL_law_1606 : decode cL_law 1606 = .ok (.iaload, 1) := dk_1046 (dk_g tcL_law_133 10 rfl)
theorem tcL_law_134 : (cL_law.data.toList.drop 1608).take 12 = [0, 178, 87, 167, 3, 12, 43, 42, 29, 4, 96, 46] := dk_h tycL_law_8 72 (by decide +kernel)
theorem dL_law_1607 : decode cL_law 1607 = .ok (.invokevirtual 178, 3) := dk_1182 (dk_g tcL_law_133 11 rfl) (dk_g tcL_law_134 0 rfl) (dk_g tcL_law_134 1 rfl) rfl
theorem dL_law_1610 : decode cL_law 1610 = .ok (.pop, 1) := dk_1087 (dk_g tcL_law_134 2 rfl)
theorem dL_law_1611 : decode cL_law 1611 = .ok (.goto 780, 3) := dk_2167 (dk_g tcL_law_134 3 rfl) (dk_g tcL_law_134 4 rfl) (dk_g tcL_law_134 5 rfl) rfl rfl
theorem dL_law_1614 : decode cL_law 1614 = .ok (.aload_n 1, 1) := dk_1043 (dk_g tcL_law_134 6 rfl)
theorem dL_law_1615 : decode cL_law 1615 = .ok (.aload_n 0, 1) := dk_1042 (dk_g tcL_law_134 7 rfl)
theorem dL_law_1616 : decode cL_law 1616 = .ok (.iload_n 3, 1) := dk_1029 (dk_g tcL_law_134 8 rfl)
theorem dL_law_1617 : decode cL_law 1617 = .ok (.iconst 1, 1) := dk_1004 (dk_g tcL_law_134 9 rfl)
theorem dL_law_1618 : decode cL_law 1618 = .ok (.iadd, 1) := dk_1096 (dk_g tcL_law_134 10 rfl)
theorem dL_law_1619 : decode cL_law 1619 = .ok (.iaload, 1) := dk_1046 (dk_g tcL_law_134 11 rfl)
theorem tcL_law_135 : (cL_law.data.toList.drop 1620).take 12 = [42, 29, 5, 96, 46, 182, 0, 179, 87, 44, 42, 29] := dk_h tycL_law_8 84 (by decide +kernel)
theorem dL_law_1620 : decode cL_law 1620 = .ok (.aload_n 0, 1) := dk_1042 (dk_g tcL_law_135 0 rfl)
theorem dL_law_1621 : decode cL_law 1621 = .ok (.iload_n 3, 1) := dk_1029 (dk_g tcL_law_135 1 rfl)
theorem dL_law_1622 : decode cL_law 1622 = .ok (.iconst 2, 1) := dk_1005 (dk_g tcL_law_135 2 rfl)
theorem dL_law_1623 : decode cL_law 1623 = .ok (.iadd, 1) := dk_1096 (dk_g tcL_law_135 3 rfl)
theorem dL_law_1624 : decode cL_law 1624 = .ok (.iaload, 1) := dk_1046 (dk_g tcL_law_135 4 rfl)
theorem dL_law_1625 : decode cL_law 1625 = .ok (.invokevirtual 179, 3) := dk_1182 (dk_g tcL_law_135 5 rfl) (dk_g tcL_law_135 6 rfl) (dk_g tcL_law_135 7 rfl) rfl
theorem dL_law_1628 : decode cL_law 1628 = .ok (.pop, 1) := dk_1087 (dk_g tcL_law_135 8 rfl)
theorem dL_law_1629 : decode cL_law 1629 = .ok (.aload_n 2, 1) := dk_1044 (dk_g tcL_law_135 9 rfl)
theorem dL_law_1630 : decode cL_law 1630 = .ok (.aload_n 0, 1) := dk_1042 (dk_g tcL_law_135 10 rfl)
theorem dL_law_1631 : decode cL_law 1631 = .ok (.iload_n 3, 1) := dk_1029 (dk_g tcL_law_135 11 rfl)
theorem tcL_law_136 : (cL_law.data.toList.drop 1632).take 12 = [4, 96, 46, 42, 29, 5, 96, 46, 182, 0, 182, 87] := dk_h tycL_law_8 96 (by decide +kernel)
theorem dL_law_1632 : decode cL_law 1632 = .ok (.iconst 1, 1) := dk_1004 (dk_g tcL_law_136 0 rfl)
theorem dL_law_1633 : decode cL_law 1633 = .ok (.iadd, 1) := dk_1096 (dk_g tcL_law_136 1 rfl)
theorem dL_law_1634 : decode cL_law 1634 = .ok (.iaload, 1) := dk_1046 (dk_g tcL_law_136 2 rfl)
theorem dL_law_1635 : decode cL_law 1635 = .ok (.aload_n 0, 1) := dk_1042 (dk_g tcL_law_136 3 rfl)
theorem dL_law_1636 : decode cL_law 1636 = .ok (.iload_n 3, 1) := dk_1029 (dk_g tcL_law_136 4 rfl)
theorem dL_law_1637 : decode cL_law 1637 = .ok (.iconst 2, 1) := dk_1005 (dk_g tcL_law_136 5 rfl)
theorem dL_law_1638 : decode cL_law 1638 = .ok (.iadd, 1) := dk_1096 (dk_g tcL_law_136 6 rfl)
theorem dL_law_1639 : decode cL_law 1639 = .ok (.iaload, 1) := dk_1046 (dk_g tcL_law_136 7 rfl)
theorem dL_law_1640 : decode cL_law 1640 = .ok (.invokevirtual 182, 3) := dk_1182 (dk_g tcL_law_136 8 rfl) (dk_g tcL_law_136 9 rfl) (dk_g tcL_law_136 10 rfl) rfl
theorem dL_law_1643 : decode cL_law 1643 = .ok (.pop, 1) := dk_1087 (dk_g tcL_law_136 11 rfl)
theorem tcL_law_137 : (cL_law.data.toList.drop 1644).take 12 = [167, 2, 235, 43, 42, 29, 4, 96, 46, 42, 29, 5] := dk_h tycL_law_8 108 (by decide +kernel)
theorem dL_law_1644 : decode cL_law 1644 = .ok (.goto 747, 3) := dk_2167 (dk_g tcL_law_137 0 rfl) (dk_g tcL_law_137 1 rfl) (dk_g tcL_law_137 2 rfl) rfl rfl
theorem dL_law_1647 : decode cL_law 1647 = .ok (.aload_n 1, 1) := dk_1043 (dk_g tcL_law_137 3 rfl)
theorem dL_law_1648 : decode cL_law 1648 = .ok (.aload_n 0, 1) := dk_1042 (dk_g tcL_law_137 4 rfl)
theorem dL_law_1649 : decode cL_law 1649 = .ok (.iload_n 3, 1) := dk_1029 (dk_g tcL_law_137 5 rfl)
theorem dL_law_1650 : decode cL_law 1650 = .ok (.iconst 1, 1) := dk_1004 (dk_g tcL_law_137 6 rfl)
theorem dL_law_1651 : decode cL_law 1651 = .ok (.iadd, 1) := dk_1096 (dk_g tcL_law_137 7 rfl)
theorem dL_law_1652 : decode cL_law 1652 = .ok (.iaload, 1) := dk_1046 (dk_g tcL_law_137 8 rfl)
theorem dL_law_1653 : decode cL_law 1653 = .ok (.aload_n 0, 1) := dk_1042 (dk_g tcL_law_137 9 rfl)
theorem dL_law_1654 : decode cL_law 1654 = .ok (.iload_n 3, 1) := dk_1029 (dk_g tcL_law_137 10 rfl)
theorem dL_law_1655 : decode cL_law 1655 = .ok (.iconst 2, 1) := dk_1005 (dk_g tcL_law_137 11 rfl)
theorem tcL_law_138 : (cL_law.data.toList.drop 1656).take 12 = [96, 46, 42, 29, 6, 96, 46, 182, 0, 183, 87, 44] := dk_h tycL_law_8 120 (by decide +kernel)
theorem dL_law_1656 : decode cL_law 1656 = .ok (.iadd, 1) := dk_1096 (dk_g tcL_law_138 0 rfl)
theorem dL_law_1657 : decode cL_law 1657 = .ok (.iaload, 1) := dk_1046 (dk_g tcL_law_138 1 rfl)
theorem dL_law_1658 : decode cL_law 1658 = .ok (.aload_n 0, 1) := dk_1042 (dk_g tcL_law_138 2 rfl)
theorem dL_law_1659 : decode cL_law 1659 = .ok (.iload_n 3, 1) := dk_1029 (dk_g tcL_law_138 3 rfl)
theorem dL_law_1660 : decode cL_law 1660 = .ok (.iconst 3, 1) := dk_1006 (dk_g tcL_law_138 4 rfl)
theorem dL_law_1661 : decode cL_law 1661 = .ok (.iadd, 1) := dk_1096 (dk_g tcL_law_138 5 rfl)
theorem dL_law_1662 : decode cL_law 1662 = .ok (.iaload, 1) := dk_1046 (dk_g tcL_law_138 6 rfl)
theorem dL_law_1663 : decode cL_law 1663 = .ok (.invokevirtual 183, 3) := dk_1182 (dk_g tcL_law_138 7 rfl) (dk_g tcL_law_138 8 rfl) (dk_g tcL_law_138 9 rfl) rfl
theorem dL_law_1666 : decode cL_law 1666 = .ok (.pop, 1) := dk_1087 (dk_g tcL_law_138 10 rfl)
theorem dL_law_1667 : decode cL_law 1667 = .ok (.aload_n 2, 1) := dk_1044 (dk_g tcL_law_138 11 rfl)
theorem tcL_law_139 : (cL_law.data.toList.drop 1668).take 12 = [42, 29, 4, 96, 46, 42, 29, 5, 96, 46, 42, 29] := dk_h tycL_law_8 132 (by decide +kernel)
theorem dL_law_1668 : decode cL_law 1668 = .ok (.aload_n 0, 1) := dk_1042 (dk_g tcL_law_139 0 rfl)
theorem dL_law_1669 : decode cL_law 1669 = .ok (.iload_n 3, 1) := dk_1029 (dk_g tcL_law_139 1 rfl)
theorem dL_law_1670 : decode cL_law 1670 = .ok (.iconst 1, 1) := dk_1004 (dk_g tcL_law_139 2 rfl)
theorem dL_law_1671 : decode cL_law 1671 = .ok (.iadd, 1) := dk_1096 (dk_g tcL_law_139 3 rfl)
theorem dL_law_1672 : decode cL_law 1672 = .ok (.iaload, 1) := dk_1046 (dk_g tcL_law_139 4 rfl)
theorem dL_law_1673 : decode cL_law 1673 = .ok (.aload_n 0, 1) := dk_1042 (dk_g tcL_law_139 5 rfl)
theorem dL_law_1674 : decode cL_law 1674 = .ok (.iload_n 3, 1) := dk_1029 (dk_g tcL_law_139 6 rfl)
theorem dL_law_1675 : decode cL_law 1675 = .ok (.iconst 2, 1) := dk_1005 (dk_g tcL_law_139 7 rfl)
theorem dL_law_1676 : decode cL_law 1676 = .ok (.iadd, 1) := dk_1096 (dk_g tcL_law_139 8 rfl)
theorem dL_law_1677 : decode cL_law 1677 = .ok (.iaload, 1) := dk_1046 (dk_g tcL_law_139 9 rfl)
theorem dL_law_1678 : decode cL_law 1678 = .ok (.aload_n 0, 1) := dk_1042 (dk_g tcL_law_139 10 rfl)
theorem dL_law_1679 : decode cL_law 1679 = .ok (.iload_n 3, 1) := dk_1029 (dk_g tcL_law_139 11 rfl)
theorem tcL_law_140 : (cL_law.data.toList.drop 1680).take 12 = [6, 96, 46, 182, 0, 186, 87, 167, 2, 192, 43, 42] := dk_h tycL_law_8 144 (by decide +kernel)
theorem dL_law_1680 : decode cL_law 1680 = .ok (.iconst 3, 1) := dk_1006 (dk_g tcL_law_140 0 rfl)
theorem dL_law_1681 : decode cL_law 1681 = .ok (.iadd, 1) := dk_1096 (dk_g tcL_law_140 1 rfl)
theorem dL_law_1682 : decode cL_law 1682 = .ok (.iaload, 1) := dk_1046 (dk_g tcL_law_140 2 rfl)
theorem dL_law_1683 : decode cL_law 1683 = .ok (.invokevirtual 186, 3) := dk_1182 (dk_g tcL_law_140 3 rfl) (dk_g tcL_law_140 4 rfl) (dk_g tcL_law_140 5 rfl) rfl
theorem dL_law_1686 : decode cL_law 1686 = .ok (.pop, 1) := dk_1087 (dk_g tcL_law_140 6 rfl)
theorem dL_law_1687 : decode cL_law 1687 = .ok (.goto 704, 3) := dk_2167 (dk_g tcL_law_140 7 rfl) (dk_g tcL_law_140 8 rfl) (dk_g tcL_law_140 9 rfl) rfl rfl
theorem dL_law_1690 : decode cL_law 1690 = .ok (.aload_n 1, 1) := dk_1043 (dk_g tcL_law_140 10 rfl)
theorem dL_law_1691 : decode cL_law 1691 = .ok (.aload_n 0, 1) := dk_1042 (dk_g tcL_law_140 11 rfl)
theorem tcL_law_141 : (cL_law.data.toList.drop 1692).take 12 = [29, 4, 96, 46, 42, 29, 5, 96, 46, 182, 0, 187] := dk_h tycL_law_8 156 (by decide +kernel)
theorem dL_law_1692 : decode cL_law 1692 = .ok (.iload_n 3, 1) := dk_1029 (dk_g tcL_law_141 0 rfl)
theorem dL_law_1693 : decode cL_law 1693 = .ok (.iconst 1, 1) := dk_1004 (dk_g tcL_law_141 1 rfl)
theorem dL_law_1694 : decode cL_law 1694 = .ok (.iadd, 1) := dk_1096 (dk_g tcL_law_141 2 rfl)
theorem dL_law_1695 : decode cL_law 1695 = .ok (.iaload, 1) := dk_1046 (dk_g tcL_law_141 3 rfl)
theorem dL_law_1696 : decode cL_law 1696 = .ok (.aload_n 0, 1) := dk_1042 (dk_g tcL_law_141 4 rfl)
theorem dL_law_1697 : decode cL_law 1697 = .ok (.iload_n 3, 1) := dk_1029 (dk_g tcL_law_141 5 rfl)
theorem dL_law_1698 : decode cL_law 1698 = .ok (.iconst 2, 1) := dk_1005 (dk_g tcL_law_141 6 rfl)
theorem dL_law_1699 : decode cL_law 1699 = .ok (.iadd, 1) := dk_1096 (dk_g tcL_law_141 7 rfl)
theorem dL_law_1700 : decode cL_law 1700 = .ok (.iaload, 1) := dk_1046 (dk_g tcL_law_141 8 rfl)
theorem dL_law_1701 : decode cL_law 1701 = .ok (.invokevirtual 187, 3) := dk_1182 (dk_g tcL_law_141 9 rfl) (dk_g tcL_law_141 10 rfl) (dk_g tcL_law_141 11 rfl) rfl
theorem tcL_law_142 : (cL_law.data.toList.drop 1704).take 12 = [87, 44, 42, 29, 4, 96, 46, 42, 29, 5, 96, 46] := dk_h tycL_law_8 168 (by decide +kernel)
theorem dL_law_1704 : decode cL_law 1704 = .ok (.pop, 1) := dk_1087 (dk_g tcL_law_142 0 rfl)
theorem dL_law_1705 : decode cL_law 1705 = .ok (.aload_n 2, 1) := dk_1044 (dk_g tcL_law_142 1 rfl)
theorem dL_law_1706 : decode cL_law 1706 = .ok (.aload_n 0, 1) := dk_1042 (dk_g tcL_law_142 2 rfl)
theorem dL_law_1707 : decode cL_law 1707 = .ok (.iload_n 3, 1) := dk_1029 (dk_g tcL_law_142 3 rfl)
theorem dL_law_1708 : decode cL_law 1708 = .ok (.iconst 1, 1) := dk_1004 (dk_g tcL_law_142 4 rfl)
theorem dL_law_1709 : decode cL_law 1709 = .ok (.iadd, 1) := dk_1096 (dk_g tcL_law_142 5 rfl)
theorem dL_law_1710 : decode cL_law 1710 = .ok (.iaload, 1) := dk_1046 (dk_g tcL_law_142 6 rfl)
theorem dL_law_1711 : decode cL_law 1711 = .ok (.aload_n 0, 1) := dk_1042 (dk_g tcL_law_142 7 rfl)
theorem dL_law_1712 : decode cL_law 1712 = .ok (.iload_n 3, 1) := dk_1029 (dk_g tcL_law_142 8 rfl)
theorem dL_law_1713 : decode cL_law 1713 = .ok (.iconst 2, 1) := dk_1005 (dk_g tcL_law_142 9 rfl)
theorem dL_law_1714 : decode cL_law 1714 = .ok (.iadd, 1) := dk_1096 (dk_g tcL_law_142 10 rfl)
theorem dL_law_1715 : decode cL_law 1715 = .ok (.iaload, 1) := dk_1046 (dk_g tcL_law_142 11 rfl)
theorem tcL_law_143 : (cL_law.data.toList.drop 1716).take 12 = [182, 0, 190, 87, 167, 2, 159, 43, 42, 29, 4, 96] := dk_h tycL_law_8 180 (by decide +kernel)
theorem dL_law_1716 : decode cL_law 1716 = .ok (.invokevirtual 190, 3) := dk_1182 (dk_g tcL_law_143 0 rfl) (dk_g tcL_law_143 1 rfl) (dk_g tcL_law_143 2 rfl) rfl
theorem dL_law_1719 : decode cL_law 1719 = .ok (.pop, 1) := dk_1087 (dk_g tcL_law_143 3 rfl)
theorem dL_law_1720 : decode cL_law 1720 = .ok (.goto 671, 3) := dk_2167 (dk_g tcL_law_143 4 rfl) (dk_g tcL_law_143 5 rfl) (dk_g tcL_law_143 6 rfl) rfl rfl
theorem dL_law_1723 : decode cL_law 1723 = .ok (.aload_n 1, 1) := dk_1043 (dk_g tcL_law_143 7 rfl)
theorem dL_law_1724 : decode cL_law 1724 = .ok (.aload_n 0, 1) := dk_1042 (dk_g tcL_law_143 8 rfl)
theorem dL_law_1725 : decode cL_law 1725 = .ok (.iload_n 3, 1) := dk_1029 (dk_g tcL_law_143 9 rfl)
theorem dL_law_1726 : decode cL_law 1726 = .ok (.iconst 1, 1) := dk_1004 (dk_g tcL_law_143 10 rfl)
theorem dL_law_1727 : decode cL_law 1727 = .ok (.iadd, 1) := dk_1096 (dk_g tcL_law_143 11 rfl)
set_option maxRecDepth 100000 in
noncomputable def tzcL_law_9 : { l : List UInt8 // List.drop 192 (tzcL_law_8.1) = l } := by
  constructor
  conv => lhs; whnf
theorem tycL_law_9 : cL_law.data.toList.drop 1728 = tzcL_law_9.1 := dk_z tycL_law_8 tzcL_law_9.2
theorem tcL_law_144 : (cL_law.data.toList.drop 1728).take 12 = [46, 42, 29, 5, 96, 46, 42, 29, 6, 96, 46, 42] := dk_h tycL_law_9 0 (by decide +kernel)
theorem dL_law_1728 : decode cL_law 1728 = .ok (.iaload, 1) := dk_1046 (dk_g tcL_law_144 0 rfl)
theorem dL_law_1729 : decode cL_law 1729 = .ok (.aload_n 0, 1) := dk_1042 (dk_g tcL_law_144 1 rfl)
theorem dL_law_1730 : decode cL_law 1730 = .ok (.iload_n 3, 1) := dk_1029 (dk_g tcL_law_144 2 rfl)
theorem dL_law_1731 : decode cL_law 1731 = .ok (.iconst 2, 1) := dk_1005 (dk_g tcL_law_144 3 rfl)
theorem dL_law_1732 : decode cL_law 1732 = .ok (.iadd, 1) := dk_1096 (dk_g tcL_law_144 4 rfl)
theorem dL_law_1733 : decode cL_law 1733 = .ok (.iaload, 1) := dk_1046 (dk_g tcL_law_144 5 rfl)
theorem dL_law_1734 : decode cL_law 1734 = .ok (.aload_n 0, 1) := dk_1042 (dk_g tcL_law_144 6 rfl)
theorem dL_law_1735 : decode cL_law 1735 = .ok (.iload_n 3, 1) := dk_1029 (dk_g tcL_law_144 7 rfl)
theorem dL_law_1736 : decode cL_law 1736 = .ok (.iconst 3, 1) := dk_1006 (dk_g tcL_law_144 8 rfl)
theorem dL_law_1737 : decode cL_law 1737 = .ok (.iadd, 1) := dk_1096 (dk_g tcL_law_144 9 rfl)
theorem dL_law_1738 : decode cL_law 1738 = .ok (.iaload, 1) := dk_1046 (dk_g tcL_law_144 10 rfl)
theorem dL_law_1739 : decode cL_law 1739 = .ok (.aload_n 0, 1) := dk_1042 (dk_g tcL_law_144 11 rfl)
theorem tcL_law_145 : (cL_law.data.toList.drop 1740).take 12 = [29, 7, 96, 46, 182, 0, 191, 87, 44, 42, 29, 4] := dk_h tycL_law_9 12 (by decide +kernel)
theorem dL_law_1740 : decode cL_law 1740 = .ok (.iload_n 3, 1) := dk_1029 (dk_g tcL_law_145 0 rfl)
theorem dL_law_1741 : decode cL_law 1741 = .ok (.iconst 4, 1) := dk_1007 (dk_g tcL_law_145 1 rfl)
theorem dL_law_1742 : decode cL_law 1742 = .ok (.iadd, 1) := dk_1096 (dk_g tcL_law_145 2 rfl)
theorem dL_law_1743 : decode cL_law 1743 = .ok (.iaload, 1) := dk_1046 (dk_g tcL_law_145 3 rfl)
theorem dL_law_1744 : decode cL_law 1744 = .ok (.invokevirtual 191, 3) := dk_1182 (dk_g tcL_law_145 4 rfl) (dk_g tcL_law_145 5 rfl) (dk_g tcL_law_145 6 rfl) rfl
theorem dL_law_1747 : decode cL_law 1747 = .ok (.pop, 1) := dk_1087 (dk_g tcL_law_145 7 rfl)
theorem dL_law_1748 : decode cL_law 1748 = .ok (.aload_n 2, 1) := dk_1044 (dk_g tcL_law_145 8 rfl)
theorem dL_law_1749 : decode cL_law 1749 = .ok (.aload_n 0, 1) := dk_1042 (dk_g tcL_law_145 9 rfl)
theorem dL_law_1750 : decode cL_law 1750 = .ok (.iload_n 3, 1) := dk_1029 (dk_g tcL_law_145 10 rfl)
theorem dL_law_1751 : decode cL_law 1751 = .ok (.iconst 1, 1) := dk_1004 (dk_g tcL_law_145 11 rfl)
theorem tcL_law_146 : (cL_law.data.toList.drop 1752).take 12 = [96, 46, 42, 29, 5, 96, 46, 42, 29, 6, 96, 46] := dk_h tycL_law_9 24 (by decide +kernel)
theorem dL_law_1752 : decode cL_law 1752 = .ok (.iadd, 1) := dk_1096 (dk_g tcL_law_146 0 rfl)
theorem dL_law_1753 : decode cL_law 1753 = .ok (.iaload, 1) := dk_1046 (dk_g tcL_law_146 1 rfl)
theorem dL_law_1754 : decode cL_law 1754 = .ok (.aload_n 0, 1) := dk_1042 (dk_g tcL_law_146 2 rfl)
theorem dL_law_1755 : decode cL_law 1755 = .ok (.iload_n 3, 1) := dk_1029 (dk_g tcL_law_146 3 rfl)
theorem dL_law_1756 : decode cL_law 1756 = .ok (.iconst 2, 1) := dk_1005 (dk_g tcL_law_146 4 rfl)
theorem dL_law_1757 : decode cL_law 1757 = .ok (.iadd, 1) := dk_1096 (dk_g tcL_law_146 5 rfl)
theorem dL_law_1758 : decode cL_law 1758 = .ok (.iaload, 1) := dk_1046 (dk_g tcL_law_146 6 rfl)
theorem dL_law_1759 : decode cL_law 1759 = .ok (.aload_n 0, 1) := dk_1042 (dk_g tcL_law_146 7 rfl)
theorem dL_law_1760 : decode cL_law 1760 = .ok (.iload_n 3, 1) := dk_1029 (dk_g tcL_law_146 8 rfl)
theorem dL_law_1761 : decode cL_law 1761 = .ok (.iconst 3, 1) := dk_1006 (dk_g tcL_law_146 9 rfl)
theorem dL_law_1762 : decode cL_law 1762 = .ok (.iadd, 1) := dk_1096 (dk_g tcL_law_146 10 rfl)
theorem dL_law_1763 : decode cL_law 1763 = .ok (.iaload, 1) := dk_1046 (dk_g tcL_law_146 11 rfl)
theorem tcL_law_147 : (cL_law.data.toList.drop 1764).take 12 = [42, 29, 7, 96, 46, 182, 0, 194, 87, 167, 2, 106] := dk_h tycL_law_9 36 (by decide +kernel)
theorem dL_law_1764 : decode cL_law 1764 = .ok (.aload_n 0, 1) := dk_1042 (dk_g tcL_law_147 0 rfl)
theorem dL_law_1765 : decode cL_law 1765 = .ok (.iload_n 3, 1) := dk_1029 (dk_g tcL_law_147 1 rfl)
theorem dL_law_1766 : decode cL_law 1766 = .ok (.iconst 4, 1) := dk_1007 (dk_g tcL_law_147 2 rfl)
theorem dL_law_1767 : decode cL_law 1767 = .ok (.iadd, 1) := dk_1096 (dk_g tcL_law_147 3 rfl)
theorem dL_law_1768 : decode cL_law 1768 = .ok (.iaload, 1) := dk_1046 (dk_g tcL_law_147 4 rfl)
theorem dL_law_1769 : decode cL_law 1769 = .ok (.invokevirtual 194, 3) := dk_1182 (dk_g tcL_law_147 5 rfl) (dk_g tcL_law_147 6 rfl) (dk_g tcL_law_147 7 rfl) rfl
theorem dL_law_1772 : decode cL_law 1772 = .ok (.pop, 1) := dk_1087 (dk_g tcL_law_147 8 rfl)
theorem dL_law_1773 : decode cL_law 1773 = .ok (.goto 618, 3) := dk_2167 (dk_g tcL_law_147 9 rfl) (dk_g tcL_law_147 10 rfl) (dk_g tcL_law_147 11 rfl) rfl rfl
theorem tcL_law_148 : (cL_law.data.toList.drop 1776).take 12 = [43, 42, 29, 4, 96, 46, 42, 29, 5, 96, 46, 42] := dk_h tycL_law_9 48 (by decide +kernel)
theorem dL_law_1776 : decode cL_law 1776 = .ok (.aload_n 1, 1) := dk_1043 (dk_g tcL_law_148 0 rfl)
theorem dL_law_1777 : decode cL_law 1777 = .ok (.aload_n 0, 1) := dk_1042 (dk_g tcL_law_148 1 rfl)
theorem dL_law_1778 : decode cL_law 1778 = .ok (.iload_n 3, 1) := dk_1029 (dk_g tcL_law_148 2 rfl)
theorem dL_law_1779 : decode cL_law 1779 = .ok (.iconst 1, 1) := dk_1004 (dk_g tcL_law_148 3 rfl)
theorem dL_law_1780 : decode cL_law 1780 = .ok (.iadd, 1) := dk_1096 (dk_g tcL_law_148 4 rfl)
theorem dL_law_1781 : decode cL_law 1781 = .ok (.iaload, 1) := dk_1046 (dk_g tcL_law_148 5 rfl)
theorem dL_law_1782 : decode cL_law 1782 = .ok (.aload_n 0, 1) := dk_1042 (dk_g tcL_law_148 6 rfl)
theorem dL_law_1783 : decode cL_law 1783 = .ok (.iload_n 3, 1) := dk_1029 (dk_g tcL_law_148 7 rfl)
theorem dL_law_1784 : decode cL_law 1784 = .ok (.iconst 2, 1) := dk_1005 (dk_g tcL_law_148 8 rfl)
theorem dL_law_1785 : decode cL_law 1785 = .ok (.iadd, 1) := dk_1096 (dk_g tcL_law_148 9 rfl)
theorem dL_law_1786 : decode cL_law 1786 = .ok (.iaload, 1) := dk_1046 (dk_g tcL_law_148 10 rfl)
theorem dL_law_1787 : decode cL_law 1787 = .ok (.aload_n 0, 1) := dk_1042 (dk_g tcL_law_148 11 rfl)
theorem tcL_law_149 : (cL_law.data.toList.drop 1788).take 12 = [29, 6, 96, 46, 42, 29, 7, 96, 46, 42, 29, 8] := dk_h tycL_law_9 60 (by decide +kernel)
theorem dL_law_1788 : decode cL_law 1788 = .ok (.iload_n 3, 1) := dk_1029 (dk_g tcL_law_149 0 rfl)
theorem dL_law_1789 : decode cL_law 1789 = .ok (.iconst 3, 1) := dk_1006 (dk_g tcL_law_149 1 rfl)
theorem dL_law_1790 : decode cL_law 1790 = .ok (.iadd, 1) := dk_1096 (dk_g tcL_law_149 2 rfl)
theorem dL_law_1791 : decode cL_law 1791 = .ok (.iaload, 1) := dk_1046 (dk_g tcL_law_149 3 rfl)
theorem dL_law_1792 : decode cL_law 1792 = .ok (.aload_n 0, 1) := dk_1042 (dk_g tcL_law_149 4 rfl)
theorem dL_law_1793 : decode cL_law 1793 = .ok (.iload_n 3, 1) := dk_1029 (dk_g tcL_law_149 5 rfl)
theorem dL_law_1794 : decode cL_law 1794 = .ok (.iconst 4, 1) := dk_1007 (dk_g tcL_law_149 6 rfl)
theorem dL_law_1795 : decode cL_law 1795 = .ok (.iadd, 1) := dk_1096 (dk_g tcL_law_149 7 rfl)
theorem dL_law_1796 : decode cL_law 1796 = .ok (.iaload, 1) := dk_1046 (dk_g tcL_law_149 8 rfl)
theorem dL_law_1797 : decode cL_law 1797 = .ok (.aload_n 0, 1) := dk_1042 (dk_g tcL_law_149 9 rfl)
theorem dL_law_1798 : decode cL_law 1798 = .ok (.iload_n 3, 1) := dk_1029 (dk_g tcL_law_149 10 rfl)
theorem dL_law_1799 : decode cL_law 1799 = .ok (.iconst 5, 1) := dk_1008 (dk_g tcL_law_149 11 rfl)
theorem tcL_law_150 : (cL_law.data.toList.drop 1800).take 12 = [96, 46, 182, 0, 195, 87, 44, 42, 29, 4, 96, 46] := dk_h tycL_law_9 72 (by decide +kernel)
theorem dL_law_1800 : decode cL_law 1800 = .ok (.iadd, 1) := dk_1096 (dk_g tcL_law_150 0 rfl)
theorem dL_law_1801 : decode cL_law 1801 = .ok (.iaload, 1) := dk_1046 (dk_g tcL_law_150 1 rfl)
theorem dL_law_1802 : decode cL_law 1802 = .ok (.invokevirtual 195, 3) := dk_1182 (dk_g tcL_law_150 2 rfl) (dk_g tcL_law_150 3 rfl) (dk_g tcL_law_150 4 rfl) rfl
theorem dL_law_1805 : decode cL_law 1805 = .ok (.pop, 1) := dk_1087 (dk_g tcL_law_150 5 rfl)
theorem dL_law_1806 : decode cL_law 1806 = .ok (.aload_n 2, 1) := dk_1044 (dk_g tcL_law_150 6 rfl)
theorem dL_law_1807 : decode cL_law 1807 = .ok (.aload_n 0, 1) := dk_1042 (dk_g tcL_law_150 7 rfl)
theorem dL_law_1808 : decode cL_law 1808 = .ok (.iload_n 3, 1) := dk_1029 (dk_g tcL_law_150 8 rfl)
theorem dL_law_1809 : decode cL_law 1809 = .ok (.iconst 1, 1) := dk_1004 (dk_g tcL_law_150 9 rfl)
theorem dL_law_1810 : decode cL_law 1810 = .ok (.iadd, 1) := dk_1096 (dk_g tcL_law_150 10 rfl)
theorem dL_law_1811 : decode cL_law 1811 = .ok (.iaload, 1) := dk_1046 (dk_g tcL_law_150 11 rfl)
theorem tcL_law_151 : (cL_law.data.toList.drop 1812).take 12 = [42, 29, 5, 96, 46, 42, 29, 6, 96, 46, 42, 29] := dk_h tycL_law_9 84 (by decide +kernel)
theorem dL_law_1812 : decode cL_law 1812 = .ok (.aload_n 0, 1) := dk_1042 (dk_g tcL_law_151 0 rfl)
theorem dL_law_1813 : decode cL_law 1813 = .ok (.iload_n 3, 1) := dk_1029 (dk_g tcL_law_151 1 rfl)
theorem dL_law_1814 : decode cL_law 1814 = .ok (.iconst 2, 1) := dk_1005 (dk_g tcL_law_151 2 rfl)
theorem dL_law_1815 : decode cL_law 1815 = .ok (.iadd, 1) := dk_1096 (dk_g tcL_law_151 3 rfl)
theorem dL_law_1816 : decode cL_law 1816 = .ok (.iaload, 1) := dk_1046 (dk_g tcL_law_151 4 rfl)
theorem dL_law_1817 : decode cL_law 1817 = .ok (.aload_n 0, 1) := dk_1042 (dk_g tcL_law_151 5 rfl)
theorem dL_law_1818 : decode cL_law 1818 = .ok (.iload_n 3, 1) := dk_1029 (dk_g tcL_law_151 6 rfl)
theorem dL_law_1819 : decode cL_law 1819 = .ok (.iconst 3, 1) := dk_1006 (dk_g tcL_law_151 7 rfl)
theorem dL_law_1820 : decode cL_law 1820 = .ok (.iadd, 1) := dk_1096 (dk_g tcL_law_151 8 rfl)
theorem dL_law_1821 : decode cL_law 1821 = .ok (.iaload, 1) := dk_1046 (dk_g tcL_law_151 9 rfl)
theorem dL_law_1822 : decode cL_law 1822 = .ok (.aload_n 0, 1) := dk_1042 (dk_g tcL_law_151 10 rfl)
theorem dL_law_1823 : decode cL_law 1823 = .ok (.iload_n 3, 1) := dk_1029 (dk_g tcL_law_151 11 rfl)
theorem tcL_law_152 : (cL_law.data.toList.drop 1824).take 12 = [7, 96, 46, 42, 29, 8, 96, 46, 182, 0, 198, 87] := dk_h tycL_law_9 96 (by decide +kernel)
theorem dL_law_1824 : decode cL_law 1824 = .ok (.iconst 4, 1) := dk_1007 (dk_g tcL_law_152 0 rfl)
theorem dL_law_1825 : decode cL_law 1825 = .ok (.iadd, 1) := dk_1096 (dk_g tcL_law_152 1 rfl)
theorem dL_law_1826 : decode cL_law 1826 = .ok (.iaload, 1) := dk_1046 (dk_g tcL_law_152 2 rfl)
theorem dL_law_1827 : decode cL_law 1827 = .ok (.aload_n 0, 1) := dk_1042 (dk_g tcL_law_152 3 rfl)
theorem dL_law_1828 : decode cL_law 1828 = .ok (.iload_n 3, 1) := dk_1029 (dk_g tcL_law_152 4 rfl)
theorem dL_law_1829 : decode cL_law 1829 = .ok (.iconst 5, 1) := dk_1008 (dk_g tcL_law_152 5 rfl)
theorem dL_law_1830 : decode cL_law 1830 = .ok (.iadd, 1) := dk_1096 (dk_g tcL_law_152 6 rfl)
theorem dL_law_1831 : decode cL_law 1831 = .ok (.iaload, 1) := dk_1046 (dk_g tcL_law_152 7 rfl)
theorem dL_law_1832 : decode cL_law 1832 = .ok (.invokevirtual 198, 3) := dk_1182 (dk_g tcL_law_152 8 rfl) (dk_g tcL_law_152 9 rfl) (dk_g tcL_law_152 10 rfl) rfl
theorem dL_law_1835 : decode cL_law 1835 = .ok (.pop, 1) := dk_1087 (dk_g tcL_law_152 11 rfl)
theorem tcL_law_153 : (cL_law.data.toList.drop 1836).take 12 = [167, 2, 43, 43, 42, 29, 4, 96, 46, 42, 29, 5] := dk_h tycL_law_9 108 (by decide +kernel)
theorem dL_law_1836 : decode cL_law 1836 = .ok (.goto 555, 3) := dk_2167 (dk_g tcL_law_153 0 rfl) (dk_g tcL_law_153 1 rfl) (dk_g tcL_law_153 2 rfl) rfl rfl
theorem dL_law_1839 : decode cL_law 1839 = .ok (.aload_n 1, 1) := dk_1043 (dk_g tcL_law_153 3 rfl)
theorem dL_law_1840 : decode cL_law 1840 = .ok (.aload_n 0, 1) := dk_1042 (dk_g tcL_law_153 4 rfl)
theorem dL_law_1841 : decode cL_law 1841 = .ok (.iload_n 3, 1) := dk_1029 (dk_g tcL_law_153 5 rfl)
theorem dL_law_1842 : decode cL_law 1842 = .ok (.iconst 1, 1) := dk_1004 (dk_g tcL_law_153 6 rfl)
theorem dL_law_1843 : decode cL_law 1843 = .ok (.iadd, 1) := dk_1096 (dk_g tcL_law_153 7 rfl)
theorem dL_law_1844 : decode cL_law 1844 = .ok (.iaload, 1) := dk_1046 (dk_g tcL_law_153 8 rfl)
theorem dL_law_1845 : decode cL_law 1845 = .ok (.aload_n 0, 1) := dk_1042 (dk_g tcL_law_153 9 rfl)
theorem dL_law_1846 : decode cL_law 1846 = .ok (.iload_n 3, 1) := dk_1029 (dk_g tcL_law_153 10 rfl)
theorem dL_law_1847 : decode cL_law 1847 = .ok (.iconst 2, 1) := dk_1005 (dk_g tcL_law_153 11 rfl)
theorem tcL_law_154 : (cL_law.data.toList.drop 1848).take 12 = [96, 46, 42, 29, 6, 96, 46, 42, 29, 7, 96, 46] := dk_h tycL_law_9 120 (by decide +kernel)
theorem dL_law_1848 : decode cL_law 1848 = .ok (.iadd, 1) := dk_1096 (dk_g tcL_law_154 0 rfl)
theorem dL_law_1849 : decode cL_law 1849 = .ok (.iaload, 1) := dk_1046 (dk_g tcL_law_154 1 rfl)
theorem dL_law_1850 : decode cL_law 1850 = .ok (.aload_n 0, 1) := dk_1042 (dk_g tcL_law_154 2 rfl)
theorem dL_law_1851 : decode cL_law 1851 = .ok (.iload_n 3, 1) := dk_1029 (dk_g tcL_law_154 3 rfl)
theorem dL_law_1852 : decode cL_law 1852 = .ok (.iconst 3, 1) := dk_1006 (dk_g tcL_law_154 4 rfl)
theorem dL_law_1853 : decode cL_law 1853 = .ok (.iadd, 1) := dk_1096 (dk_g tcL_law_154 5 rfl)
theorem dL_law_1854 : decode cL_law 1854 = .ok (.iaload, 1) := dk_1046 (dk_g tcL_law_154 6 rfl)
theorem dL_law_1855 : decode cL_law 1855 = .ok (.aload_n 0, 1) := dk_1042 (dk_g tcL_law_154 7 rfl)
theorem dL_law_1856 : decode cL_law 1856 = .ok (.iload_n 3, 1) := dk_1029 (dk_g tcL_law_154 8 rfl)
theorem dL_law_1857 : decode cL_law 1857 = .ok (.iconst 4, 1) := dk_1007 (dk_g tcL_law_154 9 rfl)
theorem dL_law_1858 : decode cL_law 1858 = .ok (.iadd, 1) := dk_1096 (dk_g tcL_law_154 10 rfl)
theorem dL_law_1859 : decode cL_law 1859 = .ok (.iaload, 1) := dk_1046 (dk_g tcL_law_154 11 rfl)
theorem tcL_law_155 : (cL_law.data.toList.drop 1860).take 12 = [42, 29, 8, 96, 46, 182, 0, 199, 87, 44, 42, 29] := dk_h tycL_law_9 132 (by decide +kernel)
theorem dL_law_1860 : decode cL_law 1860 = .ok (.aload_n 0, 1) := dk_1042 (dk_g tcL_law_155 0 rfl)
theorem dL_law_1861 : decode cL_law 1861 = .ok (.iload_n 3, 1) := dk_1029 (dk_g tcL_law_155 1 rfl)
theorem dL_law_1862 : decode cL_law 1862 = .ok (.iconst 5, 1) := dk_1008 (dk_g tcL_law_155 2 rfl)
theorem dL_law_1863 : decode cL_law 1863 = .ok (.iadd, 1) := dk_1096 (dk_g tcL_law_155 3 rfl)
theorem dL_law_1864 : decode cL_law 1864 = .ok (.iaload, 1) := dk_1046 (dk_g tcL_law_155 4 rfl)
theorem dL_law_1865 : decode cL_law 1865 = .ok (.invokevirtual 199, 3) := dk_1182 (dk_g tcL_law_155 5 rfl) (dk_g tcL_law_155 6 rfl) (dk_g tcL_law_155 7 rfl) rfl
theorem dL_law_1868 : decode cL_law 1868 = .ok (.pop, 1) := dk_1087 (dk_g tcL_law_155 8 rfl)
theorem dL_law_1869 : decode cL_law 1869 = .ok (.aload_n 2, 1) := dk_1044 (dk_g tcL_law_155 9 rfl)
theorem dL_law_1870 : decode cL_law 1870 = .ok (.aload_n 0, 1) := dk_1042 (dk_g tcL_law_155 10 rfl)
theorem dL_law_1871 : decode cL_law 1871 = .ok (.iload_n 3, 1) := dk_1029 (dk_g tcL_law_155 11 rfl)
theorem tcL_law_156 : (cL_law.data.toList.drop 1872).take 12 = [4, 96, 46, 42, 29, 5, 96, 46, 42, 29, 6, 96] := dk_h tycL_law_9 144 (by decide +kernel)
theorem dL_law_1872 : decode cL_law 1872 = .ok (.iconst 1, 1) := dk_1004 (dk_g tcL_law_156 0 rfl)
theorem dL_law_1873 : decode cL_law 1873 = .ok (.iadd, 1) := dk_1096 (dk_g tcL_law_156 1 rfl)
theorem dL_law_1874 : decode cL_law 1874 = .ok (.iaload, 1) := dk_1046 (dk_g tcL_law_156 2 rfl)
theorem dL_law_1875 : decode cL_law 1875 = .ok (.aload_n 0, 1) := dk_1042 (dk_g tcL_law_156 3 rfl)
theorem dL_law_1876 : decode cL_law 1876 = .ok (.iload_n 3, 1) := dk_1029 (dk_g tcL_law_156 4 rfl)
theorem dL_law_1877 : decode cL_law 1877 = .ok (.iconst 2, 1) := dk_1005 (dk_g tcL_law_156 5 rfl)
theorem dL_law_1878 : decode cL_law 1878 = .ok (.iadd, 1) := dk_1096 (dk_g tcL_law_156 6 rfl)
theorem dL_law_1879 : decode cL_law 1879 = .ok (.iaload, 1) := dk_1046 (dk_g tcL_law_156 7 rfl)
theorem dL_law_1880 : decode cL_law 1880 = .ok (.aload_n 0, 1) := dk_1042 (dk_g tcL_law_156 8 rfl)
theorem dL_law_1881 : decode cL_law 1881 = .ok (.iload_n 3, 1) := dk_1029 (dk_g tcL_law_156 9 rfl)
theorem dL_law_1882 : decode cL_law 1882 = .ok (.iconst 3, 1) := dk_1006 (dk_g tcL_law_156 10 rfl)
theorem dL_law_1883 : decode cL_law 1883 = .ok (.iadd, 1) := dk_1096 (dk_g tcL_law_156 11 rfl)
theorem tcL_law_157 : (cL_law.data.toList.drop 1884).take 12 = [46, 42, 29, 7, 96, 46, 42, 29, 8, 96, 46, 182] := dk_h tycL_law_9 156 (by decide +kernel)
theorem dL_law_1884 : decode cL_law 1884 = .ok (.iaload, 1) := dk_1046 (dk_g tcL_law_157 0 rfl)
theorem dL_law_1885 : decode cL_law 1885 = .ok (.aload_n 0, 1) := dk_1042 (dk_g tcL_law_157 1 rfl)
theorem dL_law_1886 : decode cL_law 1886 = .ok (.iload_n 3, 1) := dk_1029 (dk_g tcL_law_157 2 rfl)
theorem dL_law_1887 : decode cL_law 1887 = .ok (.iconst 4, 1) := dk_1007 (dk_g tcL_law_157 3 rfl)
theorem dL_law_1888 : decode cL_law 1888 = .ok (.iadd, 1) := dk_1096 (dk_g tcL_law_157 4 rfl)
theorem dL_law_1889 : decode cL_law 1889 = .ok (.iaload, 1) := dk_1046 (dk_g tcL_law_157 5 rfl)
theorem dL_law_1890 : decode cL_law 1890 = .ok (.aload_n 0, 1) := dk_1042 (dk_g tcL_law_157 6 rfl)
theorem dL_law_1891 : decode cL_law 1891 = .ok (.iload_n 3, 1) := dk_1029 (dk_g tcL_law_157 7 rfl)
theorem dL_law_1892 : decode cL_law 1892 = .ok (.iconst 5, 1) := dk_1008 (dk_g tcL_law_157 8 rfl)
theorem dL_law_1893 : decode cL_law 1893 = .ok (.iadd, 1) := dk_1096 (dk_g tcL_law_157 9 rfl)
theorem dL_law_1894 : decode cL_law 1894 = .ok (.iaload, 1) := dk_1046 (dk_g tcL_law_157 10 rfl)
theorem tcL_law_158 : (cL_law.data.toList.drop 1896).take 12 = [0, 202, 87, 167, 1, 236, 43, 42, 29, 4, 96, 46] := dk_h tycL_law_9 168 (by decide +kernel)
theorem dL_law_1895 : decode cL_law 1895 = .ok (.invokevirtual 202, 3) := dk_1182 (dk_g tcL_law_157 11 rfl) (dk_g tcL_law_158 0 rfl) (dk_g tcL_law_158 1 rfl) rfl
theorem dL_law_1898 : decode cL_law 1898 = .ok (.pop, 1) := dk_1087 (dk_g tcL_law_158 2 rfl)
theorem dL_law_1899 : decode cL_law 1899 = .ok (.goto 492, 3) := dk_2167 (dk_g tcL_law_158 3 rfl) (dk_g tcL_law_158 4 rfl) (dk_g tcL_law_158 5 rfl) rfl rfl
theorem dL_law_1902 : decode cL_law 1902 = .ok (.aload_n 1, 1) := dk_1043 (dk_g tcL_law_158 6 rfl)
theorem dL_law_1903 : decode cL_law 1903 = .ok (.aload_n 0, 1) := dk_1042 (dk_g tcL_law_158 7 rfl)
theorem dL_law_1904 : decode cL_law 1904 = .ok (.iload_n 3, 1) := dk_1029 (dk_g tcL_law_158 8 rfl)
theorem dL_law_1905 : decode cL_law 1905 = .ok (.iconst 1, 1) := dk_1004 (dk_g tcL_law_158 9 rfl)
theorem dL_law_1906 : decode cL_law 1906 = .ok (.iadd, 1) := dk_1096 (dk_g tcL_law_158 10 rfl)
theorem dL_law_1907 : decode cL_law 1907 = .ok (.iaload, 1) := dk_1046 (dk_g tcL_law_158 11 rfl)
theorem tcL_law_159 : (cL_law.data.toList.drop 1908).take 12 = [42, 29, 5, 96, 46, 42, 29, 6, 96, 46, 42, 29] := dk_h tycL_law_9 180 (by decide +kernel)
theorem dL_law_1908 : decode cL_law 1908 = .ok (.aload_n 0, 1) := dk_1042 (dk_g tcL_law_159 0 rfl)
theorem dL_law_1909 : decode cL_law 1909 = .ok (.iload_n 3, 1) := dk_1029 (dk_g tcL_law_159 1 rfl)
theorem dL_law_1910 : decode cL_law 1910 = .ok (.iconst 2, 1) := dk_1005 (dk_g tcL_law_159 2 rfl)
theorem dL_law_1911 : decode cL_law 1911 = .ok (.iadd, 1) := dk_1096 (dk_g tcL_law_159 3 rfl)
theorem dL_law_1912 : decode cL_law 1912 = .ok (.iaload, 1) := dk_1046 (dk_g tcL_law_159 4 rfl)
theorem dL_law_1913 : decode cL_law 1913 = .ok (.aload_n 0, 1) := dk_1042 (dk_g tcL_law_159 5 rfl)
theorem dL_law_1914 : decode cL_law 1914 = .ok (.iload_n 3, 1) := dk_1029 (dk_g tcL_law_159 6 rfl)
theorem dL_law_1915 : decode cL_law 1915 = .ok (.iconst 3, 1) := dk_1006 (dk_g tcL_law_159 7 rfl)
theorem dL_law_1916 : decode cL_law 1916 = .ok (.iadd, 1) := dk_1096 (dk_g tcL_law_159 8 rfl)
theorem dL_law_1917 : decode cL_law 1917 = .ok (.iaload, 1) := dk_1046 (dk_g tcL_law_159 9 rfl)
theorem dL_law_1918 : decode cL_law 1918 = .ok (.aload_n 0, 1) := dk_1042 (dk_g tcL_law_159 10 rfl)
theorem dL_law_1919 : decode cL_law 1919 = .ok (.iload_n 3, 1) := dk_1029 (dk_g tcL_law_159 11 rfl)
set_option maxRecDepth 100000 in
noncomputable def tzcL_law_10 : { l : List UInt8 // List.drop 192 (tzcL_law_9.1) = l } := by
  constructor
  conv => lhs; whnf
theorem tycL_law_10 : cL_law.data.toList.drop 1920 = tzcL_law_10.1 := dk_z tycL_law_9 tzcL_law_10.2
theorem tcL_law_160 : (cL_law.data.toList.drop 1920).take 12 = [7, 96, 46, 182, 0, 203, 87, 44, 42, 29, 4, 96] := dk_h tycL_law_10 0 (by decide +kernel)
theorem dL_law_1920 : decode cL_law 1920 = .ok (.iconst 4, 1) := dk_1007 (dk_g tcL_law_160 0 rfl)
theorem dL_law_1921 : decode cL_law 1921 = .ok (.iadd, 1) := dk_1096 (dk_g tcL_law_160 1 rfl)
theorem dL_law_1922 : decode cL_law 1922 = .ok (.iaload, 1) := dk_1046 (dk_g tcL_law_160 2 rfl)
theorem dL_law_1923 : decode cL_law 1923 = .ok (.invokevirtual 203, 3) := dk_1182 (dk_g tcL_law_160 3 rfl) (dk_g tcL_law_160 4 rfl) (dk_g tcL_law_160 5 rfl) rfl
theorem dL_law_1926 : decode cL_law 1926 = .ok (.pop, 1) := dk_1087 (dk_g tcL_law_160 6 rfl)
theorem dL_law_1927 : decode cL_law 1927 = .ok (.aload_n 2, 1) := dk_1044 (dk_g tcL_law_160 7 rfl)
theorem dL_law_1928 : decode cL_law 1928 = .ok (.aload_n 0, 1) := dk_1042 (dk_g tcL_law_160 8 rfl)
theorem dL_law_1929 : decode cL_law 1929 = .ok (.iload_n 3, 1) := dk_1029 (dk_g tcL_law_160 9 rfl)
theorem dL_law_1930 : decode cL_law 1930 = .ok (.iconst 1, 1) := dk_1004 (dk_g tcL_law_160 10 rfl)
theorem dL_law_1931 : decode cL_law 1931 = .ok (.iadd, 1) := dk_1096 (dk_g tcL_law_160 11 rfl)
theorem tcL_law_161 : (cL_law.data.toList.drop 1932).take 12 = [46, 42, 29, 5, 96, 46, 42, 29, 6, 96, 46, 42] := dk_h tycL_law_10 12 (by decide +kernel)
theorem dL_law_1932 : decode cL_law 1932 = .ok (.iaload, 1) := dk_1046 (dk_g tcL_law_161 0 rfl)
theorem dL_law_1933 : decode cL_law 1933 = .ok (.aload_n 0, 1) := dk_1042 (dk_g tcL_law_161 1 rfl)
theorem dL_law_1934 : decode cL_law 1934 = .ok (.iload_n 3, 1) := dk_1029 (dk_g tcL_law_161 2 rfl)
theorem dL_law_1935 : decode cL_law 1935 = .ok (.iconst 2, 1) := dk_1005 (dk_g tcL_law_161 3 rfl)
theorem dL_law_1936 : decode cL_law 1936 = .ok (.iadd, 1) := dk_1096 (dk_g tcL_law_161 4 rfl)
theorem dL_law_1937 : decode cL_law 1937 = .ok (.iaload, 1) := dk_1046 (dk_g tcL_law_161 5 rfl)
theorem dL_law_1938 : decode cL_law 1938 = .ok (.aload_n 0, 1) := dk_1042 (dk_g tcL_law_161 6 rfl)
theorem dL_law_1939 : decode cL_law 1939 = .ok (.iload_n 3, 1) := dk_1029 (dk_g tcL_law_161 7 rfl)
theorem dL_law_1940 : decode cL_law 1940 = .ok (.iconst 3, 1) := dk_1006 (dk_g tcL_law_161 8 rfl)
theorem dL_law_1941 : decode cL_law 1941 = .ok (.iadd, 1) := dk_1096 (dk_g tcL_law_161 9 rfl)
theorem dL_law_1942 : decode cL_law 1942 = .ok (.iaload, 1) := dk_1046 (dk_g tcL_law_161 10 rfl)
theorem dL_law_1943 : decode cL_law 1943 = .ok (.aload_n 0, 1) := dk_1042 (dk_g tcL_law_161 11 rfl)
theorem tcL_law_162 : (cL_law.data.toList.drop 1944).take 12 = [29, 7, 96, 46, 182, 0, 206, 87, 167, 1, 183, 43] := dk_h tycL_law_10 24 (by decide +kernel)
theorem dL_law_1944 : decode cL_law 1944 = .ok (.iload_n 3, 1) := dk_1029 (dk_g tcL_law_162 0 rfl)
theorem dL_law_1945 : decode cL_law 1945 = .ok (.iconst 4, 1) := dk_1007 (dk_g tcL_law_162 1 rfl)
theorem dL_law_1946 : decode cL_law 1946 = .ok (.iadd, 1) := dk_1096 (dk_g tcL_law_162 2 rfl)
theorem dL_law_1947 : decode cL_law 1947 = .ok (.iaload, 1) := dk_1046 (dk_g tcL_law_162 3 rfl)
theorem dL_law_1948 : decode cL_law 1948 = .ok (.invokevirtual 206, 3) := dk_1182 (dk_g tcL_law_162 4 rfl) (dk_g tcL_law_162 5 rfl) (dk_g tcL_law_162 6 rfl) rfl
theorem dL_law_1951 : decode cL_law 1951 = .ok (.pop, 1) := dk_1087 (dk_g tcL_law_162 7 rfl)
theorem dL_law_1952 : decode cL_law 1952 = .ok (.goto 439, 3) := dk_2167 (dk_g tcL_law_162 8 rfl) (dk_g tcL_law_162 9 rfl) (dk_g tcL_law_162 10 rfl) rfl rfl
theorem dL_law_1955 : decode cL_law 1955 = .ok (.aload_n 1, 1) := dk_1043 (dk_g tcL_law_162 11 rfl)
theorem tcL_law_163 : (cL_law.data.toList.drop 1956).take 12 = [42, 29, 4, 96, 46, 42, 29, 5, 96, 46, 42, 29] := dk_h tycL_law_10 36 (by decide +kernel)
theorem dL_law_1956 : decode cL_law 1956 = .ok (.aload_n 0, 1) := dk_1042 (dk_g tcL_law_163 0 rfl)
theorem dL_law_1957 : decode cL_law 1957 = .ok (.iload_n 3, 1) := dk_1029 (dk_g tcL_law_163 1 rfl)
theorem dL_law_1958 : decode cL_law 1958 = .ok (.iconst 1, 1) := dk_1004 (dk_g tcL_law_163 2 rfl)
theorem dL_law_1959 : decode cL_law 1959 = .ok (.iadd, 1) := dk_1096 (dk_g tcL_law_163 3 rfl)
theorem dL_law_1960 : decode cL_law 1960 = .ok (.iaload, 1) := dk_1046 (dk_g tcL_law_163 4 rfl)
theorem dL_law_1961 : decode cL_law 1961 = .ok (.aload_n 0, 1) := dk_1042 (dk_g tcL_law_163 5 rfl)
theorem dL_law_1962 : decode cL_law 1962 = .ok (.iload_n 3, 1) := dk_1029 (dk_g tcL_law_163 6 rfl)
theorem dL_law_1963 : decode cL_law 1963 = .ok (.iconst 2, 1) := dk_1005 (dk_g tcL_law_163 7 rfl)
theorem dL_law_1964 : decode cL_law 1964 = .ok (.iadd, 1) := dk_1096 (dk_g tcL_law_163 8 rfl)
theorem dL_law_1965 : decode cL_law 1965 = .ok (.iaload, 1) := dk_1046 (dk_g tcL_law_163 9 rfl)
theorem dL_law_1966 : decode cL_law 1966 = .ok (.aload_n 0, 1) := dk_1042 (dk_g tcL_law_163 10 rfl)
theorem dL_law_1967 : decode cL_law 1967 = .ok (.iload_n 3, 1) := dk_1029 (dk_g tcL_law_163 11 rfl)
theorem tcL_law_164 : (cL_law.data.toList.drop 1968).take 12 = [6, 96, 46, 42, 29, 7, 96, 46, 182, 0, 207, 87] := dk_h tycL_law_10 48 (by decide +kernel)
theorem dL_law_1968 : decode cL_law 1968 = .ok (.iconst 3, 1) := dk_1006 (dk_g tcL_law_164 0 rfl)
theorem dL_law_1969 : decode cL_law 1969 = .ok (.iadd, 1) := dk_1096 (dk_g tcL_law_164 1 rfl)
theorem dL_law_1970 : decode cL_law 1970 = .ok (.iaload, 1) := dk_1046 (dk_g tcL_law_164 2 rfl)
theorem dL_law_1971 : decode cL_law 1971 = .ok (.aload_n 0, 1) := dk_1042 (dk_g tcL_law_164 3 rfl)
theorem dL_law_1972 : decode cL_law 1972 = .ok (.iload_n 3, 1) := dk_1029 (dk_g tcL_law_164 4 rfl)
theorem dL_law_1973 : decode cL_law 1973 = .ok (.iconst 4, 1) := dk_1007 (dk_g tcL_law_164 5 rfl)
theorem dL_law_1974 : decode cL_law 1974 = .ok (.iadd, 1) := dk_1096 (dk_g tcL_law_164 6 rfl)
theorem dL_law_1975 : decode cL_law 1975 = .ok (.iaload, 1) := dk_1046 (dk_g tcL_law_164 7 rfl)
theorem dL_law_1976 : decode cL_law 1976 = .ok (.invokevirtual 207, 3) := dk_1182 (dk_g tcL_law_164 8 rfl) (dk_g tcL_law_164 9 rfl) (dk_g tcL_law_164 10 rfl) rfl
theorem dL_law_1979 : decode cL_law 1979 = .ok (.pop, 1) := dk_1087 (dk_g tcL_law_164 11 rfl)
theorem tcL_law_165 : (cL_law.data.toList.drop 1980).take 12 = [44, 42, 29, 4, 96, 46, 42, 29, 5, 96, 46, 42] := dk_h tycL_law_10 60 (by decide +kernel)
theorem dL_law_1980 : decode cL_law 1980 = .ok (.aload_n 2, 1) := dk_1044 (dk_g tcL_law_165 0 rfl)
theorem dL_law_1981 : decode cL_law 1981 = .ok (.aload_n 0, 1) := dk_1042 (dk_g tcL_law_165 1 rfl)
theorem dL_law_1982 : decode cL_law 1982 = .ok (.iload_n 3, 1) := dk_1029 (dk_g tcL_law_165 2 rfl)
theorem dL_law_1983 : decode cL_law 1983 = .ok (.iconst 1, 1) := dk_1004 (dk_g tcL_law_165 3 rfl)
theorem dL_law_1984 : decode cL_law 1984 = .ok (.iadd, 1) := dk_1096 (dk_g tcL_law_165 4 rfl)
theorem dL_law_1985 : decode cL_law 1985 = .ok (.iaload, 1) := dk_1046 (dk_g tcL_law_165 5 rfl)
theorem dL_law_1986 : decode cL_law 1986 = .ok (.aload_n 0, 1) := dk_1042 (dk_g tcL_law_165 6 rfl)
theorem dL_law_1987 : decode cL_law 1987 = .ok (.iload_n 3, 1) := dk_1029 (dk_g tcL_law_165 7 rfl)
theorem dL_law_1988 : decode cL_law 1988 = .ok (.iconst 2, 1) := dk_1005 (dk_g tcL_law_165 8 rfl)
theorem dL_law_1989 : decode cL_law 1989 = .ok (.iadd, 1) := dk_1096 (dk_g tcL_law_165 9 rfl)
theorem dL_law_1990 : decode cL_law 1990 = .ok (.iaload, 1) := dk_1046 (dk_g tcL_law_165 10 rfl)
theorem dL_law_1991 : decode cL_law 1991 = .ok (.aload_n 0, 1) := dk_1042 (dk_g tcL_law_165 11 rfl)
theorem tcL_law_166 : (cL_law.data.toList.drop 1992).take 12 = [29, 6, 96, 46, 42, 29, 7, 96, 46, 182, 0, 210] := dk_h tycL_law_10 72 (by decide +kernel)
theorem dL_law_1992 : decode cL_law 1992 = .ok (.iload_n 3, 1) := dk_1029 (dk_g tcL_law_166 0 rfl)
theorem dL_law_1993 : decode cL_law 1993 = .ok (.iconst 3, 1) := dk_1006 (dk_g tcL_law_166 1 rfl)
theorem dL_law_1994 : decode cL_law 1994 = .ok (.iadd, 1) := dk_1096 (dk_g tcL_law_166 2 rfl)
theorem dL_law_1995 : decode cL_law 1995 = .ok (.iaload, 1) := dk_1046 (dk_g tcL_law_166 3 rfl)
theorem dL_law_1996 : decode cL_law 1996 = .ok (.aload_n 0, 1) := dk_1042 (dk_g tcL_law_166 4 rfl)
theorem dL_law_1997 : decode cL_law 1997 = .ok (.iload_n 3, 1) := dk_1029 (dk_g tcL_law_166 5 rfl)
theorem dL_law_1998 : decode cL_law 1998 = .ok (.iconst 4, 1) := dk_1007 (dk_g tcL_law_166 6 rfl)
theorem dL_law_1999 : decode cL_law 1999 = .ok (.iadd, 1) := dk_1096 (dk_g tcL_law_166 7 rfl)
theorem dL_law_2000 : decode cL_law 2000 = .ok (.iaload, 1) := dk_1046 (dk_g tcL_law_166 8 rfl)
theorem dL_law_2001 : decode cL_law 2001 = .ok (.invokevirtual 210, 3) := dk_1182 (dk_g tcL_law_166 9 rfl) (dk_g tcL_law_166 10 rfl) (dk_g tcL_law_166 11 rfl) rfl
theorem tcL_law_167 : (cL_law.data.toList.drop 2004).take 12 = [87, 167, 1, 130, 43, 42, 29, 4, 96, 46, 42, 29] := dk_h tycL_law_10 84 (by decide +kernel)
theorem dL_law_2004 : decode cL_law 2004 = .ok (.pop, 1) := dk_1087 (dk_g tcL_law_167 0 rfl)
theorem dL_law_2005 : decode cL_law 2005 = .ok (.goto 386, 3) := dk_2167 (dk_g tcL_law_167 1 rfl) (dk_g tcL_law_167 2 rfl) (dk_g tcL_law_167 3 rfl) rfl rfl
theorem dL_law_2008 : decode cL_law 2008 = .ok (.aload_n 1, 1) := dk_1043 (dk_g tcL_law_167 4 rfl)
theorem dL_law_2009 : decode cL_law 2009 = .ok (.aload_n 0, 1) := dk_1042 (dk_g tcL_law_167 5 rfl)
theorem dL_law_2010 : decode cL_law 2010 = .ok (.iload_n 3, 1) := dk_1029 (dk_g tcL_law_167 6 rfl)
theorem dL_law_2011 : decode cL_law 2011 = .ok (.iconst 1, 1) := dk_1004 (dk_g tcL_law_167 7 rfl)
theorem dL_law_2012 : decode cL_law 2012 = .ok (.iadd, 1) := dk_1096 (dk_g tcL_law_167 8 rfl)
theorem dL_law_2013 : decode cL_law 2013 = .ok (.iaload, 1) := dk_1046 (dk_g tcL_law_167 9 rfl)
theorem dL_law_2014 : decode cL_law 2014 = .ok (.aload_n 0, 1) := dk_1042 (dk_g tcL_law_167 10 rfl)
theorem dL_law_2015 : decode cL_law 2015 = .ok (.iload_n 3, 1) := dk_1029 (dk_g tcL_law_167 11 rfl)
theorem tcL_law_168 : (cL_law.data.toList.drop 2016).take 12 = [5, 96, 46, 42, 29, 6, 96, 46, 42, 29, 7, 96] := dk_h tycL_law_10 96 (by decide +kernel)
theorem dL_law_2016 : decode cL_law 2016 = .ok (.iconst 2, 1) := dk_1005 (dk_g tcL_law_168 0 rfl)
theorem dL_law_2017 : decode cL_law 2017 = .ok (.iadd, 1) := dk_1096 (dk_g tcL_law_168 1 rfl)
theorem dL_law_2018 : decode cL_law 2018 = .ok (.iaload, 1) := dk_1046 (dk_g tcL_law_168 2 rfl)
theorem dL_law_2019 : decode cL_law 2019 = .ok (.aload_n 0, 1) := dk_1042 (dk_g tcL_law_168 3 rfl)
theorem dL_law_2020 : decode cL_law 2020 = .ok (.iload_n 3, 1) := dk_1029 (dk_g tcL_law_168 4 rfl)
theorem dL_law_2021 : decode cL_law 2021 = .ok (.iconst 3, 1) := dk_1006 (dk_g tcL_law_168 5 rfl)
theorem dL_law_2022 : decode cL_law 2022 = .ok (.iadd, 1) := dk_1096 (dk_g tcL_law_168 6 rfl)
theorem dL_law_2023 : decode cL_law 2023 = .ok (.iaload, 1) := dk_1046 (dk_g tcL_law_168 7 rfl)
theorem dL_law_2024 : decode cL_law 2024 = .ok (.aload_n 0, 1) := dk_1042 (dk_g tcL_law_168 8 rfl)
theorem dL_law_2025 : decode cL_law 2025 = .ok (.iload_n 3, 1) := dk_1029 (dk_g tcL_law_168 9 rfl)
theorem dL_law_2026 : decode cL_law 2026 = .ok (.iconst 4, 1) := dk_1007 (dk_g tcL_law_168 10 rfl)
theorem dL_law_2027 : decode cL_law 2027 = .ok (.iadd, 1) := dk_1096 (dk_g tcL_law_168 11 rfl)
theorem tcL_law_169 : (cL_law.data.toList.drop 2028).take 12 = [46, 182, 0, 211, 87, 44, 42, 29, 4, 96, 46, 42] := dk_h tycL_law_10 108 (by decide +kernel)
theorem dL_law_2028 : decode cL_law 2028 = .ok (.iaload, 1) := dk_1046 (dk_g tcL_law_169 0 rfl)
theorem dL_law_2029 : decode cL_law 2029 = .ok (.invokevirtual 211, 3) := dk_1182 (dk_g tcL_law_169 1 rfl) (dk_g tcL_law_169 2 rfl) (dk_g tcL_law_169 3 rfl) rfl
theorem dL_law_2032 : decode cL_law 2032 = .ok (.pop, 1) := dk_1087 (dk_g tcL_law_169 4 rfl)
theorem dL_law_2033 : decode cL_law 2033 = .ok (.aload_n 2, 1) := dk_1044 (dk_g tcL_law_169 5 rfl)
theorem dL_law_2034 : decode cL_law 2034 = .ok (.aload_n 0, 1) := dk_1042 (dk_g tcL_law_169 6 rfl)
theorem dL_law_2035 : decode cL_law 2035 = .ok (.iload_n 3, 1) := dk_1029 (dk_g tcL_law_169 7 rfl)
theorem dL_law_2036 : decode cL_law 2036 = .ok (.iconst 1, 1) := dk_1004 (dk_g tcL_law_169 8 rfl)
theorem dL_law_2037 : decode cL_law 2037 = .ok (.iadd, 1) := dk_1096 (dk_g tcL_law_169 9 rfl)
theorem dL_law_2038 : decode cL_law 2038 = .ok (.iaload, 1) := dk_1046 (dk_g tcL_law_169 10 rfl)
theorem dL_law_2039 : decode cL_law 2039 = .ok (.aload_n 0, 1) := dk_1042 (dk_g tcL_law_169 11 rfl)
theorem tcL_law_170 : (cL_law.data.toList.drop 2040).take 12 = [29, 5, 96, 46, 42, 29, 6, 96, 46, 42, 29, 7] := dk_h tycL_law_10 120 (by decide +kernel)
theorem dL_law_2040 : decode cL_law 2040 = .ok (.iload_n 3, 1) := dk_1029 (dk_g tcL_law_170 0 rfl)
theorem dL_law_2041 : decode cL_law 2041 = .ok (.iconst 2, 1) := dk_1005 (dk_g tcL_law_170 1 rfl)
theorem dL_law_2042 : decode cL_law 2042 = .ok (.iadd, 1) := dk_1096 (dk_g tcL_law_170 2 rfl)
theorem dL_law_2043 : decode cL_law 2043 = .ok (.iaload, 1) := dk_1046 (dk_g tcL_law_170 3 rfl)
theorem dL_law_2044 : decode cL_law 2044 = .ok (.aload_n 0, 1) := dk_1042 (dk_g tcL_law_170 4 rfl)
theorem dL_law_2045 : decode cL_law 2045 = .ok (.iload_n 3, 1) := dk_1029 (dk_g tcL_law_170 5 rfl)
theorem dL_law_2046 : decode cL_law 2046 = .ok (.iconst 3, 1) := dk_1006 (dk_g tcL_law_170 6 rfl)
theorem dL_law_2047 : decode cL_law 2047 = .ok (.iadd, 1) := dk_1096 (dk_g tcL_law_170 7 rfl)
theorem dL_law_2048 : decode cL_law 2048 = .ok (.iaload, 1) := dk_1046 (dk_g tcL_law_170 8 rfl)
theorem dL_law_2049 : decode cL_law 2049 = .ok (.aload_n 0, 1) := dk_1042 (dk_g tcL_law_170 9 rfl)
theorem dL_law_2050 : decode cL_law 2050 = .ok (.iload_n 3, 1) := dk_1029 (dk_g tcL_law_170 10 rfl)
theorem dL_law_2051 : decode cL_law 2051 = .ok (.iconst 4, 1) := dk_1007 (dk_g tcL_law_170 11 rfl)
theorem tcL_law_171 : (cL_law.data.toList.drop 2052).take 12 = [96, 46, 182, 0, 214, 87, 167, 1, 77, 43, 42, 29] := dk_h tycL_law_10 132 (by decide +kernel)
theorem dL_law_2052 : decode cL_law 2052 = .ok (.iadd, 1) := dk_1096 (dk_g tcL_law_171 0 rfl)
theorem dL_law_2053 : decode cL_law 2053 = .ok (.iaload, 1) := dk_1046 (dk_g tcL_law_171 1 rfl)
theorem dL_law_2054 : decode cL_law 2054 = .ok (.invokevirtual 214, 3) := dk_1182 (dk_g tcL_law_171 2 rfl) (dk_g tcL_law_171 3 rfl) (dk_g tcL_law_171 4 rfl) rfl
theorem dL_law_2057 : decode cL_law 2057 = .ok (.pop, 1) := dk_1087 (dk_g tcL_law_171 5 rfl)
theorem dL_law_2058 : decode cL_law 2058 = .ok (.goto 333, 3) := dk_2167 (dk_g tcL_law_171 6 rfl) (dk_g tcL_law_171 7 rfl) (dk_g tcL_law_171 8 rfl) rfl rfl
theorem dL_law_2061 : decode cL_law 2061 = .ok (.aload_n 1, 1) := dk_1043 (dk_g tcL_law_171 9 rfl)
theorem dL_law_2062 : decode cL_law 2062 = .ok (.aload_n 0, 1) := dk_1042 (dk_g tcL_law_171 10 rfl)
theorem dL_law_2063 : decode cL_law 2063 = .ok (.iload_n 3, 1) := dk_1029 (dk_g tcL_law_171 11 rfl)
theorem tcL_law_172 : (cL_law.data.toList.drop 2064).take 12 = [4, 96, 46, 42, 29, 5, 96, 46, 42, 29, 6, 96] := dk_h tycL_law_10 144 (by decide +kernel)
theorem dL_law_2064 : decode cL_law 2064 = .ok (.iconst 1, 1) := dk_1004 (dk_g tcL_law_172 0 rfl)
theorem dL_law_2065 : decode cL_law 2065 = .ok (.iadd, 1) := dk_1096 (dk_g tcL_law_172 1 rfl)
theorem dL_law_2066 : decode cL_law 2066 = .ok (.iaload, 1) := dk_1046 (dk_g tcL_law_172 2 rfl)
theorem dL_law_2067 : decode cL_law 2067 = .ok (.aload_n 0, 1) := dk_1042 (dk_g tcL_law_172 3 rfl)
theorem dL_law_2068 : decode cL_law 2068 = .ok (.iload_n 3, 1) := dk_1029 (dk_g tcL_law_172 4 rfl)
theorem dL_law_2069 : decode cL_law 2069 = .ok (.iconst 2, 1) := dk_1005 (dk_g tcL_law_172 5 rfl)
theorem dL_law_2070 : decode cL_law 2070 = .ok (.iadd, 1) := dk_1096 (dk_g tcL_law_172 6 rfl)
theorem dL_law_2071 : decode cL_law 2071 = .ok (.iaload, 1) := dk_1046 (dk_g tcL_law_172 7 rfl)
theorem dL_law_2072 : decode cL_law 2072 = .ok (.aload_n 0, 1) := dk_1042 (dk_g tcL_law_172 8 rfl)
theorem dL_law_2073 : decode cL_law 2073 = .ok (.iload_n 3, 1) := dk_1029 (dk_g tcL_law_172 9 rfl)
theorem dL_law_2074 : decode cL_law 2074 = .ok (.iconst 3, 1) := dk_1006 (dk_g tcL_law_172 10 rfl)
theorem dL_law_2075 : decode cL_law 2075 = .ok (.iadd, 1) := dk_1096 (dk_g tcL_law_172 11 rfl)
theorem tcL_law_173 : (cL_law.data.toList.drop 2076).take 12 = [46, 182, 0, 215, 87, 44, 42, 29, 4, 96, 46, 42] := dk_h tycL_law_10 156 (by decide +kernel)
theorem dL_law_2076 : decode cL_law 2076 = .ok (.iaload, 1) := dk_1046 (dk_g tcL_law_173 0 rfl)
theorem dL_law_2077 : decode cL_law 2077 = .ok (.invokevirtual 215, 3) := dk_1182 (dk_g tcL_law_173 1 rfl) (dk_g tcL_law_173 2 rfl) (dk_g tcL_law_173 3 rfl) rfl
theorem dL_law_2080 : decode cL_law 2080 = .ok (.pop, 1) := dk_1087 (dk_g tcL_law_173 4 rfl)
theorem dL_law_2081 : decode cL_law 2081 = .ok (.aload_n 2, 1) := dk_1044 (dk_g tcL_law_173 5 rfl)
theorem dL_law_2082 : decode cL_law 2082 = .ok (.aload_n 0, 1) := dk_1042 (dk_g tcL_law_173 6 rfl)
theorem dL_law_2083 : decode cL_law 2083 = .ok (.iload_n 3, 1) := dk_1029 (dk_g tcL_law_173 7 rfl)
theorem dL_law_2084 : decode cL_law 2084 = .ok (.iconst 1, 1) := dk_1004 (dk_g tcL_law_173 8 rfl)
theorem dL_law_2085 : decode cL_law 2085 = .ok (.iadd, 1) := dk_1096 (dk_g tcL_law_173 9 rfl)
theorem dL_law_2086 : decode cL_law 2086 = .ok (.iaload, 1) := dk_1046 (dk_g tcL_law_173 10 rfl)
theorem dL_law_2087 : decode cL_law 2087 = .ok (.aload_n 0, 1) := dk_1042 (dk_g tcL_law_173 11 rfl)
theorem tcL_law_174 : (cL_law.data.toList.drop 2088).take 12 = [29, 5, 96, 46, 42, 29, 6, 96, 46, 182, 0, 218] := dk_h tycL_law_10 168 (by decide +kernel)
theorem dL_law_2088 : decode cL_law 2088 = .ok (.iload_n 3, 1) := dk_1029 (dk_g tcL_law_174 0 rfl)
theorem dL_law_2089 : decode cL_law 2089 = .ok (.iconst 2, 1) := dk_1005 (dk_g tcL_law_174 1 rfl)
theorem dL_law_2090 : decode cL_law 2090 = .ok (.iadd, 1) := dk_1096 (dk_g tcL_law_174 2 rfl)
theorem dL_law_2091 : decode cL_law 2091 = .ok (.iaload, 1) := dk_1046 (dk_g tcL_law_174 3 rfl)
theorem dL_law_2092 : decode cL_law 2092 = .ok (.aload_n 0, 1) := dk_1042 (dk_g tcL_law_174 4 rfl)
theorem dL_law_2093 : decode cL_law 2093 = .ok (.iload_n 3, 1) := dk_1029 (dk_g tcL_law_174 5 rfl)
theorem dL_law_2094 : decode cL_law 2094 = .ok (.iconst 3, 1) := dk_1006 (dk_g tcL_law_174 6 rfl)
theorem dL_law_2095 : decode cL_law 2095 = .ok (.iadd, 1) := dk_1096 (dk_g tcL_law_174 7 rfl)
theorem dL_law_2096 : decode cL_law 2096 = .ok (.iaload, 1) := dk_1046 (dk_g tcL_law_174 8 rfl)
theorem dL_law_2097 : decode cL_law 2097 = .ok (.invokevirtual 218, 3) := dk_1182 (dk_g tcL_law_174 9 rfl) (dk_g tcL_law_174 10 rfl) (dk_g tcL_law_174 11 rfl) rfl
theorem tcL_law_175 : (cL_law.data.toList.drop 2100).take 12 = [87, 167, 1, 34, 43, 42, 29, 4, 96, 46, 182, 0] := dk_h tycL_law_10 180 (by decide +kernel)
theorem dL_law_2100 : decode cL_law 2100 = .ok (.pop, 1) := dk_1087 (dk_g tcL_law_175 0 rfl)
theorem dL_law_2101 : decode cL_law 2101 = .ok (.goto 290, 3) := dk_2167 (dk_g tcL_law_175 1 rfl) (dk_g tcL_law_175 2 rfl) (dk_g tcL_law_175 3 rfl) rfl rfl
theorem dL_law_2104 : decode cL_law 2104 = .ok (.aload_n 1, 1) := dk_1043 (dk_g tcL_law_175 4 rfl)
theorem dL_law_2105 : decode cL_law 2105 = .ok (.aload_n 0, 1) := dk_1042 (dk_g tcL_law_175 5 rfl)
theorem dL_law_2106 : decode cL_law 2106 = .ok (.iload_n 3, 1) := dk_1029 (dk_g tcL_law_175 6 rfl)
theorem dL_law_2107 : decode cL_law 2107 = .ok (.iconst 1, 1) := dk_1004 (dk_g tcL_law_175 7 rfl)
theorem dL_law_2108 : decode cL_law 2108 = .ok (.iadd, 1) := dk_1096 (dk_g tcL_law_175 8 rfl)
theorem dL_law_2109 : decode cL_law 2109 = .ok (.iaload, 1) := dk_1046 (dk_g tcL_law_175 9 rfl)
set_option maxRecDepth 100000 in
noncomputable def tzcL_law_11 : { l : List UInt8 // List.drop 192 (tzcL_law_10.1) = l } := by
  constructor
  conv => lhs; whnf
theorem tycL_law_11 : cL_law.data.toList.drop 2112 = tzcL_law_11.1 := dk_z tycL_law_10 tzcL_law_11.2
theorem tcL_law_176 : (cL_law.data.toList.drop 2112).take 12 = [219, 87, 44, 42, 29, 4, 96, 46, 182, 0, 222, 87] := dk_h tycL_law_11 0 (by decide +kernel)
theorem dL_law_2110 : decode cL_law 2110 = .ok (.invokevirtual 219, 3) := dk_1182 (dk_g tcL_law_175 10 rfl) (dk_g tcL_law_175 11 rfl) (dk_g tcL_law_176 0 rfl) rfl
theorem dL_law_2113 : decode cL_law 2113 = .ok (.pop, 1) := dk_1087 (dk_g tcL_law_176 1 rfl)
theorem dL_law_2114 : decode cL_law 2114 = .ok (.aload_n 2, 1) := dk_1044 (dk_g tcL_law_176 2 rfl)
theorem dL_law_2115 : decode cL_law 2115 = .ok (.aload_n 0, 1) := dk_1042 (dk_g tcL_law_176 3 rfl)
theorem dL_law_2116 : decode cL_law 2116 = .ok (.iload_n 3, 1) := dk_1029 (dk_g tcL_law_176 4 rfl)
theorem dL_law_2117 : decode cL_law 2117 = .ok (.iconst 1, 1) := dk_1004 (dk_g tcL_law_176 5 rfl)
theorem dL_law_2118 : decode cL_law 2118 = .ok (.iadd, 1) := dk_1096 (dk_g tcL_law_176 6 rfl)
theorem dL_law_2119 : decode cL_law 2119 = .ok (.iaload, 1) := dk_1046 (dk_g tcL_law_176 7 rfl)
theorem dL_law_2120 : decode cL_law 2120 = .ok (.invokevirtual 222, 3) := dk_1182 (dk_g tcL_law_176 8 rfl) (dk_g tcL_law_176 9 rfl) (dk_g tcL_law_176 10 rfl) rfl
theorem dL_law_2123 : decode cL_law 2123 = .ok (.pop, 1) := dk_1087 (dk_g tcL_law_176 11 rfl)
theorem tcL_law_177 : (cL_law.data.toList.drop 2124).take 12 = [167, 1, 11, 43, 42, 29, 4, 96, 46, 42, 29, 5] := dk_h tycL_law_11 12 (by decide +kernel)
theorem dL_law_2124 : decode cL_law 2124 = .ok (.goto 267, 3) := dk_2167 (dk_g tcL_law_177 0 rfl) (dk_g tcL_law_177 1 rfl) (dk_g tcL_law_177 2 rfl) rfl rfl
theorem dL_law_2127 : decode cL_law 2127 = .ok (.aload_n 1, 1) := dk_1043 (dk_g tcL_law_177 3 rfl)
theorem dL_law_2128 : decode cL_law 2128 = .ok (.aload_n 0, 1) := dk_1042 (dk_g tcL_law_177 4 rfl)
theorem dL_law_2129 : decode cL_law 2129 = .ok (.iload_n 3, 1) := dk_1029 (dk_g tcL_law_177 5 rfl)
theorem dL_law_2130 : decode cL_law 2130 = .ok (.iconst 1, 1) := dk_1004 (dk_g tcL_law_177 6 rfl)
theorem dL_law_2131 : decode cL_law 2131 = .ok (.iadd, 1) := dk_1096 (dk_g tcL_law_177 7 rfl)
theorem dL_law_2132 : decode cL_law 2132 = .ok (.iaload, 1) := dk_1046 (dk_g tcL_law_177 8 rfl)
theorem dL_law_2133 : decode cL_law 2133 = .ok (.aload_n 0, 1) := dk_1042 (dk_g tcL_law_177 9 rfl)
theorem dL_law_2134 : decode cL_law 2134 = .ok (.iload_n 3, 1) := dk_1029 (dk_g tcL_law_177 10 rfl)
theorem dL_law_2135 : decode cL_law 2135 = .ok (.iconst 2, 1) := dk_1005 (dk_g tcL_law_177 11 rfl)
theorem tcL_law_178 : (cL_law.data.toList.drop 2136).take 12 = [96, 46, 182, 0, 223, 87, 44, 42, 29, 4, 96, 46] := dk_h tycL_law_11 24 (by decide +kernel)
theorem dL_law_2136 : decode cL_law 2136 = .ok (.iadd, 1) := dk_1096 (dk_g tcL_law_178 0 rfl)
theorem dL_law_2137 : decode cL_law 2137 = .ok (.iaload, 1) := dk_1046 (dk_g tcL_law_178 1 rfl)
theorem dL_law_2138 : decode cL_law 2138 = .ok (.invokevirtual 223, 3) := dk_1182 (dk_g tcL_law_178 2 rfl) (dk_g tcL_law_178 3 rfl) (dk_g tcL_law_178 4 rfl) rfl
theorem dL_law_2141 : decode cL_law 2141 = .ok (.pop, 1) := dk_1087 (dk_g tcL_law_178 5 rfl)
theorem dL_law_2142 : decode cL_law 2142 = .ok (.aload_n 2, 1) := dk_1044 (dk_g tcL_law_178 6 rfl)
theorem dL_law_2143 : decode cL_law 2143 = .ok (.aload_n 0, 1) := dk_1042 (dk_g tcL_law_178 7 rfl)
theorem dL_law_2144 : decode cL_law 2144 = .ok (.iload_n 3, 1) := dk_1029 (dk_g tcL_law_178 8 rfl)
theorem dL_law_2145 : decode cL_law 2145 = .ok (.iconst 1, 1) := dk_1004 (dk_g tcL_law_178 9 rfl)
theorem dL_law_2146 : decode cL_law 2146 = .ok (.iadd, 1) := dk_1096 (dk_g tcL_law_178 10 rfl)
theorem dL_law_2147 : decode cL_law 2147 = .ok (.iaload, 1) := dk_1046 (dk_g tcL_law_178 11 rfl)
theorem tcL_law_179 : (cL_law.data.toList.drop 2148).take 12 = [42, 29, 5, 96, 46, 182, 0, 226, 87, 167, 0, 234] := dk_h tycL_law_11 36 (by decide +kernel)
theorem dL_law_2148 : decode cL_law 2148 = .ok (.aload_n 0, 1) := dk_1042 (dk_g tcL_law_179 0 rfl)
theorem dL_law_2149 : decode cL_law 2149 = .ok (.iload_n 3, 1) := dk_1029 (dk_g tcL_law_179 1 rfl)
theorem dL_law_2150 : decode cL_law 2150 = .ok (.iconst 2, 1) := dk_1005 (dk_g tcL_law_179 2 rfl)
theorem dL_law_2151 : decode cL_law 2151 = .ok (.iadd, 1) := dk_1096 (dk_g tcL_law_179 3 rfl)
theorem dL_law_2152 : decode cL_law 2152 = .ok (.iaload, 1) := dk_1046 (dk_g tcL_law_179 4 rfl)
theorem dL_law_2153 : decode cL_law 2153 = .ok (.invokevirtual 226, 3) := dk_1182 (dk_g tcL_law_179 5 rfl) (dk_g tcL_law_179 6 rfl) (dk_g tcL_law_179 7 rfl) rfl
theorem dL_law_2156 : decode cL_law 2156 = .ok (.pop, 1) := dk_1087 (dk_g tcL_law_179 8 rfl)
theorem dL_law_2157 : decode cL_law 2157 = .ok (.goto 234, 3) := dk_2167 (dk_g tcL_law_179 9 rfl) (dk_g tcL_law_179 10 rfl) (dk_g tcL_law_179 11 rfl) rfl rfl
theorem tcL_law_180 : (cL_law.data.toList.drop 2160).take 12 = [43, 42, 29, 4, 96, 46, 182, 0, 227, 87, 44, 42] := dk_h tycL_law_11 48 (by decide +kernel)
theorem dL_law_2160 : decode cL_law 2160 = .ok (.aload_n 1, 1) := dk_1043 (dk_g tcL_law_180 0 rfl)
theorem dL_law_2161 : decode cL_law 2161 = .ok (.aload_n 0, 1) := dk_1042 (dk_g tcL_law_180 1 rfl)
theorem dL_law_2162 : decode cL_law 2162 = .ok (.iload_n 3, 1) := dk_1029 (dk_g tcL_law_180 2 rfl)
theorem dL_law_2163 : decode cL_law 2163 = .ok (.iconst 1, 1) := dk_1004 (dk_g tcL_law_180 3 rfl)
theorem dL_law_2164 : decode cL_law 2164 = .ok (.iadd, 1) := dk_1096 (dk_g tcL_law_180 4 rfl)
theorem dL_law_2165 : decode cL_law 2165 = .ok (.iaload, 1) := dk_1046 (dk_g tcL_law_180 5 rfl)
theorem dL_law_2166 : decode cL_law 2166 = .ok (.invokevirtual 227, 3) := dk_1182 (dk_g tcL_law_180 6 rfl) (dk_g tcL_law_180 7 rfl) (dk_g tcL_law_180 8 rfl) rfl
theorem dL_law_2169 : decode cL_law 2169 = .ok (.pop, 1) := dk_1087 (dk_g tcL_law_180 9 rfl)
theorem dL_law_2170 : decode cL_law 2170 = .ok (.aload_n 2, 1) := dk_1044 (dk_g tcL_law_180 10 rfl)
theorem dL_law_2171 : decode cL_law 2171 = .ok (.aload_n 0, 1) := dk_1042 (dk_g tcL_law_180 11 rfl)
theorem tcL_law_181 : (cL_law.data.toList.drop 2172).take 12 = [29, 4, 96, 46, 182, 0, 230, 87, 167, 0, 211, 43] := dk_h tycL_law_11 60 (by decide +kernel)
theorem dL_law_2172 : decode cL_law 2172 = .ok (.iload_n 3, 1) := dk_1029 (dk_g tcL_law_181 0 rfl)
theorem dL_law_2173 : decode cL_law 2173 = .ok (.iconst 1, 1) := dk_1004 (dk_g tcL_law_181 1 rfl)
theorem dL_law_2174 : decode cL_law 2174 = .ok (.iadd, 1) := dk_1096 (dk_g tcL_law_181 2 rfl)
theorem dL_law_2175 : decode cL_law 2175 = .ok (.iaload, 1) := dk_1046 (dk_g tcL_law_181 3 rfl)
theorem dL_law_2176 : decode cL_law 2176 = .ok (.invokevirtual 230, 3) := dk_1182 (dk_g tcL_law_181 4 rfl) (dk_g tcL_law_181 5 rfl) (dk_g tcL_law_181 6 rfl) rfl
theorem dL_law_2179 : decode cL_law 2179 = .ok (.pop, 1) := dk_1087 (dk_g tcL_law_181 7 rfl)
theorem dL_law_2180 : decode cL_law 2180 = .ok (.goto 211, 3) := dk_2167 (dk_g tcL_law_181 8 rfl) (dk_g tcL_law_181 9 rfl) (dk_g tcL_law_181 10 rfl) rfl rfl
theorem dL_law_2183 : decode cL_law 2183 = .ok (.aload_n 1, 1) := dk_1043 (dk_g tcL_law_181 11 rfl)
theorem tcL_law_182 : (cL_law.data.toList.drop 2184).take 12 = [42, 29, 4, 96, 46, 42, 29, 5, 96, 46, 42, 29] := dk_h tycL_law_11 72 (by decide +kernel)
theorem dL_law_2184 : decode cL_law 2184 = .ok (.aload_n 0, 1) := dk_1042 (dk_g tcL_law_182 0 rfl)
theorem dL_law_2185 : decode cL_law 2185 = .ok (.iload_n 3, 1) := dk_1029 (dk_g tcL_law_182 1 rfl)
theorem dL_law_2186 : decode cL_law 2186 = .ok (.iconst 1, 1) := dk_1004 (dk_g tcL_law_182 2 rfl)
theorem dL_law_2187 : decode cL_law 2187 = .ok (.iadd, 1) := dk_1096 (dk_g tcL_law_182 3 rfl)
theorem dL_law_2188 : decode cL_law 2188 = .ok (.iaload, 1) := dk_1046 (dk_g tcL_law_182 4 rfl)
theorem dL_law_2189 : decode cL_law 2189 = .ok (.aload_n 0, 1) := dk_1042 (dk_g tcL_law_182 5 rfl)
theorem dL_law_2190 : decode cL_law 2190 = .ok (.iload_n 3, 1) := dk_1029 (dk_g tcL_law_182 6 rfl)
theorem dL_law_2191 : decode cL_law 2191 = .ok (.iconst 2, 1) := dk_1005 (dk_g tcL_law_182 7 rfl)
theorem dL_law_2192 : decode cL_law 2192 = .ok (.iadd, 1) := dk_1096 (dk_g tcL_law_182 8 rfl)
theorem dL_law_2193 : decode cL_law 2193 = .ok (.iaload, 1) := dk_1046 (dk_g tcL_law_182 9 rfl)
theorem dL_law_2194 : decode cL_law 2194 = .ok (.aload_n 0, 1) := dk_1042 (dk_g tcL_law_182 10 rfl)
theorem dL_law_2195 : decode cL_law 2195 = .ok (.iload_n 3, 1) := dk_1029 (dk_g tcL_law_182 11 rfl)
theorem tcL_law_183 : (cL_law.data.toList.drop 2196).take 12 = [6, 96, 46, 182, 0, 231, 87, 44, 42, 29, 4, 96] := dk_h tycL_law_11 84 (by decide +kernel)
theorem dL_law_2196 : decode cL_law 2196 = .ok (.iconst 3, 1) := dk_1006 (dk_g tcL_law_183 0 rfl)
theorem dL_law_2197 : decode cL_law 2197 = .ok (.iadd, 1) := dk_1096 (dk_g tcL_law_183 1 rfl)
theorem dL_law_2198 : decode cL_law 2198 = .ok (.iaload, 1) := dk_1046 (dk_g tcL_law_183 2 rfl)
theorem dL_law_2199 : decode cL_law 2199 = .ok (.invokevirtual 231, 3) := dk_1182 (dk_g tcL_law_183 3 rfl) (dk_g tcL_law_183 4 rfl) (dk_g tcL_law_183 5 rfl) rfl
theorem dL_law_2202 : decode cL_law 2202 = .ok (.pop, 1) := dk_1087 (dk_g tcL_law_183 6 rfl)
theorem dL_law_2203 : decode cL_law 2203 = .ok (.aload_n 2, 1) := dk_1044 (dk_g tcL_law_183 7 rfl)
theorem dL_law_2204 : decode cL_law 2204 = .ok (.aload_n 0, 1) := dk_1042 (dk_g tcL_law_183 8 rfl)
theorem dL_law_2205 : decode cL_law 2205 = .ok (.iload_n 3, 1) := dk_1029 (dk_g tcL_law_183 9 rfl)
theorem dL_law_2206 : decode cL_law 2206 = .ok (.iconst 1, 1) := dk_1004 (dk_g tcL_law_183 10 rfl)
theorem dL_law_2207 : decode cL_law 2207 = .ok (.iadd, 1) := dk_1096 (dk_g tcL_law_183 11 rfl)
theorem tcL_law_184 : (cL_law.data.toList.drop 2208).take 12 = [46, 42, 29, 5, 96, 46, 42, 29, 6, 96, 46, 182] := dk_h tycL_law_11 96 (by decide +kernel)
theorem dL_law_2208 : decode cL_law 2208 = .ok (.iaload, 1) := dk_1046 (dk_g tcL_law_184 0 rfl)
theorem dL_law_2209 : decode cL_law 2209 = .ok (.aload_n 0, 1) := dk_1042 (dk_g tcL_law_184 1 rfl)
theorem dL_law_2210 : decode cL_law 2210 = .ok (.iload_n 3, 1) := dk_1029 (dk_g tcL_law_184 2 rfl)
theorem dL_law_2211 : decode cL_law 2211 = .ok (.iconst 2, 1) := dk_1005 (dk_g tcL_law_184 3 rfl)
theorem dL_law_2212 : decode cL_law 2212 = .ok (.iadd, 1) := dk_1096 (dk_g tcL_law_184 4 rfl)
theorem dL_law_2213 : decode cL_law 2213 = .ok (.iaload, 1) := dk_1046 (dk_g tcL_law_184 5 rfl)
theorem dL_law_2214 : decode cL_law 2214 = .ok (.aload_n 0, 1) := dk_1042 (dk_g tcL_law_184 6 rfl)
theorem dL_law_2215 : decode cL_law 2215 = .ok (.iload_n 3, 1) := dk_1029 (dk_g tcL_law_184 7 rfl)
theorem dL_law_2216 : decode cL_law 2216 = .ok (.iconst 3, 1) := dk_1006 (dk_g tcL_law_184 8 rfl)
theorem dL_law_2217 : decode cL_law 2217 = .ok (.iadd, 1) := dk_1096 (dk_g tcL_law_184 9 rfl)
theorem dL_law_2218 : decode cL_law 2218 = .ok (.iaload, 1) := dk_1046 (dk_g tcL_law_184 10 rfl)
theorem tcL_law_185 : (cL_law.data.toList.drop 2220).take 12 = [0, 234, 87, 167, 0, 168, 43, 42, 29, 4, 96, 46] := dk_h tycL_law_11 108 (by decide +kernel)
theorem dL_law_2219 : decode cL_law 2219 = .ok (.invokevirtual 234, 3) := dk_1182 (dk_g tcL_law_184 11 rfl) (dk_g tcL_law_185 0 rfl) (dk_g tcL_law_185 1 rfl) rfl
theorem dL_law_2222 : decode cL_law 2222 = .ok (.pop, 1) := dk_1087 (dk_g tcL_law_185 2 rfl)
theorem dL_law_2223 : decode cL_law 2223 = .ok (.goto 168, 3) := dk_2167 (dk_g tcL_law_185 3 rfl) (dk_g tcL_law_185 4 rfl) (dk_g tcL_law_185 5 rfl) rfl rfl
theorem dL_law_2226 : decode cL_law 2226 = .ok (.aload_n 1, 1) := dk_1043 (dk_g tcL_law_185 6 rfl)
theorem dL_law_2227 : decode cL_law 2227 = .ok (.aload_n 0, 1) := dk_1042 (dk_g tcL_law_185 7 rfl)
theorem dL_law_2228 : decode cL_law 2228 = .ok (.iload_n 3, 1) := dk_1029 (dk_g tcL_law_185 8 rfl)
theorem dL_law_2229 : decode cL_law 2229 = .ok (.iconst 1, 1) := dk_1004 (dk_g tcL_law_185 9 rfl)
theorem dL_law_2230 : decode cL_law 2230 = .ok (.iadd, 1) := dk_1096 (dk_g tcL_law_185 10 rfl)
theorem dL_law_2231 : decode cL_law 2231 = .ok (.iaload, 1) := dk_1046 (dk_g tcL_law_185 11 rfl)
theorem tcL_law_186 : (cL_law.data.toList.drop 2232).take 12 = [42, 29, 5, 96, 46, 42, 29, 6, 96, 46, 182, 0] := dk_h tycL_law_11 120 (by decide +kernel)
theorem dL_law_2232 : decode cL_law 2232 = .ok (.aload_n 0, 1) := dk_1042 (dk_g tcL_law_186 0 rfl)
theorem dL_law_2233 : decode cL_law 2233 = .ok (.iload_n 3, 1) := dk_1029 (dk_g tcL_law_186 1 rfl)
theorem dL_law_2234 : decode cL_law 2234 = .ok (.iconst 2, 1) := dk_1005 (dk_g tcL_law_186 2 rfl)
theorem dL_law_2235 : decode cL_law 2235 = .ok (.iadd, 1) := dk_1096 (dk_g tcL_law_186 3 rfl)
theorem dL_law_2236 : decode cL_law 2236 = .ok (.iaload, 1) := dk_1046 (dk_g tcL_law_186 4 rfl)
theorem dL_law_2237 : decode cL_law 2237 = .ok (.aload_n 0, 1) := dk_1042 (dk_g tcL_law_186 5 rfl)
theorem dL_law_2238 : decode cL_law 2238 = .ok (.iload_n 3, 1) := dk_1029 (dk_g tcL_law_186 6 rfl)
theorem dL_law_2239 : decode cL_law 2239 = .ok (.iconst 3, 1) := dk_1006 (dk_g tcL_law_186 7 rfl)
theorem dL_law_2240 : decode cL_law 2240 = .ok (.iadd, 1) := dk_1096 (dk_g tcL_law_186 8 rfl)
theorem dL_law_2241 : decode cL_law 2241 = .ok (.iaload, 1) := dk_1046 (dk_g tcL_law_186 9 rfl)
theorem tcL_law_187 : (cL_law.data.toList.drop 2244).take 12 = [235, 87, 44, 42, 29, 4, 96, 46, 42, 29, 5, 96] := dk_h tycL_law_11 132 (by decide +kernel)
theorem dL_law_2242 : decode cL_law 2242 = .ok (.invokevirtual 235, 3) := dk_1182 (dk_g tcL_law_186 10 rfl) (dk_g tcL_law_186 11 rfl) (dk_g tcL_law_187 0 rfl) rfl
theorem dL_law_2245 : decode cL_law 2245 = .ok (.pop, 1) := dk_1087 (dk_g tcL_law_187 1 rfl)
theorem dL_law_2246 : decode cL_law 2246 = .ok (.aload_n 2, 1) := dk_1044 (dk_g tcL_law_187 2 rfl)
theorem dL_law_2247 : decode cL_law 2247 = .ok (.aload_n 0, 1) := dk_1042 (dk_g tcL_law_187 3 rfl)
theorem dL_law_2248 : decode cL_law 2248 = .ok (.iload_n 3, 1) := dk_1029 (dk_g tcL_law_187 4 rfl)
theorem dL_law_2249 : decode cL_law 2249 = .ok (.iconst 1, 1) := dk_1004 (dk_g tcL_law_187 5 rfl)
theorem dL_law_2250 : decode cL_law 2250 = .ok (.iadd, 1) := dk_1096 (dk_g tcL_law_187 6 rfl)
theorem dL_law_2251 : decode cL_law 2251 = .ok (.iaload, 1) := dk_1046 (dk_g tcL_law_187 7 rfl)
theorem dL_law_2252 : decode cL_law 2252 = .ok (.aload_n 0, 1) := dk_1042 (dk_g tcL_law_187 8 rfl)
theorem dL_law_2253 : decode cL_law 2253 = .ok (.iload_n 3, 1) := dk_1029 (dk_g tcL_law_187 9 rfl)
theorem dL_law_2254 : decode cL_law 2254 = .ok (.iconst 2, 1) := dk_1005 (dk_g tcL_law_187 10 rfl)
theorem dL_law_2255 : decode cL_law 2255 = .ok (.iadd, 1) := dk_1096 (dk_g tcL_law_187 11 rfl)
theorem tcL_law_188 : (cL_law.data.toList.drop 2256).take 12 = [46, 42, 29, 6, 96, 46, 182, 0, 238, 87, 167, 0] := dk_h tycL_law_11 144 (by decide +kernel)
theorem dL_law_2256 : decode cL_law 2256 = .ok (.iaload, 1) := dk_1046 (dk_g tcL_law_188 0 rfl)
theorem dL_law_2257 : decode cL_law 2257 = .ok (.aload_n 0, 1) := dk_1042 (dk_g tcL_law_188 1 rfl)
theorem dL_law_2258 : decode cL_law 2258 = .ok (.iload_n 3, 1) := dk_1029 (dk_g tcL_law_188 2 rfl)
theorem dL_law_2259 : decode cL_law 2259 = .ok (.iconst 3, 1) := dk_1006 (dk_g tcL_law_188 3 rfl)
theorem dL_law_2260 : decode cL_law 2260 = .ok (.iadd, 1) := dk_1096 (dk_g tcL_law_188 4 rfl)
theorem dL_law_2261 : decode cL_law 2261 = .ok (.iaload, 1) := dk_1046 (dk_g tcL_law_188 5 rfl)
theorem dL_law_2262 : decode cL_law 2262 = .ok (.invokevirtual 238, 3) := dk_1182 (dk_g tcL_law_188 6 rfl) (dk_g tcL_law_188 7 rfl) (dk_g tcL_law_188 8 rfl) rfl
theorem dL_law_2265 : decode cL_law 2265 = .ok (.pop, 1) := dk_1087 (dk_g tcL_law_188 9 rfl)
theorem tcL_law_189 : (cL_law.data.toList.drop 2268).take 12 = [125, 43, 42, 29, 4, 96, 46, 182, 0, 239, 87, 44] := dk_h tycL_law_11 156 (by decide +kernel)
theorem dL_law_2266 : decode cL_law 2266 = .ok (.goto 125, 3) := dk_2167 (dk_g tcL_law_188 10 rfl) (dk_g tcL_law_188 11 rfl) (dk_g tcL_law_189 0 rfl) rfl rfl
theorem dL_law_2269 : decode cL_law 2269 = .ok (.aload_n 1, 1) := dk_1043 (dk_g tcL_law_189 1 rfl)
theorem dL_law_2270 : decode cL_law 2270 = .ok (.aload_n 0, 1) := dk_1042 (dk_g tcL_law_189 2 rfl)
theorem dL_law_2271 : decode cL_law 2271 = .ok (.iload_n 3, 1) := dk_1029 (dk_g tcL_law_189 3 rfl)
theorem dL_law_2272 : decode cL_law 2272 = .ok (.iconst 1, 1) := dk_1004 (dk_g tcL_law_189 4 rfl)
theorem dL_law_2273 : decode cL_law 2273 = .ok (.iadd, 1) := dk_1096 (dk_g tcL_law_189 5 rfl)
theorem dL_law_2274 : decode cL_law 2274 = .ok (.iaload, 1) := dk_1046 (dk_g tcL_law_189 6 rfl)
theorem dL_law_2275 : decode cL_law 2275 = .ok (.invokevirtual 239, 3) := dk_1182 (dk_g tcL_law_189 7 rfl) (dk_g tcL_law_189 8 rfl) (dk_g tcL_law_189 9 rfl) rfl
theorem dL_law_2278 : decode cL_law 2278 = .ok (.pop, 1) := dk_1087 (dk_g tcL_law_189 10 rfl)
theorem dL_law_2279 : decode cL_law 2279 = .ok (.aload_n 2, 1) := dk_1044 (dk_g tcL_law_189 11 rfl)
theorem tcL_law_190 : (cL_law.data.toList.drop 2280).take 12 = [42, 29, 4, 96, 46, 182, 0, 242, 87, 167, 0, 102] := dk_h tycL_law_11 168 (by decide +kernel)
theorem dL_law_2280 : decode cL_law 2280 = .ok (.aload_n 0, 1) := dk_1042 (dk_g tcL_law_190 0 rfl)
theorem dL_law_2281 : decode cL_law 2281 = .ok (.iload_n 3, 1) := dk_1029 (dk_g tcL_law_190 1 rfl)
theorem dL_law_2282 : decode cL_law 2282 = .ok (.iconst 1, 1) := dk_1004 (dk_g tcL_law_190 2 rfl)
theorem dL_law_2283 : decode cL_law 2283 = .ok (.iadd, 1) := dk_1096 (dk_g tcL_law_190 3 rfl)
theorem dL_law_2284 : decode cL_law 2284 = .ok (.iaload, 1) := dk_1046 (dk_g tcL_law_190 4 rfl)
theorem dL_law_2285 : decode cL_law 2285 = .ok (.invokevirtual 242, 3) := dk_1182 (dk_g tcL_law_190 5 rfl) (dk_g tcL_law_190 6 rfl) (dk_g tcL_law_190 7 rfl) rfl
theorem dL_law_2288 : decode cL_law 2288 = .ok (.pop, 1) := dk_1087 (dk_g tcL_law_190 8 rfl)
theorem dL_law_2289 : decode cL_law 2289 = .ok (.goto 102, 3) := dk_2167 (dk_g tcL_law_190 9 rfl) (dk_g tcL_law_190 10 rfl) (dk_g tcL_law_190 11 rfl) rfl rfl
theorem tcL_law_191 : (cL_law.data.toList.drop 2292).take 12 = [43, 42, 29, 4, 96, 46, 42, 29, 5, 96, 46, 182] := dk_h tycL_law_11 180 (by decide +kernel)
theorem dL_law_2292 : decode cL_law 2292 = .ok (.aload_n 1, 1) := dk_1043 (dk_g tcL_law_191 0 rfl)
theorem dL_law_2293 : decode cL_law 2293 = .ok (.aload_n 0, 1) := dk_1042 (dk_g tcL_law_191 1 rfl)
theorem dL_law_2294 : decode cL_law 2294 = .ok (.iload_n 3, 1) := dk_1029 (dk_g tcL_law_191 2 rfl)
theorem dL_law_2295 : decode cL_law 2295 = .ok (.iconst 1, 1) := dk_1004 (dk_g tcL_law_191 3 rfl)
theorem dL_law_2296 : decode cL_law 2296 = .ok (.iadd, 1) := dk_1096 (dk_g tcL_law_191 4 rfl)
theorem dL_law_2297 : decode cL_law 2297 = .ok (.iaload, 1) := dk_1046 (dk_g tcL_law_191 5 rfl)
theorem dL_law_2298 : decode cL_law 2298 = .ok (.aload_n 0, 1) := dk_1042 (dk_g tcL_law_191 6 rfl)
theorem dL_law_2299 : decode cL_law 2299 = .ok (.iload_n 3, 1) := dk_1029 (dk_g tcL_law_191 7 rfl)
theorem dL_law_2300 : decode cL_law 2300 = .ok (.iconst 2, 1) := dk_1005 (dk_g tcL_law_191 8 rfl)
theorem dL_law_2301 : decode cL_law 2301 = .ok (.iadd, 1) := dk_1096 (dk_g tcL_law_191 9 rfl)
theorem dL_law_2302 : decode cL_law 2302 = .ok (.iaload, 1) := dk_1046 (dk_g tcL_law_191 10 rfl)
set_option maxRecDepth 100000 in
noncomputable def tzcL_law_12 : { l : List UInt8 // List.drop 192 (tzcL_law_11.1) = l } := by
  constructor
  conv => lhs; whnf
theorem tycL_law_12 : cL_law.data.toList.drop 2304 = tzcL_law_12.1 := dk_z tycL_law_11 tzcL_law_12.2
theorem tcL_law_192 : (cL_law.data.toList.drop 2304).take 12 = [0, 243, 87, 44, 42, 29, 4, 96, 46, 42, 29, 5] := dk_h tycL_law_12 0 (by decide +kernel)
theorem dL_law_2303 : decode cL_law 2303 = .ok (.invokevirtual 243, 3) := dk_1182 (dk_g tcL_law_191 11 rfl) (dk_g tcL_law_192 0 rfl) (dk_g tcL_law_192 1 rfl) rfl
theorem dL_law_2306 : decode cL_law 2306 = .ok (.pop, 1) := dk_1087 (dk_g tcL_law_192 2 rfl)
theorem dL_law_2307 : decode cL_law 2307 = .ok (.aload_n 2, 1) := dk_1044 (dk_g tcL_law_192 3 rfl)
theorem dL_law_2308 : decode cL_law 2308 = .ok (.aload_n 0, 1) := dk_1042 (dk_g tcL_law_192 4 rfl)
theorem dL_law_2309 : decode cL_law 2309 = .ok (.iload_n 3, 1) := dk_1029 (dk_g tcL_law_192 5 rfl)
theorem dL_law_2310 : decode cL_law 2310 = .ok (.iconst 1, 1) := dk_1004 (dk_g tcL_law_192 6 rfl)
theorem dL_law_2311 : decode cL_law 2311 = .ok (.iadd, 1) := dk_1096 (dk_g tcL_law_192 7 rfl)
theorem dL_law_2312 : decode cL_law 2312 = .ok (.iaload, 1) := dk_1046 (dk_g tcL_law_192 8 rfl)
theorem dL_law_2313 : decode cL_law 2313 = .ok (.aload_n 0, 1) := dk_1042 (dk_g tcL_law_192 9 rfl)
theorem dL_law_2314 : decode cL_law 2314 = .ok (.iload_n 3, 1) := dk_1029 (dk_g tcL_law_192 10 rfl)
theorem dL_law_2315 : decode cL_law 2315 = .ok (.iconst 2, 1) := dk_1005 (dk_g tcL_law_192 11 rfl)
theorem tcL_law_193 : (cL_law.data.toList.drop 2316).take 12 = [96, 46, 182, 0, 246, 87, 167, 0, 69, 43, 42, 29] := dk_h tycL_law_12 12 (by decide +kernel)
theorem dL_law_2316 : decode cL_law 2316 = .ok (.iadd, 1) := dk_1096 (dk_g tcL_law_193 0 rfl)
theorem dL_law_2317 : decode cL_law 2317 = .ok (.iaload, 1) := dk_1046 (dk_g tcL_law_193 1 rfl)
theorem dL_law_2318 : decode cL_law 2318 = .ok (.invokevirtual 246, 3) := dk_1182 (dk_g tcL_law_193 2 rfl) (dk_g tcL_law_193 3 rfl) (dk_g tcL_law_193 4 rfl) rfl
theorem dL_law_2321 : decode cL_law 2321 = .ok (.pop, 1) := dk_1087 (dk_g tcL_law_193 5 rfl)
theorem dL_law_2322 : decode cL_law 2322 = .ok (.goto 69, 3) := dk_2167 (dk_g tcL_law_193 6 rfl) (dk_g tcL_law_193 7 rfl) (dk_g tcL_law_193 8 rfl) rfl rfl
theorem dL_law_2325 : decode cL_law 2325 = .ok (.aload_n 1, 1) := dk_1043 (dk_g tcL_law_193 9 rfl)
theorem dL_law_2326 : decode cL_law 2326 = .ok (.aload_n 0, 1) := dk_1042 (dk_g tcL_law_193 10 rfl)
theorem dL_law_2327 : decode cL_law 2327 = .ok (.iload_n 3, 1) := dk_1029 (dk_g tcL_law_193 11 rfl)
theorem tcL_law_194 : (cL_law.data.toList.drop 2328).take 12 = [4, 96, 46, 42, 29, 5, 96, 46, 182, 0, 247, 87] := dk_h tycL_law_12 24 (by decide +kernel)
theorem dL_law_2328 : decode cL_law 2328 = .ok (.iconst 1, 1) := dk_1004 (dk_g tcL_law_194 0 rfl)
theorem dL_law_2329 : decode cL_law 2329 = .ok (.iadd, 1) := dk_1096 (dk_g tcL_law_194 1 rfl)
theorem dL_law_2330 : decode cL_law 2330 = .ok (.iaload, 1) := dk_1046 (dk_g tcL_law_194 2 rfl)
theorem dL_law_2331 : decode cL_law 2331 = .ok (.aload_n 0, 1) := dk_1042 (dk_g tcL_law_194 3 rfl)
theorem dL_law_2332 : decode cL_law 2332 = .ok (.iload_n 3, 1) := dk_1029 (dk_g tcL_law_194 4 rfl)
theorem dL_law_2333 : decode cL_law 2333 = .ok (.iconst 2, 1) := dk_1005 (dk_g tcL_law_194 5 rfl)
theorem dL_law_2334 : decode cL_law 2334 = .ok (.iadd, 1) := dk_1096 (dk_g tcL_law_194 6 rfl)
theorem dL_law_2335 : decode cL_law 2335 = .ok (.iaload, 1) := dk_1046 (dk_g tcL_law_194 7 rfl)
theorem dL_law_2336 : decode cL_law 2336 = .ok (.invokevirtual 247, 3) := dk_1182 (dk_g tcL_law_194 8 rfl) (dk_g tcL_law_194 9 rfl) (dk_g tcL_law_194 10 rfl) rfl
theorem dL_law_2339 : decode cL_law 2339 = .ok (.pop, 1) := dk_1087 (dk_g tcL_law_194 11 rfl)
theorem tcL_law_195 : (cL_law.data.toList.drop 2340).take 12 = [44, 42, 29, 4, 96, 46, 42, 29, 5, 96, 46, 182] := dk_h tycL_law_12 36 (by decide +kernel)
theorem dL_law_2340 : decode cL_law 2340 = .ok (.aload_n 2, 1) := dk_1044 (dk_g tcL_law_195 0 rfl)
theorem dL_law_2341 : decode cL_law 2341 = .ok (.aload_n 0, 1) := dk_1042 (dk_g tcL_law_195 1 rfl)
theorem dL_law_2342 : decode cL_law 2342 = .ok (.iload_n 3, 1) := dk_1029 (dk_g tcL_law_195 2 rfl)
theorem dL_law_2343 : decode cL_law 2343 = .ok (.iconst 1, 1) := dk_1004 (dk_g tcL_law_195 3 rfl)
theorem dL_law_2344 : decode cL_law 2344 = .ok (.iadd, 1) := dk_1096 (dk_g tcL_law_195 4 rfl)
theorem dL_law_2345 : decode cL_law 2345 = .ok (.iaload, 1) := dk_1046 (dk_g tcL_law_195 5 rfl)
theorem dL_law_2346 : decode cL_law 2346 = .ok (.aload_n 0, 1) := dk_1042 (dk_g tcL_law_195 6 rfl)
theorem dL_law_2347 : decode cL_law 2347 = .ok (.iload_n 3, 1) := dk_1029 (dk_g tcL_law_195 7 rfl)
theorem dL_law_2348 : decode cL_law 2348 = .ok (.iconst 2, 1) := dk_1005 (dk_g tcL_law_195 8 rfl)
theorem dL_law_2349 : decode cL_law 2349 = .ok (.iadd, 1) := dk_1096 (dk_g tcL_law_195 9 rfl)
theorem dL_law_2350 : decode cL_law 2350 = .ok (.iaload, 1) := dk_1046 (dk_g tcL_law_195 10 rfl)
theorem tcL_law_196 : (cL_law.data.toList.drop 2352).take 12 = [0, 250, 87, 167, 0, 36, 43, 42, 29, 4, 96, 46] := dk_h tycL_law_12 48 (by decide +kernel)
theorem dL_law_2351 : decode cL_law 2351 = .ok (.invokevirtual 250, 3) := dk_1182 (dk_g tcL_law_195 11 rfl) (dk_g tcL_law_196 0 rfl) (dk_g tcL_law_196 1 rfl) rfl
theorem dL_law_2354 : decode cL_law 2354 = .ok (.pop, 1) := dk_1087 (dk_g tcL_law_196 2 rfl)
theorem dL_law_2355 : decode cL_law 2355 = .ok (.goto 36, 3) := dk_2167 (dk_g tcL_law_196 3 rfl) (dk_g tcL_law_196 4 rfl) (dk_g tcL_law_196 5 rfl) rfl rfl
theorem dL_law_2358 : decode cL_law 2358 = .ok (.aload_n 1, 1) := dk_1043 (dk_g tcL_law_196 6 rfl)
theorem dL_law_2359 : decode cL_law 2359 = .ok (.aload_n 0, 1) := dk_1042 (dk_g tcL_law_196 7 rfl)
theorem dL_law_2360 : decode cL_law 2360 = .ok (.iload_n 3, 1) := dk_1029 (dk_g tcL_law_196 8 rfl)
theorem dL_law_2361 : decode cL_law 2361 = .ok (.iconst 1, 1) := dk_1004 (dk_g tcL_law_196 9 rfl)
theorem dL_law_2362 : decode cL_law 2362 = .ok (.iadd, 1) := dk_1096 (dk_g tcL_law_196 10 rfl)
theorem dL_law_2363 : decode cL_law 2363 = .ok (.iaload, 1) := dk_1046 (dk_g tcL_law_196 11 rfl)
theorem tcL_law_197 : (cL_law.data.toList.drop 2364).take 12 = [42, 29, 5, 96, 46, 182, 0, 251, 87, 44, 42, 29] := dk_h tycL_law_12 60 (by decide +kernel)
theorem dL_law_2364 : decode cL_law 2364 = .ok (.aload_n 0, 1) := dk_1042 (dk_g tcL_law_197 0 rfl)
theorem dL_law_2365 : decode cL_law 2365 = .ok (.iload_n 3, 1) := dk_1029 (dk_g tcL_law_197 1 rfl)
theorem dL_law_2366 : decode cL_law 2366 = .ok (.iconst 2, 1) := dk_1005 (dk_g tcL_law_197 2 rfl)
theorem dL_law_2367 : decode cL_law 2367 = .ok (.iadd, 1) := dk_1096 (dk_g tcL_law_197 3 rfl)
theorem dL_law_2368 : decode cL_law 2368 = .ok (.iaload, 1) := dk_1046 (dk_g tcL_law_197 4 rfl)
theorem dL_law_2369 : decode cL_law 2369 = .ok (.invokevirtual 251, 3) := dk_1182 (dk_g tcL_law_197 5 rfl) (dk_g tcL_law_197 6 rfl) (dk_g tcL_law_197 7 rfl) rfl
theorem dL_law_2372 : decode cL_law 2372 = .ok (.pop, 1) := dk_1087 (dk_g tcL_law_197 8 rfl)
theorem dL_law_2373 : decode cL_law 2373 = .ok (.aload_n 2, 1) := dk_1044 (dk_g tcL_law_197 9 rfl)
theorem dL_law_2374 : decode cL_law 2374 = .ok (.aload_n 0, 1) := dk_1042 (dk_g tcL_law_197 10 rfl)
theorem dL_law_2375 : decode cL_law 2375 = .ok (.iload_n 3, 1) := dk_1029 (dk_g tcL_law_197 11 rfl)
theorem tcL_law_198 : (cL_law.data.toList.drop 2376).take 12 = [4, 96, 46, 42, 29, 5, 96, 46, 182, 0, 254, 87] := dk_h tycL_law_12 72 (by decide +kernel)
theorem dL_law_2376 : decode cL_law 2376 = .ok (.iconst 1, 1) := dk_1004 (dk_g tcL_law_198 0 rfl)
theorem dL_law_2377 : decode cL_law 2377 = .ok (.iadd, 1) := dk_1096 (dk_g tcL_law_198 1 rfl)
theorem dL_law_2378 : decode cL_law 2378 = .ok (.iaload, 1) := dk_1046 (dk_g tcL_law_198 2 rfl)
theorem dL_law_2379 : decode cL_law 2379 = .ok (.aload_n 0, 1) := dk_1042 (dk_g tcL_law_198 3 rfl)
theorem dL_law_2380 : decode cL_law 2380 = .ok (.iload_n 3, 1) := dk_1029 (dk_g tcL_law_198 4 rfl)
theorem dL_law_2381 : decode cL_law 2381 = .ok (.iconst 2, 1) := dk_1005 (dk_g tcL_law_198 5 rfl)
theorem dL_law_2382 : decode cL_law 2382 = .ok (.iadd, 1) := dk_1096 (dk_g tcL_law_198 6 rfl)
theorem dL_law_2383 : decode cL_law 2383 = .ok (.iaload, 1) := dk_1046 (dk_g tcL_law_198 7 rfl)
theorem dL_law_2384 : decode cL_law 2384 = .ok (.invokevirtual 254, 3) := dk_1182 (dk_g tcL_law_198 8 rfl) (dk_g tcL_law_198 9 rfl) (dk_g tcL_law_198 10 rfl) rfl
theorem dL_law_2387 : decode cL_law 2387 = .ok (.pop, 1) := dk_1087 (dk_g tcL_law_198 11 rfl)
theorem tcL_law_199 : (cL_law.data.toList.drop 2388).take 12 = [167, 0, 3, 132, 3, 6, 167, 246, 184, 4, 172] := dk_h tycL_law_12 84 (by decide +kernel)
theorem dL_law_2388 : decode cL_law 2388 = .ok (.goto 3, 3) := dk_2167 (dk_g tcL_law_199 0 rfl) (dk_g tcL_law_199 1 rfl) (dk_g tcL_law_199 2 rfl) rfl rfl
theorem dL_law_2391 : decode cL_law 2391 = .ok (.iinc 3 6, 3) := dk_1132 (dk_g tcL_law_199 3 rfl) (dk_g tcL_law_199 4 rfl) (dk_g tcL_law_199 5 rfl) rfl (by decide +kernel)
theorem dL_law_2394 : decode cL_law 2394 = .ok (.goto (-2376), 3) := dk_1167 (dk_g tcL_law_199 6 rfl) (dk_g tcL_law_199 7 rfl) (dk_g tcL_law_199 8 rfl) (by decide +kernel)
theorem dL_law_2397 : decode cL_law 2397 = .ok (.iconst 1, 1) := dk_1004 (dk_g tcL_law_199 9 rfl)
theorem dL_law_2398 : decode cL_law 2398 = .ok (.ireturn, 1) := dk_1172 (dk_g tcL_law_199 10 rfl)
end JN11_0
section JN11_1
/-! ===== the law's loop: what it keeps ===== -/
def wok0 (w : cw_W) : Bool := w.1.all (fun q => q < 650) && w.2.1.all (fun q => q < 650) && w.2.2.1.all (fun q => q < 40) && w.2.2.2.isEmpty
theorem wok_nin {w : cw_W} (h : wok0 w = true) : (∀ φ, 650 ≤ φ → φ ∉ w.1) ∧ (∀ φ, 650 ≤ φ → φ ∉ w.2.1) ∧ (∀ κ, 40 ≤ κ → κ ∉ w.2.2.1) ∧ (∀ φ, φ ∉ w.2.2.2) := by
  simp only [wok0, Bool.and_eq_true, List.all_eq_true, decide_eq_true_eq] at h
  obtain ⟨⟨⟨h1, h2⟩, h3⟩, h4⟩ := h
  refine ⟨fun φ hφ q => ?_, fun φ hφ q => ?_, fun κ hκ q => ?_, fun φ q => ?_⟩
  · have := h1 φ q; omega
  · have := h2 φ q; omega
  · have := h3 κ q; omega
  · rw [List.isEmpty_iff.mp h4] at q; cases q
theorem hm_cg {w : cw_W} {α β : hp_T} {a : Nat} {ρ : Nat → Nat} {σ : ms_T} (h : hm_M α a ρ σ) (c : cg w α β) (hw : wok0 w = true) : hm_M β a ρ σ := by
  obtain ⟨h1, h2, h3, h4, h5, h6⟩ := h
  obtain ⟨c0, c1, c2, c3, c4, c5, c6, -⟩ := c
  obtain ⟨n1, n2, n3, n4⟩ := wok_nin hw
  have ha : hp_K α a ≠ 0 := by rw [h1]; decide
  have hk : ∀ q ∈ ms_mf, hp_K α (ρ q.1) ≠ 0 := fun q hq => by
    rw [(h2 q hq).2]
    have := ms_mf40 q hq
    omega
  have mfφ : ∀ q ∈ ms_mf, 650 ≤ q.2 := by decide
  refine ⟨(c1 a ha).trans h1, fun q hq => ⟨(c3 q.2 a ha (n2 _ (mfφ q hq))).trans (h2 q hq).1, (c1 _ (hk q hq)).trans (h2 q hq).2⟩, fun φ hφ => (c2 φ a ha (n1 φ hφ)).trans (h3 φ hφ), fun κ j hκ hκ2 => ?_, (c6 677 a ha (n4 _)).trans h5, fun j hj => (c5 48 _ j (hk (48, 678) (by decide))).trans (h6 j hj)⟩
  have hin : ∃ q ∈ ms_mf, q.1 = κ := by
    have : ∀ κ, κ < 60 → 40 ≤ κ → ∃ q ∈ ms_mf, q.1 = κ := by decide
    exact this κ hκ2 hκ
  obtain ⟨q, hq, rfl⟩ := hin
  exact (c4 _ _ j (hk q hq) (n3 _ hκ)).trans (h4 _ j hκ hκ2)
def wok (w : cw_W) : Bool := wok0 w && wlx w
theorem wok_0 {w : cw_W} (h : wok w = true) : wok0 w = true := by
  simp only [wok, Bool.and_eq_true] at h
  exact h.1
theorem wok_x {w : cw_W} (h : wok w = true) : wlx w = true := by
  simp only [wok, Bool.and_eq_true] at h
  exact h.2
def lx (α : hp_T) (x : Nat) (σ : ms_T) : Prop := LX α x σ
theorem lx_cw {w : cw_W} {α β : hp_T} {x : Nat} {σ : ms_T} (h : lx α x σ) (c : cw w α β) (hw : wok w = true) : lx β x σ := LX_cw h c (wok_x hw)
def li (Γ : hp_G) (s : State) (x y : Nat) (ρ : Nat → Nat) (α : hp_T) (σ : ms_T) (H : Heap) (L : List Loc) (cells slots : Nat) : Prop := hp_B Γ (fun _ _ => True) s α α H L ∧ GC α ∧ hp_K α x = 12 ∧ hm_M α y ρ σ ∧ RI σ ∧ lx α x σ ∧ ((hp_N α 618 x = none ∧ cells = 977 ∧ slots = 17252) ∨ (hp_N α 618 x ≠ none ∧ cells = 986 ∧ slots = 148568))
def li0 (Γ : hp_G) (s : State) (x y : Nat) (ρ : Nat → Nat) (α : hp_T) (σ : ms_T) (H : Heap) (L : List Loc) (cells slots : Nat) : Prop := hp_B Γ (fun _ _ => True) s α α H L ∧ GC α ∧ hp_K α x = 12 ∧ hm_M α y ρ σ ∧ RI σ ∧ True ∧ ((hp_N α 618 x = none ∧ cells = 977 ∧ slots = 17252) ∨ (hp_N α 618 x ≠ none ∧ cells = 986 ∧ slots = 148568))
section LI
variable {Γ : hp_G} {s : State} {x y : Nat} {ρ : Nat → Nat} {α β : hp_T} {σ τ : ms_T} {H H1 : Heap} {L L1 : List Loc} {cells slots : Nat} {w : cw_W}
theorem li_cw (h : li Γ s x y ρ α σ H L cells slots) (B : hp_B Γ (fun _ _ => True) s α β H1 L1) (c : cw w α β) (hw : wok w = true) : li Γ s x y ρ β σ H1 L1 (cells + 0) (slots + 0) := by
  obtain ⟨h0, h1, h2, h3, h4, h5, h6⟩ := h
  exact ⟨⟨B.1, B.2.1, trivial⟩, c.1, by rw [c.2.1]; exact h2, hm_cg h3 (cg_cw c) (wok_0 hw), h4, lx_cw h5 c hw, by rw [c.2.2.1]; exact h6⟩
theorem li0_cw (h : li Γ s x y ρ α σ H L cells slots) (B : hp_B Γ (fun _ _ => True) s α β H1 L1) (c : cw w α β) (hw : wok0 w = true) : li0 Γ s x y ρ β σ H1 L1 (cells + 0) (slots + 0) := by
  obtain ⟨h0, h1, h2, h3, h4, h5, h6⟩ := h
  exact ⟨⟨B.1, B.2.1, trivial⟩, c.1, by rw [c.2.1]; exact h2, hm_cg h3 (cg_cw c) hw, h4, trivial, by rw [c.2.2.1]; exact h6⟩
theorem li_eq (h : li Γ s x y ρ α σ H L cells slots) (B : hp_B Γ (fun _ _ => True) s α β H1 L1) (c : β = α) : li Γ s x y ρ β σ H1 L1 (cells + 0) (slots + 0) := by
  subst c
  obtain ⟨h0, h1, h2, h3, h4, h5, h6⟩ := h
  exact ⟨⟨B.1, B.2.1, trivial⟩, h1, h2, h3, h4, h5, h6⟩
/-- where what is compared must be told anew -/
theorem li0_mo (h : li0 Γ s x y ρ α σ H L cells slots) (B : hp_B Γ (fun _ _ => True) s α β H1 L1) (c : mo α β) (hM : hm_M β y ρ τ) (hR : RI τ) (hx : lx β x τ) : li Γ s x y ρ β τ H1 L1 (cells + 0) (slots + 0) := by
  obtain ⟨h0, h1, h2, h3, h4, h5, h6⟩ := h
  exact ⟨⟨B.1, B.2.1, trivial⟩, gc_mo c h1, by rw [c.1]; exact h2, hM, hR, hx, by rw [c.2.2.1]; exact h6⟩
theorem li_0 (h : li Γ s x y ρ α σ H L cells slots) : li0 Γ s x y ρ α σ H L cells slots := by
  obtain ⟨h0, h1, h2, h3, h4, h5, h6⟩ := h
  exact ⟨h0, h1, h2, h3, h4, trivial, h6⟩
end LI
section LR
variable {p : Program} {l : Launch} {e : Env} {R : Room} {s : State} {m : MethodId} {args : Array Value} {below : List Frame} {meth : Method} {c : Code} {H : Heap} {locs : List Loc} {cells slots : Nat} {Q : State → Prop} {cc bytes : ByteArray} {nL maxL : Nat} {ret : Option FieldType} {own : String} {Γ : hp_G} {α : hp_T} {Iv : hp_T → hp_T → Prop} {α0 : hp_T} {pc pc' : Nat} {ls : Array Slot} {st rest : List Value} {b κ index n d' mc ms : Nat} {y : MethodName} {As : List Value}
theorem l_recv (C : hp_C Γ p m c cc nL s args own) (B : hp_B Γ Iv s α0 α H locs) (hV : hp_LV y κ) (hk : hp_K α b = κ) : ∃ cellB : Cell, H[b]? = some cellB ∧ cellB.vm.isStatics = false ∧ s.vm.findClass y.cls = some cellB.cls := by
  obtain ⟨v1, v2, v3, v4, v5⟩ := hV
  rw [← v3]
  exact va_recv C.2.1 (hp_P1 (B.at hk v5).2) v4 (q0 := 0) rfl
theorem l_run {Pc : Array Value → State → Prop} {Qc : Array Value → State → Outcome → State → Prop} (C : hp_C Γ p m c cc nL s args own) (hM : Met l y (hp_ws y bytes maxL ret) (hp_rm d' mc ms) Pc Qc mc ms (hp_A Γ)) (hbl : FrameBlind Pc) (hpre : ∀ U : State, U.heap = H → s.WarmedH U.vm → Pc (Value.ref b :: As).toArray U) (hrec : ∃ cellB : Cell, H[b]? = some cellB ∧ cellB.vm.isStatics = false ∧ s.vm.findClass y.cls = some cellB.cls) (hB : hp_LB y bytes maxL ret n) (hV : hp_LV y κ) (hL : hp_LK own index y) (hRf : d' + 1 ≤ R.frames) (hRl : 8 + (maxL + 11) + 45 * d' ≤ R.locals) (hff : cells + mc ≤ R.cells ∧ slots + ms ≤ R.slots) (hlen : As.length = n) (hsz : ls.size = nL) (hst : st = As.reverse ++ .ref b :: rest) (hcat : (rest.map fun v => v.category).sum ≤ 8) (hdg : decode cc pc = .ok (.invokevirtual index, 3)) :
    va_Run p l e R s m args below meth c H locs cells slots mc ms (F0 m pc ls st) rest (Qc (Value.ref b :: As).toArray) (hp_A Γ) := by
  obtain ⟨h1, h2, h3, h4⟩ := hB
  obtain ⟨v1, v2, v3, v4, v5⟩ := hV
  have hts := C.1.2.2.2.2
  have hp : PreV s H y.cls b Pc As := ⟨hbl, hrec, hpre⟩
  have hRR : (hp_rm d' mc ms).frames + 1 ≤ R.frames ∧ 8 + (maxL + 11) + (hp_rm d' mc ms).locals ≤ R.locals := ⟨hRf, hRl⟩
  rcases hL with hL | ⟨host, hL⟩
  · exact va_runV (As := As) (rest := rest) (n := n) (C := y.cls) C.1 hM ⟨callB_of n hts (hp_gs h1) rfl rfl rfl (hts _ h2) (hts _ hL) h4 hRR, hts _ v1, hts _ v2⟩ hp rfl hlen hsz hst (lv_room (m := m) (pc := pc) (ls := ls) (rest := st) hcat) hdg hff
  · exact va_runVN (As := As) (rest := rest) (n := n) (C := y.cls) C.1 hM ⟨va_cnB n hts (hp_gs h1) rfl rfl rfl (C.2.2.1 _ hL) (hts _ h2) h4 hRR, hts _ v1, hts _ v2⟩ hp rfl hlen hsz hst (lv_room (m := m) (pc := pc) (ls := ls) (rest := st) hcat) hdg hff
theorem l_runV {Qc : Array Value → State → Outcome → State → Prop} (C : hp_C Γ p m c cc nL s args own) (B : hp_B Γ Iv s α0 α H locs) (hM : Met l y (hp_ws y bytes maxL ret) (hp_rm d' mc ms) (hp_Pc Γ α (.ref b :: As)) Qc mc ms (hp_A Γ)) (hB : hp_LB y bytes maxL ret n) (hV : hp_LV y κ) (hL : hp_LK own index y) (hk : hp_K α b = κ) (hRf : d' + 1 ≤ R.frames) (hRl : 8 + (maxL + 11) + 45 * d' ≤ R.locals) (hff : cells + mc ≤ R.cells ∧ slots + ms ≤ R.slots) (hlen : As.length = n) (hsz : ls.size = nL) (hst : st = As.reverse ++ .ref b :: rest) (hcat : (rest.map fun v => v.category).sum ≤ 8) (hdg : decode cc pc = .ok (.invokevirtual index, 3)) :
    va_Run p l e R s m args below meth c H locs cells slots mc ms (F0 m pc ls st) rest (Qc (Value.ref b :: As).toArray) (hp_A Γ) :=
  l_run C hM (hp_blind Γ α _) (fun U hU hW => ⟨rfl, by rw [hU]; exact B.1, C.2.warm hW⟩) (l_recv C B hV hk) hB hV hL hRf hRl hff hlen hsz hst hcat hdg
theorem l_runH {Qc : Array Value → State → Outcome → State → Prop} (C : hp_C Γ p m c cc nL s args own) (B : hp_B Γ Iv s α0 α H locs) (hM : Met l y (hp_ws y bytes maxL ret) (hp_rm d' mc ms) (hp_PcH Γ α H (.ref b :: As)) Qc mc ms (hp_A Γ)) (hB : hp_LB y bytes maxL ret n) (hV : hp_LV y κ) (hL : hp_LK own index y) (hk : hp_K α b = κ) (hRf : d' + 1 ≤ R.frames) (hRl : 8 + (maxL + 11) + 45 * d' ≤ R.locals) (hff : cells + mc ≤ R.cells ∧ slots + ms ≤ R.slots) (hlen : As.length = n) (hsz : ls.size = nL) (hst : st = As.reverse ++ .ref b :: rest) (hcat : (rest.map fun v => v.category).sum ≤ 8) (hdg : decode cc pc = .ok (.invokevirtual index, 3)) :
    va_Run p l e R s m args below meth c H locs cells slots mc ms (F0 m pc ls st) rest (Qc (Value.ref b :: As).toArray) (hp_A Γ) :=
  l_run C hM (hp_blindH Γ α H _) (fun U hU hW => ⟨rfl, hU, by rw [hU]; exact B.1, C.2.warm hW⟩) (l_recv C B hV hk) hB hV hL hRf hRl hff hlen hsz hst hcat hdg
/-- the call that may make Roots: two ways on -/
theorem l_ciZ {post : Int32 → hp_T → Prop} {a : Array Value} {a0 : Nat} (B : hp_B Γ (fun _ _ => True) s α α H locs) (hr : va_Run p l e R s m args below meth c H locs cells slots mc ms (F0 m pc ls st) rest (va_Qi post (hp_Bz Γ H a0) (hp_A Γ) a) (hp_A Γ)) (hpc : pc + 3 = pc')
    (k0 : ∀ (r : Int32) (β : hp_T) (H1 : Heap) (locs1 : List Loc), post r β → hp_N β 618 a0 = none → hp_B Γ (fun _ _ => True) s α β H1 locs1 → W p l e R s m args below meth c H1 locs1 cells slots Q (F0 m pc' ls (.int r :: rest)))
    (k1 : ∀ (r : Int32) (β : hp_T) (H1 : Heap) (locs1 : List Loc), post r β → hp_N β 618 a0 ≠ none → hp_B Γ (fun _ _ => True) s α β H1 locs1 → W p l e R s m args below meth c H1 locs1 (cells + mc) (slots + ms) Q (F0 m pc' ls (.int r :: rest))) : W p l e R s m args below meth c H locs cells slots Q (F0 m pc ls st) := by
  subst hpc
  intro T hT X
  obtain ⟨v, st₀, t, T', L, h0, X', hL, e1, e2, ⟨⟨r, u, hv, hp, hb⟩, hz, hk⟩, st'⟩ := hr T hT X
  cases hv
  rw [h0] at hz hk
  have hS := B.2.1
  have hS1 : va_S (hp_A Γ) s.heap T'.heap (locs ++ L) := ⟨Nat.le_trans hS.1 (by rw [e1]; exact hz), fun q h1 h2 => by rw [e1, hk q (Nat.lt_of_lt_of_le h1 hS.1) h2]; exact hS.2.1 q h1 h2, fun q hq => by
    rcases List.mem_append.mp hq with h | h
    · exact hS.2.2 q h
    · exact hL q h⟩
  have hB1 : hp_B Γ (fun _ _ => True) s α u T'.heap (locs ++ L) := ⟨by rw [e1]; exact hb.1, hS1, trivial⟩
  by_cases hn : hp_N u 618 a0 = none
  · have hz2 := hb.2 hn
    obtain ⟨t2, a1, b1⟩ := k0 r u T'.heap (locs ++ L) hp hn hB1 T' rfl (zs_narrow X X' (by rw [hT, e1]; exact hz2))
    exact ⟨t2, st' t2 a1, b1⟩
  · obtain ⟨t2, a1, b1⟩ := k1 r u T'.heap (locs ++ L) hp hn hB1 T' rfl X'
    exact ⟨t2, st' t2 a1, b1⟩
/-- an int of the script -/
theorem l_arg {bb Ln : Nat} {xs : Nat → Int32} {i : Int32} {j : Int32} {pc1 pc2 pc3 pc4 : Nat} {lv : List (Nat × Value)} (C : hp_C Γ p m c cc nL s args own) (B : hp_B Γ Iv s α0 α H locs) (hX : va_X bb Ln xs s s.heap) (hbl : bb < s.heap.size) (hbA : ¬ hp_A Γ bb) (hl : lv_has ls nL lv) {q0 q3 : Nat} (h0 : lv[q0]? = some (0, .ref bb)) (h3 : lv[q3]? = some (3, .int i)) (hj : j = 1 ∨ j = 2 ∨ j = 3 ∨ j = 4 ∨ j = 5) (hi : 0 ≤ i.toInt) (hi2 : i.toInt + 6 ≤ (Ln : Int)) (hi3 : (Ln : Int) ≤ 3072)
    (d0 : decode cc pc = .ok (.aload_n 0, 1)) (d1 : decode cc pc1 = .ok (.iload_n 3, 1)) {nj : Int} (hnj : Int32.ofInt nj = j) (d2 : decode cc pc2 = .ok (.iconst nj, 1)) (d3 : decode cc pc3 = .ok (.iadd, 1)) (d4 : decode cc pc4 = .ok (.iaload, 1)) (e1 : pc + 1 = pc1) (e2 : pc1 + 1 = pc2) (e3 : pc2 + 1 = pc3) (e4 : pc3 + 1 = pc4) (e5 : pc4 + 1 = pc')
    (kk : ∀ v : Int32, v = xs (i + j).toNatClampNeg → W p l e R s m args below meth c H locs cells slots Q (F0 m pc' ls (.int v :: rest))) : W p l e R s m args below meth c H locs cells slots Q (F0 m pc ls rest) := by
  obtain ⟨⟨hx, hb, hml, hown, hts⟩, hK⟩ := C
  subst e1; subst e2; subst e3; subst e4; subst e5
  have hjj : 1 ≤ j.toInt ∧ j.toInt ≤ 5 := by rcases hj with h | h | h | h | h <;> rw [h] <;> decide
  have hij : (i + j).toInt = i.toInt + j.toInt := ii_add (by omega) (by omega)
  refine lv_aload_n hx hb d0 rfl (lv_at hl q0 h0) ?_
  refine lv_iload_n hx hb d1 rfl (lv_at hl q3 h3) ?_
  refine lv_iconst (v := j) hx hb d2 hnj ?_
  refine lv_iadd hx hb d3 ?_
  exact va_sld hx hb hX hbl hbA B.2.1 (vi_of (by omega) (by omega)) d4 (lv_topi kk)
end LR
end JN11_1
section JN11_2
/-! THE CLAIM OUT OF ONE WALK OF THE LAW'S BODY. Your part is whole_start (and what it stands on); all else here is the same for every law, but numbers. -/
def R_law : String := "ProvenRecordLaw"
def lw_P (b : Addr) (xs : List Int32) (args : Array Value) (s : State) : Prop := args = #[.ref b] ∧ s.IntsAt b xs ∧ xs.length ≤ 3072 ∧ (Jvm.Cond.and given_1 narrow_1).before args s = true
def lw_Q (_ : Array Value) (s : State) (o : Outcome) (t : State) : Prop := o = .returned (some (.int 1)) ∧ Framed s o t [] 600000 7302250
def lw_Z (below : List Frame) (a : Array Value) (s : State) : State → Prop := fun t => ∃ o, t.status = .running ∧ Ended t below o ∧ lw_Q a s o t
/-- the law's own end, with 1 on the stack, nothing written that was there before, its room as the claim has it -/
theorem lw_ret {p : Program} {l : Launch} {e : Env} {s : State} {m : MethodId} {below : List Frame} {meth : Method} {c : Code} {b : Nat} (hx : p.tables.exec = Jvm.exec) (hb : c.code = code) (hr : meth.sig.returnType = ret) (hlocks : meth.locks = false) {pc : Nat} {H : Heap} {ls : Array Slot} (hdg : decode code pc = .ok (.ireturn, 1)) : W p l e room_1 s m #[Value.ref b] below meth c H [] 600000 7302250 (lw_Z below #[Value.ref b] s) (F0 m pc ls [.int 1]) := by
  intro T hT X
  obtain ⟨fs, hret, hrun, hended, hW, hframe⟩ := X.leave (v := some (.int 1)) (hlocks := hlocks) (fun h => by rw [hr] at h; cases h)
  have hmeth' : T.vm.method? m = some meth := X.method'
  refine ⟨T.setFrames fs, ?_, .returned (some (.int 1)), hrun, hended, rfl, ⟨_, rfl⟩, hW, hframe⟩
  jvm_step X.here [X.here.top, hx, hb, hdg, hmeth', hr, ret, narrow_b1]
  (try refine ⟨rfl, ?_⟩); (try refine ⟨rfl, ?_⟩)
  first | (intro acts; rw [hret _ acts rfl rfl rfl]) | rw [hret _ _ rfl rfl rfl]
  exact Steps.refl _
/-- what holds at the law's entry: the machine, the code, the tables' words (any of lw_tbl by 'hts w (by decide +kernel)'), the script of L ints xs at the cell b, what the Statement gives of the start (any of its parts by flat_of_before) -/
def lw_At (p : Program) (s : State) (m : MethodId) (meth : Method) (c : Code) (b L : Nat) (xs : Nat → Int32) : Prop :=
  p.tables.exec = Jvm.exec ∧ c.code = code ∧ meth.sig.returnType = ret ∧ c.maxLocals = 4 ∧ s.vm.findClass R_law = some m.cls ∧ (∀ w ∈ lw_tbl, w.before #[Value.ref b] s = true) ∧ va_X b L xs s s.heap ∧ b < s.heap.size ∧ meth.locks = false ∧ (Jvm.Cond.and given_1 narrow_1).before #[Value.ref b] s = true
end JN11_2
section JN11_3
set_option maxRecDepth 100000 in
set_option maxHeartbeats 4000000 in
theorem lc_0 {p : Program} {l : Launch} {e : Env} {s : State} {m : MethodId} {below : List Frame} {meth : Method} {c : Code} {Γ : hp_G} {b Ln x y : Nat} {xs : Nat → Int32} {ρ : Nat → Nat} (C : hp_C Γ p m c cL_law 4 s #[Value.ref b] RL) (hX : va_X b Ln xs s s.heap) (hbl : b < s.heap.size) (hbA : ¬ hp_A Γ b) (hLn : Ln ≤ 3072) {α : hp_T} {σ : ms_T} {H : Heap} {L : List Loc} {cells slots : Nat} (hli : li Γ s x y ρ α σ H L cells slots) (i : Int32) (hi : 0 ≤ i.toInt) (hi2 : i.toInt + 6 ≤ (Ln : Int)) (ls : Array Slot) (hl : lv_has ls 4 [(0, .ref b), (1, .ref x), (2, .ref y), (3, .int i)]) (kk : ∀ (α : hp_T) (σ : ms_T) (H : Heap) (L : List Loc) (cells slots : Nat), li Γ s x y ρ α σ H L cells slots → W p l e room_1 s m #[Value.ref b] below meth c H L cells slots (lw_Z below #[Value.ref b] s) (F0 m 2391 ls [])) : W p l e room_1 s m #[Value.ref b] below meth c H L cells slots (lw_Z below #[Value.ref b] s) (F0 m 284 ls []) := by
  have hx := C.1.1
  have hb := C.1.2.1
  have hi3 : (Ln : Int) ≤ 3072 := by omega
  have hcs : cells ≤ 986 ∧ slots ≤ 148568 := by rcases hli.2.2.2.2.2.2 with ⟨-, h1, h2⟩ | ⟨-, h1, h2⟩ <;> omega
  obtain ⟨hB, hG, hKx, hM, hR, hE, hRo⟩ := id hli
  refine lv_aload_n hx hb dL_law_284 rfl (lv_at hl 1 rfl) (hp_n (n := 285) rfl ?_)
  refine q_ci (pc' := 288) hB (l_runV (As := []) (rest := []) C hB (t_X11_status Γ l α hG x hKx ) lb_X11_status lv_X11_status lk_L_13 hKx (Nat.le_of_ble_eq_true rfl) (Nat.le_of_ble_eq_true rfl) ⟨Nat.le_trans (Nat.add_le_add_right hcs.1 _) (Nat.le_of_ble_eq_true rfl), Nat.le_trans (Nat.add_le_add_right hcs.2 _) (Nat.le_of_ble_eq_true rfl)⟩ rfl hl.1 rfl (Nat.le_of_ble_eq_true rfl) dL_law_285) (fun _ _ _ => trivial) rfl (fun r1 β H1 L1 p1 B1 => ?_)
  have hli1 := li_eq hli B1 p1
  refine lv_pop hx hb dL_law_288 rfl (hp_n (n := 289) rfl ?_)
  obtain ⟨hB, hG, hKx, hM, hR, hE, hRo⟩ := id hli1
  have hcs : cells + 0 ≤ 986 ∧ slots + 0 ≤ 148568 := by rcases hRo with ⟨-, h1, h2⟩ | ⟨-, h1, h2⟩ <;> omega
  refine lv_aload_n hx hb dL_law_289 rfl (lv_at hl 2 rfl) (hp_n (n := 290) rfl ?_)
  obtain ⟨⟨r2, τ⟩, hq, hp⟩ := ws_pr (s_status 70000 (by decide) σ hR ) (z_X12_status kq_rf)
  refine q_ci (pc' := 293) hB (l_runV (As := []) (rest := []) C hB (m_X12_status 70000 Γ l _ y ρ σ hM  (r2, τ) hq) lb_X12_status lv_X12_status lk_L_17 hM.1 (Nat.le_of_ble_eq_true rfl) (Nat.le_of_ble_eq_true rfl) ⟨Nat.le_trans (Nat.add_le_add_right hcs.1 _) (Nat.le_of_ble_eq_true rfl), Nat.le_trans (Nat.add_le_add_right hcs.2 _) (Nat.le_of_ble_eq_true rfl)⟩ rfl hl.1 rfl (Nat.le_of_ble_eq_true rfl) dL_law_290) (fun _ _ _ => trivial) rfl (fun r3 γ H2 L2 p2 B2 => ?_)
  have hli2 := li0_mo (li_0 hli1) B2 p2.2.1 p2.2.2 hp.1.1 (lx_kq hli1.2.2.2.2.2.1 p2.2.1 hp.2 hp.1.2 hp.1.1)
  refine lv_pop hx hb dL_law_293 rfl (hp_n (n := 294) rfl ?_)
  refine lv_goto (tgt := 2391) hx hb dL_law_294 (by decide) ?_
  exact kk _ _ _ _ _ _ hli2
set_option maxRecDepth 100000 in
set_option maxHeartbeats 4000000 in
theorem lc_1 {p : Program} {l : Launch} {e : Env} {s : State} {m : MethodId} {below : List Frame} {meth : Method} {c : Code} {Γ : hp_G} {b Ln x y : Nat} {xs : Nat → Int32} {ρ : Nat → Nat} (C : hp_C Γ p m c cL_law 4 s #[Value.ref b] RL) (hX : va_X b Ln xs s s.heap) (hbl : b < s.heap.size) (hbA : ¬ hp_A Γ b) (hLn : Ln ≤ 3072) {α : hp_T} {σ : ms_T} {H : Heap} {L : List Loc} {cells slots : Nat} (hli : li Γ s x y ρ α σ H L cells slots) (i : Int32) (hi : 0 ≤ i.toInt) (hi2 : i.toInt + 6 ≤ (Ln : Int)) (ls : Array Slot) (hl : lv_has ls 4 [(0, .ref b), (1, .ref x), (2, .ref y), (3, .int i)]) (kk : ∀ (α : hp_T) (σ : ms_T) (H : Heap) (L : List Loc) (cells slots : Nat), li Γ s x y ρ α σ H L cells slots → W p l e room_1 s m #[Value.ref b] below meth c H L cells slots (lw_Z below #[Value.ref b] s) (F0 m 2391 ls [])) : W p l e room_1 s m #[Value.ref b] below meth c H L cells slots (lw_Z below #[Value.ref b] s) (F0 m 297 ls []) := by
  have hx := C.1.1
  have hb := C.1.2.1
  have hi3 : (Ln : Int) ≤ 3072 := by omega
  have hcs : cells ≤ 986 ∧ slots ≤ 148568 := by rcases hli.2.2.2.2.2.2 with ⟨-, h1, h2⟩ | ⟨-, h1, h2⟩ <;> omega
  obtain ⟨hB, hG, hKx, hM, hR, hE, hRo⟩ := id hli
  refine lv_aload_n hx hb dL_law_297 rfl (lv_at hl 1 rfl) (hp_n (n := 298) rfl ?_)
  refine l_arg (j := 1) (nj := 1) (q0 := 0) (q3 := 3) (pc' := 303) C hB hX hbl hbA hl rfl rfl (by decide) hi hi2 hi3 dL_law_298 dL_law_299 rfl dL_law_300 dL_law_301 dL_law_302 rfl rfl rfl rfl rfl (fun u1 eu1 => ?_)
  refine l_arg (j := 2) (nj := 2) (q0 := 0) (q3 := 3) (pc' := 308) C hB hX hbl hbA hl rfl rfl (by decide) hi hi2 hi3 dL_law_303 dL_law_304 rfl dL_law_305 dL_law_306 dL_law_307 rfl rfl rfl rfl rfl (fun u2 eu2 => ?_)
  refine l_arg (j := 3) (nj := 3) (q0 := 0) (q3 := 3) (pc' := 313) C hB hX hbl hbA hl rfl rfl (by decide) hi hi2 hi3 dL_law_308 dL_law_309 rfl dL_law_310 dL_law_311 dL_law_312 rfl rfl rfl rfl rfl (fun u3 eu3 => ?_)
  refine l_arg (j := 4) (nj := 4) (q0 := 0) (q3 := 3) (pc' := 318) C hB hX hbl hbA hl rfl rfl (by decide) hi hi2 hi3 dL_law_313 dL_law_314 rfl dL_law_315 dL_law_316 dL_law_317 rfl rfl rfl rfl rfl (fun u4 eu4 => ?_)
  refine l_arg (j := 5) (nj := 5) (q0 := 0) (q3 := 3) (pc' := 323) C hB hX hbl hbA hl rfl rfl (by decide) hi hi2 hi3 dL_law_318 dL_law_319 rfl dL_law_320 dL_law_321 dL_law_322 rfl rfl rfl rfl rfl (fun u5 eu5 => ?_)
  obtain ⟨⟨rm, τm⟩, hqm, hpm⟩ := s_feed 70000 (by decide) σ hR u1 u2 u3 u4 u5
  obtain ⟨res1, hq1, hv1, hv2, hv3, hv4⟩ := r_feed 70000 (by decide) hE.2.1.2.2.1 hE.2.2.2.2.1 hR.1.2.1.1 hR.1.2.1.2 u1 u2 u3 u4 u5 (rm, τm) hqm
  refine q_ci (pc' := 326) hB (l_runV (As := [.int u1, .int u2, .int u3, .int u4, .int u5]) (rest := []) C hB (n_X11_feed 70000 Γ l α hG x hKx u1 u2 u3 u4 u5 res1 hq1) lb_X11_feed lv_X11_feed lk_L_18 hKx (Nat.le_of_ble_eq_true rfl) (Nat.le_of_ble_eq_true rfl) ⟨Nat.le_trans (Nat.add_le_add_right hcs.1 _) (Nat.le_of_ble_eq_true rfl), Nat.le_trans (Nat.add_le_add_right hcs.2 _) (Nat.le_of_ble_eq_true rfl)⟩ rfl hl.1 rfl (Nat.le_of_ble_eq_true rfl) dL_law_323) (fun _ _ _ => trivial) rfl (fun r1 β H1 L1 p1 B1 => ?_)
  have hli1 := li0_cw hli B1 p1.2.2 (by decide)
  refine lv_pop hx hb dL_law_326 rfl (hp_n (n := 327) rfl ?_)
  obtain ⟨hB, hG, hKx, hM, hR, hE, hRo⟩ := id hli1
  have hcs : cells + 0 ≤ 986 ∧ slots + 0 ≤ 148568 := by rcases hRo with ⟨-, h1, h2⟩ | ⟨-, h1, h2⟩ <;> omega
  refine lv_aload_n hx hb dL_law_327 rfl (lv_at hl 2 rfl) (hp_n (n := 328) rfl ?_)
  refine l_arg (j := 1) (nj := 1) (q0 := 0) (q3 := 3) (pc' := 333) C hB hX hbl hbA hl rfl rfl (by decide) hi hi2 hi3 dL_law_328 dL_law_329 rfl dL_law_330 dL_law_331 dL_law_332 rfl rfl rfl rfl rfl (fun w1 ew1 => ?_)
  refine l_arg (j := 2) (nj := 2) (q0 := 0) (q3 := 3) (pc' := 338) C hB hX hbl hbA hl rfl rfl (by decide) hi hi2 hi3 dL_law_333 dL_law_334 rfl dL_law_335 dL_law_336 dL_law_337 rfl rfl rfl rfl rfl (fun w2 ew2 => ?_)
  refine l_arg (j := 3) (nj := 3) (q0 := 0) (q3 := 3) (pc' := 343) C hB hX hbl hbA hl rfl rfl (by decide) hi hi2 hi3 dL_law_338 dL_law_339 rfl dL_law_340 dL_law_341 dL_law_342 rfl rfl rfl rfl rfl (fun w3 ew3 => ?_)
  refine l_arg (j := 4) (nj := 4) (q0 := 0) (q3 := 3) (pc' := 348) C hB hX hbl hbA hl rfl rfl (by decide) hi hi2 hi3 dL_law_343 dL_law_344 rfl dL_law_345 dL_law_346 dL_law_347 rfl rfl rfl rfl rfl (fun w4 ew4 => ?_)
  refine l_arg (j := 5) (nj := 5) (q0 := 0) (q3 := 3) (pc' := 353) C hB hX hbl hbA hl rfl rfl (by decide) hi hi2 hi3 dL_law_348 dL_law_349 rfl dL_law_350 dL_law_351 dL_law_352 rfl rfl rfl rfl rfl (fun w5 ew5 => ?_)
  rw [← eu1] at ew1; have ew1 := ew1.symm; subst ew1
  rw [← eu2] at ew2; have ew2 := ew2.symm; subst ew2
  rw [← eu3] at ew3; have ew3 := ew3.symm; subst ew3
  rw [← eu4] at ew4; have ew4 := ew4.symm; subst ew4
  rw [← eu5] at ew5; have ew5 := ew5.symm; subst ew5
  obtain ⟨⟨r2, τ⟩, hq, hp⟩ := s_feed 70000 (by decide) σ hR u1 u2 u3 u4 u5
  have hqe := Option.some.inj (hqm.symm.trans hq)
  have hqr : r2 = rm := (congrArg Prod.fst hqe).symm
  have hqt : τ = τm := (congrArg Prod.snd hqe).symm
  subst hqr
  subst hqt
  refine q_ci (pc' := 356) hB (l_runV (As := [.int u1, .int u2, .int u3, .int u4, .int u5]) (rest := []) C hB (m_X12_feed 70000 Γ l _ y ρ σ hM u1 u2 u3 u4 u5 (r2, τ) hq) lb_X12_feed lv_X12_feed lk_L_22 hM.1 (Nat.le_of_ble_eq_true rfl) (Nat.le_of_ble_eq_true rfl) ⟨Nat.le_trans (Nat.add_le_add_right hcs.1 _) (Nat.le_of_ble_eq_true rfl), Nat.le_trans (Nat.add_le_add_right hcs.2 _) (Nat.le_of_ble_eq_true rfl)⟩ rfl hl.1 rfl (Nat.le_of_ble_eq_true rfl) dL_law_353) (fun _ _ _ => trivial) rfl (fun r3 γ H2 L2 p2 B2 => ?_)
  have hli2 := li0_mo hli1 B2 p2.2.1 p2.2.2 hp.1 (LX_mo (by rw [p1.2.1]; exact LX_tape hli.2.2.2.2.2.1 hv2 hv3 hv4) p2.2.1)
  refine lv_pop hx hb dL_law_356 rfl (hp_n (n := 357) rfl ?_)
  refine lv_goto (tgt := 2391) hx hb dL_law_357 (by decide) ?_
  exact kk _ _ _ _ _ _ hli2
set_option maxRecDepth 100000 in
set_option maxHeartbeats 4000000 in
theorem lc_2 {p : Program} {l : Launch} {e : Env} {s : State} {m : MethodId} {below : List Frame} {meth : Method} {c : Code} {Γ : hp_G} {b Ln x y : Nat} {xs : Nat → Int32} {ρ : Nat → Nat} (C : hp_C Γ p m c cL_law 4 s #[Value.ref b] RL) (hX : va_X b Ln xs s s.heap) (hbl : b < s.heap.size) (hbA : ¬ hp_A Γ b) (hLn : Ln ≤ 3072) {α : hp_T} {σ : ms_T} {H : Heap} {L : List Loc} {cells slots : Nat} (hli : li Γ s x y ρ α σ H L cells slots) (i : Int32) (hi : 0 ≤ i.toInt) (hi2 : i.toInt + 6 ≤ (Ln : Int)) (ls : Array Slot) (hl : lv_has ls 4 [(0, .ref b), (1, .ref x), (2, .ref y), (3, .int i)]) (kk : ∀ (α : hp_T) (σ : ms_T) (H : Heap) (L : List Loc) (cells slots : Nat), li Γ s x y ρ α σ H L cells slots → W p l e room_1 s m #[Value.ref b] below meth c H L cells slots (lw_Z below #[Value.ref b] s) (F0 m 2391 ls [])) : W p l e room_1 s m #[Value.ref b] below meth c H L cells slots (lw_Z below #[Value.ref b] s) (F0 m 360 ls []) := by
  have hx := C.1.1
  have hb := C.1.2.1
  have hi3 : (Ln : Int) ≤ 3072 := by omega
  have hcs : cells ≤ 986 ∧ slots ≤ 148568 := by rcases hli.2.2.2.2.2.2 with ⟨-, h1, h2⟩ | ⟨-, h1, h2⟩ <;> omega
  obtain ⟨hB, hG, hKx, hM, hR, hE, hRo⟩ := id hli
  refine lv_aload_n hx hb dL_law_360 rfl (lv_at hl 1 rfl) (hp_n (n := 361) rfl ?_)
  refine l_arg (j := 1) (nj := 1) (q0 := 0) (q3 := 3) (pc' := 366) C hB hX hbl hbA hl rfl rfl (by decide) hi hi2 hi3 dL_law_361 dL_law_362 rfl dL_law_363 dL_law_364 dL_law_365 rfl rfl rfl rfl rfl (fun u1 eu1 => ?_)
  obtain ⟨⟨rm, τm⟩, hqm, hpm⟩ := s_load 70000 (by decide) σ hR u1
  obtain ⟨res1, hq1, hv1, hv2, hv3, hv4⟩ := r_load 70000 (by decide) α x σ hR (LXW_LX hG hE) u1 (rm, τm) hqm
  refine q_ci (pc' := 369) hB (l_runV (As := [.int u1]) (rest := []) C hB (n_X11_load 70000 Γ l α hG x hKx u1 res1 hq1) lb_X11_load lv_X11_load lk_L_23 hKx (Nat.le_of_ble_eq_true rfl) (Nat.le_of_ble_eq_true rfl) ⟨Nat.le_trans (Nat.add_le_add_right hcs.1 _) (Nat.le_of_ble_eq_true rfl), Nat.le_trans (Nat.add_le_add_right hcs.2 _) (Nat.le_of_ble_eq_true rfl)⟩ rfl hl.1 rfl (Nat.le_of_ble_eq_true rfl) dL_law_366) (fun _ _ _ => trivial) rfl (fun r1 β H1 L1 p1 B1 => ?_)
  have hli1 := li0_cw hli B1 p1.2.2 (by decide)
  refine lv_pop hx hb dL_law_369 rfl (hp_n (n := 370) rfl ?_)
  obtain ⟨hB, hG, hKx, hM, hR, hE, hRo⟩ := id hli1
  have hcs : cells + 0 ≤ 986 ∧ slots + 0 ≤ 148568 := by rcases hRo with ⟨-, h1, h2⟩ | ⟨-, h1, h2⟩ <;> omega
  refine lv_aload_n hx hb dL_law_370 rfl (lv_at hl 2 rfl) (hp_n (n := 371) rfl ?_)
  refine l_arg (j := 1) (nj := 1) (q0 := 0) (q3 := 3) (pc' := 376) C hB hX hbl hbA hl rfl rfl (by decide) hi hi2 hi3 dL_law_371 dL_law_372 rfl dL_law_373 dL_law_374 dL_law_375 rfl rfl rfl rfl rfl (fun w1 ew1 => ?_)
  rw [← eu1] at ew1; have ew1 := ew1.symm; subst ew1
  obtain ⟨⟨r2, τ⟩, hq, hp⟩ := s_load 70000 (by decide) σ hR u1
  have hqe := Option.some.inj (hqm.symm.trans hq)
  have hqr : r2 = rm := (congrArg Prod.fst hqe).symm
  have hqt : τ = τm := (congrArg Prod.snd hqe).symm
  subst hqr
  subst hqt
  refine q_ci (pc' := 379) hB (l_runV (As := [.int u1]) (rest := []) C hB (m_X12_load 70000 Γ l _ y ρ σ hM u1 (r2, τ) hq) lb_X12_load lv_X12_load lk_L_27 hM.1 (Nat.le_of_ble_eq_true rfl) (Nat.le_of_ble_eq_true rfl) ⟨Nat.le_trans (Nat.add_le_add_right hcs.1 _) (Nat.le_of_ble_eq_true rfl), Nat.le_trans (Nat.add_le_add_right hcs.2 _) (Nat.le_of_ble_eq_true rfl)⟩ rfl hl.1 rfl (Nat.le_of_ble_eq_true rfl) dL_law_376) (fun _ _ _ => trivial) rfl (fun r3 γ H2 L2 p2 B2 => ?_)
  have hli2 := li0_mo hli1 B2 p2.2.1 p2.2.2 hp.1 (LX_mo (by rw [p1.2.1]; exact LX_load hli.2.2.2.2.2.1 hv2 hv3 hv4 hp.1.2) p2.2.1)
  refine lv_pop hx hb dL_law_379 rfl (hp_n (n := 380) rfl ?_)
  refine lv_goto (tgt := 2391) hx hb dL_law_380 (by decide) ?_
  exact kk _ _ _ _ _ _ hli2
set_option maxRecDepth 100000 in
set_option maxHeartbeats 4000000 in
theorem lc_3 {p : Program} {l : Launch} {e : Env} {s : State} {m : MethodId} {below : List Frame} {meth : Method} {c : Code} {Γ : hp_G} {b Ln x y : Nat} {xs : Nat → Int32} {ρ : Nat → Nat} (C : hp_C Γ p m c cL_law 4 s #[Value.ref b] RL) (hX : va_X b Ln xs s s.heap) (hbl : b < s.heap.size) (hbA : ¬ hp_A Γ b) (hLn : Ln ≤ 3072) {α : hp_T} {σ : ms_T} {H : Heap} {L : List Loc} {cells slots : Nat} (hli : li Γ s x y ρ α σ H L cells slots) (i : Int32) (hi : 0 ≤ i.toInt) (hi2 : i.toInt + 6 ≤ (Ln : Int)) (ls : Array Slot) (hl : lv_has ls 4 [(0, .ref b), (1, .ref x), (2, .ref y), (3, .int i)]) (kk : ∀ (α : hp_T) (σ : ms_T) (H : Heap) (L : List Loc) (cells slots : Nat), li Γ s x y ρ α σ H L cells slots → W p l e room_1 s m #[Value.ref b] below meth c H L cells slots (lw_Z below #[Value.ref b] s) (F0 m 2391 ls [])) : W p l e room_1 s m #[Value.ref b] below meth c H L cells slots (lw_Z below #[Value.ref b] s) (F0 m 383 ls []) := by
  have hx := C.1.1
  have hb := C.1.2.1
  have hi3 : (Ln : Int) ≤ 3072 := by omega
  have hcs : cells ≤ 986 ∧ slots ≤ 148568 := by rcases hli.2.2.2.2.2.2 with ⟨-, h1, h2⟩ | ⟨-, h1, h2⟩ <;> omega
  obtain ⟨hB, hG, hKx, hM, hR, hE, hRo⟩ := id hli
  refine lv_aload_n hx hb dL_law_383 rfl (lv_at hl 1 rfl) (hp_n (n := 384) rfl ?_)
  refine l_arg (j := 1) (nj := 1) (q0 := 0) (q3 := 3) (pc' := 389) C hB hX hbl hbA hl rfl rfl (by decide) hi hi2 hi3 dL_law_384 dL_law_385 rfl dL_law_386 dL_law_387 dL_law_388 rfl rfl rfl rfl rfl (fun u1 eu1 => ?_)
  refine q_ci (pc' := 392) hB (l_runV (As := [.int u1]) (rest := []) C hB (t_X11_hear_F Γ l α hG x hKx u1) lb_X11_hear lv_X11_hear lk_L_28 hKx (Nat.le_of_ble_eq_true rfl) (Nat.le_of_ble_eq_true rfl) ⟨Nat.le_trans (Nat.add_le_add_right hcs.1 _) (Nat.le_of_ble_eq_true rfl), Nat.le_trans (Nat.add_le_add_right hcs.2 _) (Nat.le_of_ble_eq_true rfl)⟩ rfl hl.1 rfl (Nat.le_of_ble_eq_true rfl) dL_law_389) (fun _ _ _ => trivial) rfl (fun r1 β H1 L1 p1 B1 => ?_)
  have hli1 := li0_cw hli B1 p1.1 (by decide)
  refine lv_pop hx hb dL_law_392 rfl (hp_n (n := 393) rfl ?_)
  obtain ⟨hB, hG, hKx, hM, hR, hE, hRo⟩ := id hli1
  have hcs : cells + 0 ≤ 986 ∧ slots + 0 ≤ 148568 := by rcases hRo with ⟨-, h1, h2⟩ | ⟨-, h1, h2⟩ <;> omega
  refine lv_aload_n hx hb dL_law_393 rfl (lv_at hl 2 rfl) (hp_n (n := 394) rfl ?_)
  refine l_arg (j := 1) (nj := 1) (q0 := 0) (q3 := 3) (pc' := 399) C hB hX hbl hbA hl rfl rfl (by decide) hi hi2 hi3 dL_law_394 dL_law_395 rfl dL_law_396 dL_law_397 dL_law_398 rfl rfl rfl rfl rfl (fun w1 ew1 => ?_)
  rw [← eu1] at ew1; have ew1 := ew1.symm; subst ew1
  obtain ⟨⟨r2, τ⟩, hq, hp⟩ := ws_pr (s_hear 70000 (by decide) σ hR u1) (z_X12_hear kq_rf)
  refine q_ci (pc' := 402) hB (l_runV (As := [.int u1]) (rest := []) C hB (m_X12_hear 70000 Γ l _ y ρ σ hM u1 (r2, τ) hq) lb_X12_hear lv_X12_hear lk_L_31 hM.1 (Nat.le_of_ble_eq_true rfl) (Nat.le_of_ble_eq_true rfl) ⟨Nat.le_trans (Nat.add_le_add_right hcs.1 _) (Nat.le_of_ble_eq_true rfl), Nat.le_trans (Nat.add_le_add_right hcs.2 _) (Nat.le_of_ble_eq_true rfl)⟩ rfl hl.1 rfl (Nat.le_of_ble_eq_true rfl) dL_law_399) (fun _ _ _ => trivial) rfl (fun r3 γ H2 L2 p2 B2 => ?_)
  have hli2 := li0_mo hli1 B2 p2.2.1 p2.2.2 hp.1.1 (LX_mo (LX_hear hli.2.2.2.2.2.1 p1.1 (by decide) p1.2 hp.1.2 hp.2 hp.1.1.2) p2.2.1)
  refine lv_pop hx hb dL_law_402 rfl (hp_n (n := 403) rfl ?_)
  refine lv_goto (tgt := 2391) hx hb dL_law_403 (by decide) ?_
  exact kk _ _ _ _ _ _ hli2
set_option maxRecDepth 100000 in
set_option maxHeartbeats 4000000 in
theorem lc_4 {p : Program} {l : Launch} {e : Env} {s : State} {m : MethodId} {below : List Frame} {meth : Method} {c : Code} {Γ : hp_G} {b Ln x y : Nat} {xs : Nat → Int32} {ρ : Nat → Nat} (C : hp_C Γ p m c cL_law 4 s #[Value.ref b] RL) (hX : va_X b Ln xs s s.heap) (hbl : b < s.heap.size) (hbA : ¬ hp_A Γ b) (hLn : Ln ≤ 3072) {α : hp_T} {σ : ms_T} {H : Heap} {L : List Loc} {cells slots : Nat} (hli : li Γ s x y ρ α σ H L cells slots) (i : Int32) (hi : 0 ≤ i.toInt) (hi2 : i.toInt + 6 ≤ (Ln : Int)) (ls : Array Slot) (hl : lv_has ls 4 [(0, .ref b), (1, .ref x), (2, .ref y), (3, .int i)]) (kk : ∀ (α : hp_T) (σ : ms_T) (H : Heap) (L : List Loc) (cells slots : Nat), li Γ s x y ρ α σ H L cells slots → W p l e room_1 s m #[Value.ref b] below meth c H L cells slots (lw_Z below #[Value.ref b] s) (F0 m 2391 ls [])) : W p l e room_1 s m #[Value.ref b] below meth c H L cells slots (lw_Z below #[Value.ref b] s) (F0 m 406 ls []) := by
  have hx := C.1.1
  have hb := C.1.2.1
  have hi3 : (Ln : Int) ≤ 3072 := by omega
  have hcs : cells ≤ 986 ∧ slots ≤ 148568 := by rcases hli.2.2.2.2.2.2 with ⟨-, h1, h2⟩ | ⟨-, h1, h2⟩ <;> omega
  obtain ⟨hB, hG, hKx, hM, hR, hE, hRo⟩ := id hli
  refine lv_aload_n hx hb dL_law_406 rfl (lv_at hl 1 rfl) (hp_n (n := 407) rfl ?_)
  refine l_arg (j := 1) (nj := 1) (q0 := 0) (q3 := 3) (pc' := 412) C hB hX hbl hbA hl rfl rfl (by decide) hi hi2 hi3 dL_law_407 dL_law_408 rfl dL_law_409 dL_law_410 dL_law_411 rfl rfl rfl rfl rfl (fun u1 eu1 => ?_)
  refine q_ci (pc' := 415) hB (l_runV (As := [.int u1]) (rest := []) C hB (t_X11_heard Γ l α hG x hKx u1) lb_X11_heard lv_X11_heard lk_L_32 hKx (Nat.le_of_ble_eq_true rfl) (Nat.le_of_ble_eq_true rfl) ⟨Nat.le_trans (Nat.add_le_add_right hcs.1 _) (Nat.le_of_ble_eq_true rfl), Nat.le_trans (Nat.add_le_add_right hcs.2 _) (Nat.le_of_ble_eq_true rfl)⟩ rfl hl.1 rfl (Nat.le_of_ble_eq_true rfl) dL_law_412) (fun _ _ _ => trivial) rfl (fun r1 β H1 L1 p1 B1 => ?_)
  have hli1 := li_cw hli B1 p1 (by decide)
  refine lv_pop hx hb dL_law_415 rfl (hp_n (n := 416) rfl ?_)
  obtain ⟨hB, hG, hKx, hM, hR, hE, hRo⟩ := id hli1
  have hcs : cells + 0 ≤ 986 ∧ slots + 0 ≤ 148568 := by rcases hRo with ⟨-, h1, h2⟩ | ⟨-, h1, h2⟩ <;> omega
  refine lv_aload_n hx hb dL_law_416 rfl (lv_at hl 2 rfl) (hp_n (n := 417) rfl ?_)
  refine l_arg (j := 1) (nj := 1) (q0 := 0) (q3 := 3) (pc' := 422) C hB hX hbl hbA hl rfl rfl (by decide) hi hi2 hi3 dL_law_417 dL_law_418 rfl dL_law_419 dL_law_420 dL_law_421 rfl rfl rfl rfl rfl (fun w1 ew1 => ?_)
  rw [← eu1] at ew1; have ew1 := ew1.symm; subst ew1
  obtain ⟨⟨r2, τ⟩, hq, hp⟩ := ws_pr (s_heard 70000 (by decide) σ hR u1) (z_X12_heard kq_rf)
  refine q_ci (pc' := 425) hB (l_runV (As := [.int u1]) (rest := []) C hB (m_X12_heard 70000 Γ l _ y ρ σ hM u1 (r2, τ) hq) lb_X12_heard lv_X12_heard lk_L_35 hM.1 (Nat.le_of_ble_eq_true rfl) (Nat.le_of_ble_eq_true rfl) ⟨Nat.le_trans (Nat.add_le_add_right hcs.1 _) (Nat.le_of_ble_eq_true rfl), Nat.le_trans (Nat.add_le_add_right hcs.2 _) (Nat.le_of_ble_eq_true rfl)⟩ rfl hl.1 rfl (Nat.le_of_ble_eq_true rfl) dL_law_422) (fun _ _ _ => trivial) rfl (fun r3 γ H2 L2 p2 B2 => ?_)
  have hli2 := li0_mo (li_0 hli1) B2 p2.2.1 p2.2.2 hp.1.1 (lx_kq hli1.2.2.2.2.2.1 p2.2.1 hp.2 hp.1.2 hp.1.1)
  refine lv_pop hx hb dL_law_425 rfl (hp_n (n := 426) rfl ?_)
  refine lv_goto (tgt := 2391) hx hb dL_law_426 (by decide) ?_
  exact kk _ _ _ _ _ _ hli2
set_option maxRecDepth 100000 in
set_option maxHeartbeats 4000000 in
theorem lc_5 {p : Program} {l : Launch} {e : Env} {s : State} {m : MethodId} {below : List Frame} {meth : Method} {c : Code} {Γ : hp_G} {b Ln x y : Nat} {xs : Nat → Int32} {ρ : Nat → Nat} (C : hp_C Γ p m c cL_law 4 s #[Value.ref b] RL) (hX : va_X b Ln xs s s.heap) (hbl : b < s.heap.size) (hbA : ¬ hp_A Γ b) (hLn : Ln ≤ 3072) {α : hp_T} {σ : ms_T} {H : Heap} {L : List Loc} {cells slots : Nat} (hli : li Γ s x y ρ α σ H L cells slots) (i : Int32) (hi : 0 ≤ i.toInt) (hi2 : i.toInt + 6 ≤ (Ln : Int)) (ls : Array Slot) (hl : lv_has ls 4 [(0, .ref b), (1, .ref x), (2, .ref y), (3, .int i)]) (kk : ∀ (α : hp_T) (σ : ms_T) (H : Heap) (L : List Loc) (cells slots : Nat), li Γ s x y ρ α σ H L cells slots → W p l e room_1 s m #[Value.ref b] below meth c H L cells slots (lw_Z below #[Value.ref b] s) (F0 m 2391 ls [])) : W p l e room_1 s m #[Value.ref b] below meth c H L cells slots (lw_Z below #[Value.ref b] s) (F0 m 429 ls []) := by
  have hx := C.1.1
  have hb := C.1.2.1
  have hi3 : (Ln : Int) ≤ 3072 := by omega
  have hcs : cells ≤ 986 ∧ slots ≤ 148568 := by rcases hli.2.2.2.2.2.2 with ⟨-, h1, h2⟩ | ⟨-, h1, h2⟩ <;> omega
  obtain ⟨hB, hG, hKx, hM, hR, hE, hRo⟩ := id hli
  refine lv_aload_n hx hb dL_law_429 rfl (lv_at hl 1 rfl) (hp_n (n := 430) rfl ?_)
  refine l_arg (j := 1) (nj := 1) (q0 := 0) (q3 := 3) (pc' := 435) C hB hX hbl hbA hl rfl rfl (by decide) hi hi2 hi3 dL_law_430 dL_law_431 rfl dL_law_432 dL_law_433 dL_law_434 rfl rfl rfl rfl rfl (fun u1 eu1 => ?_)
  refine q_ci (pc' := 438) hB (l_runV (As := [.int u1]) (rest := []) C hB (t_X11_fault Γ l α hG x hKx u1) lb_X11_fault lv_X11_fault lk_L_36 hKx (Nat.le_of_ble_eq_true rfl) (Nat.le_of_ble_eq_true rfl) ⟨Nat.le_trans (Nat.add_le_add_right hcs.1 _) (Nat.le_of_ble_eq_true rfl), Nat.le_trans (Nat.add_le_add_right hcs.2 _) (Nat.le_of_ble_eq_true rfl)⟩ rfl hl.1 rfl (Nat.le_of_ble_eq_true rfl) dL_law_435) (fun _ _ _ => trivial) rfl (fun r1 β H1 L1 p1 B1 => ?_)
  have hli1 := li_eq hli B1 p1
  refine lv_pop hx hb dL_law_438 rfl (hp_n (n := 439) rfl ?_)
  obtain ⟨hB, hG, hKx, hM, hR, hE, hRo⟩ := id hli1
  have hcs : cells + 0 ≤ 986 ∧ slots + 0 ≤ 148568 := by rcases hRo with ⟨-, h1, h2⟩ | ⟨-, h1, h2⟩ <;> omega
  refine lv_aload_n hx hb dL_law_439 rfl (lv_at hl 2 rfl) (hp_n (n := 440) rfl ?_)
  refine l_arg (j := 1) (nj := 1) (q0 := 0) (q3 := 3) (pc' := 445) C hB hX hbl hbA hl rfl rfl (by decide) hi hi2 hi3 dL_law_440 dL_law_441 rfl dL_law_442 dL_law_443 dL_law_444 rfl rfl rfl rfl rfl (fun w1 ew1 => ?_)
  rw [← eu1] at ew1; have ew1 := ew1.symm; subst ew1
  obtain ⟨⟨r2, τ⟩, hq, hp⟩ := ws_pr (s_fault 70000 (by decide) σ hR u1) (z_X12_fault kq_rf)
  refine q_ci (pc' := 448) hB (l_runV (As := [.int u1]) (rest := []) C hB (m_X12_fault 70000 Γ l _ y ρ σ hM u1 (r2, τ) hq) lb_X12_fault lv_X12_fault lk_L_39 hM.1 (Nat.le_of_ble_eq_true rfl) (Nat.le_of_ble_eq_true rfl) ⟨Nat.le_trans (Nat.add_le_add_right hcs.1 _) (Nat.le_of_ble_eq_true rfl), Nat.le_trans (Nat.add_le_add_right hcs.2 _) (Nat.le_of_ble_eq_true rfl)⟩ rfl hl.1 rfl (Nat.le_of_ble_eq_true rfl) dL_law_445) (fun _ _ _ => trivial) rfl (fun r3 γ H2 L2 p2 B2 => ?_)
  have hli2 := li0_mo (li_0 hli1) B2 p2.2.1 p2.2.2 hp.1.1 (lx_kq hli1.2.2.2.2.2.1 p2.2.1 hp.2 hp.1.2 hp.1.1)
  refine lv_pop hx hb dL_law_448 rfl (hp_n (n := 449) rfl ?_)
  refine lv_goto (tgt := 2391) hx hb dL_law_449 (by decide) ?_
  exact kk _ _ _ _ _ _ hli2
set_option maxRecDepth 100000 in
set_option maxHeartbeats 4000000 in
theorem lc_6 {p : Program} {l : Launch} {e : Env} {s : State} {m : MethodId} {below : List Frame} {meth : Method} {c : Code} {Γ : hp_G} {b Ln x y : Nat} {xs : Nat → Int32} {ρ : Nat → Nat} (C : hp_C Γ p m c cL_law 4 s #[Value.ref b] RL) (hX : va_X b Ln xs s s.heap) (hbl : b < s.heap.size) (hbA : ¬ hp_A Γ b) (hLn : Ln ≤ 3072) {α : hp_T} {σ : ms_T} {H : Heap} {L : List Loc} {cells slots : Nat} (hli : li Γ s x y ρ α σ H L cells slots) (i : Int32) (hi : 0 ≤ i.toInt) (hi2 : i.toInt + 6 ≤ (Ln : Int)) (ls : Array Slot) (hl : lv_has ls 4 [(0, .ref b), (1, .ref x), (2, .ref y), (3, .int i)]) (kk : ∀ (α : hp_T) (σ : ms_T) (H : Heap) (L : List Loc) (cells slots : Nat), li Γ s x y ρ α σ H L cells slots → W p l e room_1 s m #[Value.ref b] below meth c H L cells slots (lw_Z below #[Value.ref b] s) (F0 m 2391 ls [])) : W p l e room_1 s m #[Value.ref b] below meth c H L cells slots (lw_Z below #[Value.ref b] s) (F0 m 452 ls []) := by
  have hx := C.1.1
  have hb := C.1.2.1
  have hi3 : (Ln : Int) ≤ 3072 := by omega
  have hcs : cells ≤ 986 ∧ slots ≤ 148568 := by rcases hli.2.2.2.2.2.2 with ⟨-, h1, h2⟩ | ⟨-, h1, h2⟩ <;> omega
  obtain ⟨hB, hG, hKx, hM, hR, hE, hRo⟩ := id hli
  refine lv_aload_n hx hb dL_law_452 rfl (lv_at hl 1 rfl) (hp_n (n := 453) rfl ?_)
  refine l_arg (j := 1) (nj := 1) (q0 := 0) (q3 := 3) (pc' := 458) C hB hX hbl hbA hl rfl rfl (by decide) hi hi2 hi3 dL_law_453 dL_law_454 rfl dL_law_455 dL_law_456 dL_law_457 rfl rfl rfl rfl rfl (fun u1 eu1 => ?_)
  refine l_arg (j := 2) (nj := 2) (q0 := 0) (q3 := 3) (pc' := 463) C hB hX hbl hbA hl rfl rfl (by decide) hi hi2 hi3 dL_law_458 dL_law_459 rfl dL_law_460 dL_law_461 dL_law_462 rfl rfl rfl rfl rfl (fun u2 eu2 => ?_)
  obtain ⟨res1, hq1, hv1, hv2⟩ := ws_2 (k_type 70000 (by decide) α x u1 u2) (k_type2 70000 (by decide) α x u1 u2)
  refine q_ci (pc' := 466) hB (l_runV (As := [.int u1, .int u2]) (rest := []) C hB (n_X11_type 70000 Γ l α hG x hKx u1 u2 res1 hq1) lb_X11_type lv_X11_type lk_L_40 hKx (Nat.le_of_ble_eq_true rfl) (Nat.le_of_ble_eq_true rfl) ⟨Nat.le_trans (Nat.add_le_add_right hcs.1 _) (Nat.le_of_ble_eq_true rfl), Nat.le_trans (Nat.add_le_add_right hcs.2 _) (Nat.le_of_ble_eq_true rfl)⟩ rfl hl.1 rfl (Nat.le_of_ble_eq_true rfl) dL_law_463) (fun _ _ _ => trivial) rfl (fun r1 β H1 L1 p1 B1 => ?_)
  have hli1 := li0_cw hli B1 p1.2.2 (by decide)
  refine lv_pop hx hb dL_law_466 rfl (hp_n (n := 467) rfl ?_)
  obtain ⟨hB, hG, hKx, hM, hR, hE, hRo⟩ := id hli1
  have hcs : cells + 0 ≤ 986 ∧ slots + 0 ≤ 148568 := by rcases hRo with ⟨-, h1, h2⟩ | ⟨-, h1, h2⟩ <;> omega
  refine lv_aload_n hx hb dL_law_467 rfl (lv_at hl 2 rfl) (hp_n (n := 468) rfl ?_)
  refine l_arg (j := 1) (nj := 1) (q0 := 0) (q3 := 3) (pc' := 473) C hB hX hbl hbA hl rfl rfl (by decide) hi hi2 hi3 dL_law_468 dL_law_469 rfl dL_law_470 dL_law_471 dL_law_472 rfl rfl rfl rfl rfl (fun w1 ew1 => ?_)
  refine l_arg (j := 2) (nj := 2) (q0 := 0) (q3 := 3) (pc' := 478) C hB hX hbl hbA hl rfl rfl (by decide) hi hi2 hi3 dL_law_473 dL_law_474 rfl dL_law_475 dL_law_476 dL_law_477 rfl rfl rfl rfl rfl (fun w2 ew2 => ?_)
  rw [← eu1] at ew1; have ew1 := ew1.symm; subst ew1
  rw [← eu2] at ew2; have ew2 := ew2.symm; subst ew2
  obtain ⟨⟨r2, τ⟩, hq, hp⟩ := ws_pr (ws_pr (s_type 70000 (by decide) σ hR u1 u2) (v_type 70000 σ u1 u2)) (v_type2 70000 σ u1 u2)
  refine q_ci (pc' := 481) hB (l_runV (As := [.int u1, .int u2]) (rest := []) C hB (m_X12_type 70000 Γ l _ y ρ σ hM u1 u2 (r2, τ) hq) lb_X12_type lv_X12_type lk_L_44 hM.1 (Nat.le_of_ble_eq_true rfl) (Nat.le_of_ble_eq_true rfl) ⟨Nat.le_trans (Nat.add_le_add_right hcs.1 _) (Nat.le_of_ble_eq_true rfl), Nat.le_trans (Nat.add_le_add_right hcs.2 _) (Nat.le_of_ble_eq_true rfl)⟩ rfl hl.1 rfl (Nat.le_of_ble_eq_true rfl) dL_law_478) (fun _ _ _ => trivial) rfl (fun r3 γ H2 L2 p2 B2 => ?_)
  have hli2 := li0_mo hli1 B2 p2.2.1 p2.2.2 hp.1.1.1 (LX_mo (LX_type (r1 := r1) hli.2.2.2.2.2.1 (by rw [p1.1, p1.2.1]; exact hv2) hp.2 (p1.1.trans (hv1.trans hp.1.2.symm)) hp.1.1.2) p2.2.1)
  refine lv_pop hx hb dL_law_481 rfl (hp_n (n := 482) rfl ?_)
  refine lv_goto (tgt := 2391) hx hb dL_law_482 (by decide) ?_
  exact kk _ _ _ _ _ _ hli2
set_option maxRecDepth 100000 in
set_option maxHeartbeats 4000000 in
theorem lc_7 {p : Program} {l : Launch} {e : Env} {s : State} {m : MethodId} {below : List Frame} {meth : Method} {c : Code} {Γ : hp_G} {b Ln x y : Nat} {xs : Nat → Int32} {ρ : Nat → Nat} (C : hp_C Γ p m c cL_law 4 s #[Value.ref b] RL) (hX : va_X b Ln xs s s.heap) (hbl : b < s.heap.size) (hbA : ¬ hp_A Γ b) (hLn : Ln ≤ 3072) {α : hp_T} {σ : ms_T} {H : Heap} {L : List Loc} {cells slots : Nat} (hli : li Γ s x y ρ α σ H L cells slots) (i : Int32) (hi : 0 ≤ i.toInt) (hi2 : i.toInt + 6 ≤ (Ln : Int)) (ls : Array Slot) (hl : lv_has ls 4 [(0, .ref b), (1, .ref x), (2, .ref y), (3, .int i)]) (kk : ∀ (α : hp_T) (σ : ms_T) (H : Heap) (L : List Loc) (cells slots : Nat), li Γ s x y ρ α σ H L cells slots → W p l e room_1 s m #[Value.ref b] below meth c H L cells slots (lw_Z below #[Value.ref b] s) (F0 m 2391 ls [])) : W p l e room_1 s m #[Value.ref b] below meth c H L cells slots (lw_Z below #[Value.ref b] s) (F0 m 485 ls []) := by
  have hx := C.1.1
  have hb := C.1.2.1
  have hi3 : (Ln : Int) ≤ 3072 := by omega
  have hcs : cells ≤ 986 ∧ slots ≤ 148568 := by rcases hli.2.2.2.2.2.2 with ⟨-, h1, h2⟩ | ⟨-, h1, h2⟩ <;> omega
  obtain ⟨hB, hG, hKx, hM, hR, hE, hRo⟩ := id hli
  refine lv_aload_n hx hb dL_law_485 rfl (lv_at hl 1 rfl) (hp_n (n := 486) rfl ?_)
  refine l_arg (j := 1) (nj := 1) (q0 := 0) (q3 := 3) (pc' := 491) C hB hX hbl hbA hl rfl rfl (by decide) hi hi2 hi3 dL_law_486 dL_law_487 rfl dL_law_488 dL_law_489 dL_law_490 rfl rfl rfl rfl rfl (fun u1 eu1 => ?_)
  refine q_ci (pc' := 494) hB (l_runV (As := [.int u1]) (rest := []) C hB (t_X11_many Γ l α hG x hKx u1) lb_X11_many lv_X11_many lk_L_45 hKx (Nat.le_of_ble_eq_true rfl) (Nat.le_of_ble_eq_true rfl) ⟨Nat.le_trans (Nat.add_le_add_right hcs.1 _) (Nat.le_of_ble_eq_true rfl), Nat.le_trans (Nat.add_le_add_right hcs.2 _) (Nat.le_of_ble_eq_true rfl)⟩ rfl hl.1 rfl (Nat.le_of_ble_eq_true rfl) dL_law_491) (fun _ _ _ => trivial) rfl (fun r1 β H1 L1 p1 B1 => ?_)
  have hli1 := li_cw hli B1 p1 (by decide)
  refine lv_pop hx hb dL_law_494 rfl (hp_n (n := 495) rfl ?_)
  obtain ⟨hB, hG, hKx, hM, hR, hE, hRo⟩ := id hli1
  have hcs : cells + 0 ≤ 986 ∧ slots + 0 ≤ 148568 := by rcases hRo with ⟨-, h1, h2⟩ | ⟨-, h1, h2⟩ <;> omega
  refine lv_aload_n hx hb dL_law_495 rfl (lv_at hl 2 rfl) (hp_n (n := 496) rfl ?_)
  refine l_arg (j := 1) (nj := 1) (q0 := 0) (q3 := 3) (pc' := 501) C hB hX hbl hbA hl rfl rfl (by decide) hi hi2 hi3 dL_law_496 dL_law_497 rfl dL_law_498 dL_law_499 dL_law_500 rfl rfl rfl rfl rfl (fun w1 ew1 => ?_)
  rw [← eu1] at ew1; have ew1 := ew1.symm; subst ew1
  obtain ⟨⟨r2, τ⟩, hq, hp⟩ := ws_pr (s_many 70000 (by decide) σ hR u1) (z_X12_many kq_rf)
  refine q_ci (pc' := 504) hB (l_runV (As := [.int u1]) (rest := []) C hB (m_X12_many 70000 Γ l _ y ρ σ hM u1 (r2, τ) hq) lb_X12_many lv_X12_many lk_L_48 hM.1 (Nat.le_of_ble_eq_true rfl) (Nat.le_of_ble_eq_true rfl) ⟨Nat.le_trans (Nat.add_le_add_right hcs.1 _) (Nat.le_of_ble_eq_true rfl), Nat.le_trans (Nat.add_le_add_right hcs.2 _) (Nat.le_of_ble_eq_true rfl)⟩ rfl hl.1 rfl (Nat.le_of_ble_eq_true rfl) dL_law_501) (fun _ _ _ => trivial) rfl (fun r3 γ H2 L2 p2 B2 => ?_)
  have hli2 := li0_mo (li_0 hli1) B2 p2.2.1 p2.2.2 hp.1.1 (lx_kq hli1.2.2.2.2.2.1 p2.2.1 hp.2 hp.1.2 hp.1.1)
  refine lv_pop hx hb dL_law_504 rfl (hp_n (n := 505) rfl ?_)
  refine lv_goto (tgt := 2391) hx hb dL_law_505 (by decide) ?_
  exact kk _ _ _ _ _ _ hli2
set_option maxRecDepth 100000 in
set_option maxHeartbeats 4000000 in
theorem lc_8 {p : Program} {l : Launch} {e : Env} {s : State} {m : MethodId} {below : List Frame} {meth : Method} {c : Code} {Γ : hp_G} {b Ln x y : Nat} {xs : Nat → Int32} {ρ : Nat → Nat} (C : hp_C Γ p m c cL_law 4 s #[Value.ref b] RL) (hX : va_X b Ln xs s s.heap) (hbl : b < s.heap.size) (hbA : ¬ hp_A Γ b) (hLn : Ln ≤ 3072) {α : hp_T} {σ : ms_T} {H : Heap} {L : List Loc} {cells slots : Nat} (hli : li Γ s x y ρ α σ H L cells slots) (i : Int32) (hi : 0 ≤ i.toInt) (hi2 : i.toInt + 6 ≤ (Ln : Int)) (ls : Array Slot) (hl : lv_has ls 4 [(0, .ref b), (1, .ref x), (2, .ref y), (3, .int i)]) (kk : ∀ (α : hp_T) (σ : ms_T) (H : Heap) (L : List Loc) (cells slots : Nat), li Γ s x y ρ α σ H L cells slots → W p l e room_1 s m #[Value.ref b] below meth c H L cells slots (lw_Z below #[Value.ref b] s) (F0 m 2391 ls [])) : W p l e room_1 s m #[Value.ref b] below meth c H L cells slots (lw_Z below #[Value.ref b] s) (F0 m 508 ls []) := by
  have hx := C.1.1
  have hb := C.1.2.1
  have hi3 : (Ln : Int) ≤ 3072 := by omega
  have hcs : cells ≤ 986 ∧ slots ≤ 148568 := by rcases hli.2.2.2.2.2.2 with ⟨-, h1, h2⟩ | ⟨-, h1, h2⟩ <;> omega
  obtain ⟨hB, hG, hKx, hM, hR, hE, hRo⟩ := id hli
  refine lv_aload_n hx hb dL_law_508 rfl (lv_at hl 1 rfl) (hp_n (n := 509) rfl ?_)
  refine l_arg (j := 1) (nj := 1) (q0 := 0) (q3 := 3) (pc' := 514) C hB hX hbl hbA hl rfl rfl (by decide) hi hi2 hi3 dL_law_509 dL_law_510 rfl dL_law_511 dL_law_512 dL_law_513 rfl rfl rfl rfl rfl (fun u1 eu1 => ?_)
  refine q_ci (pc' := 517) hB (l_runV (As := [.int u1]) (rest := []) C hB (t_X11_size Γ l α hG x hKx u1) lb_X11_size lv_X11_size lk_L_49 hKx (Nat.le_of_ble_eq_true rfl) (Nat.le_of_ble_eq_true rfl) ⟨Nat.le_trans (Nat.add_le_add_right hcs.1 _) (Nat.le_of_ble_eq_true rfl), Nat.le_trans (Nat.add_le_add_right hcs.2 _) (Nat.le_of_ble_eq_true rfl)⟩ rfl hl.1 rfl (Nat.le_of_ble_eq_true rfl) dL_law_514) (fun _ _ _ => trivial) rfl (fun r1 β H1 L1 p1 B1 => ?_)
  have hli1 := li_cw hli B1 p1 (by decide)
  refine lv_pop hx hb dL_law_517 rfl (hp_n (n := 518) rfl ?_)
  obtain ⟨hB, hG, hKx, hM, hR, hE, hRo⟩ := id hli1
  have hcs : cells + 0 ≤ 986 ∧ slots + 0 ≤ 148568 := by rcases hRo with ⟨-, h1, h2⟩ | ⟨-, h1, h2⟩ <;> omega
  refine lv_aload_n hx hb dL_law_518 rfl (lv_at hl 2 rfl) (hp_n (n := 519) rfl ?_)
  refine l_arg (j := 1) (nj := 1) (q0 := 0) (q3 := 3) (pc' := 524) C hB hX hbl hbA hl rfl rfl (by decide) hi hi2 hi3 dL_law_519 dL_law_520 rfl dL_law_521 dL_law_522 dL_law_523 rfl rfl rfl rfl rfl (fun w1 ew1 => ?_)
  rw [← eu1] at ew1; have ew1 := ew1.symm; subst ew1
  obtain ⟨⟨r2, τ⟩, hq, hp⟩ := ws_pr (s_size 70000 (by decide) σ hR u1) (z_X12_size kq_rf)
  refine q_ci (pc' := 527) hB (l_runV (As := [.int u1]) (rest := []) C hB (m_X12_size 70000 Γ l _ y ρ σ hM u1 (r2, τ) hq) lb_X12_size lv_X12_size lk_L_52 hM.1 (Nat.le_of_ble_eq_true rfl) (Nat.le_of_ble_eq_true rfl) ⟨Nat.le_trans (Nat.add_le_add_right hcs.1 _) (Nat.le_of_ble_eq_true rfl), Nat.le_trans (Nat.add_le_add_right hcs.2 _) (Nat.le_of_ble_eq_true rfl)⟩ rfl hl.1 rfl (Nat.le_of_ble_eq_true rfl) dL_law_524) (fun _ _ _ => trivial) rfl (fun r3 γ H2 L2 p2 B2 => ?_)
  have hli2 := li0_mo (li_0 hli1) B2 p2.2.1 p2.2.2 hp.1.1 (lx_kq hli1.2.2.2.2.2.1 p2.2.1 hp.2 hp.1.2 hp.1.1)
  refine lv_pop hx hb dL_law_527 rfl (hp_n (n := 528) rfl ?_)
  refine lv_goto (tgt := 2391) hx hb dL_law_528 (by decide) ?_
  exact kk _ _ _ _ _ _ hli2
set_option maxRecDepth 100000 in
set_option maxHeartbeats 4000000 in
theorem lc_9 {p : Program} {l : Launch} {e : Env} {s : State} {m : MethodId} {below : List Frame} {meth : Method} {c : Code} {Γ : hp_G} {b Ln x y : Nat} {xs : Nat → Int32} {ρ : Nat → Nat} (C : hp_C Γ p m c cL_law 4 s #[Value.ref b] RL) (hX : va_X b Ln xs s s.heap) (hbl : b < s.heap.size) (hbA : ¬ hp_A Γ b) (hLn : Ln ≤ 3072) {α : hp_T} {σ : ms_T} {H : Heap} {L : List Loc} {cells slots : Nat} (hli : li Γ s x y ρ α σ H L cells slots) (i : Int32) (hi : 0 ≤ i.toInt) (hi2 : i.toInt + 6 ≤ (Ln : Int)) (ls : Array Slot) (hl : lv_has ls 4 [(0, .ref b), (1, .ref x), (2, .ref y), (3, .int i)]) (kk : ∀ (α : hp_T) (σ : ms_T) (H : Heap) (L : List Loc) (cells slots : Nat), li Γ s x y ρ α σ H L cells slots → W p l e room_1 s m #[Value.ref b] below meth c H L cells slots (lw_Z below #[Value.ref b] s) (F0 m 2391 ls [])) : W p l e room_1 s m #[Value.ref b] below meth c H L cells slots (lw_Z below #[Value.ref b] s) (F0 m 531 ls []) := by
  have hx := C.1.1
  have hb := C.1.2.1
  have hi3 : (Ln : Int) ≤ 3072 := by omega
  have hcs : cells ≤ 986 ∧ slots ≤ 148568 := by rcases hli.2.2.2.2.2.2 with ⟨-, h1, h2⟩ | ⟨-, h1, h2⟩ <;> omega
  obtain ⟨hB, hG, hKx, hM, hR, hE, hRo⟩ := id hli
  refine lv_aload_n hx hb dL_law_531 rfl (lv_at hl 1 rfl) (hp_n (n := 532) rfl ?_)
  refine l_arg (j := 1) (nj := 1) (q0 := 0) (q3 := 3) (pc' := 537) C hB hX hbl hbA hl rfl rfl (by decide) hi hi2 hi3 dL_law_532 dL_law_533 rfl dL_law_534 dL_law_535 dL_law_536 rfl rfl rfl rfl rfl (fun u1 eu1 => ?_)
  refine l_arg (j := 2) (nj := 2) (q0 := 0) (q3 := 3) (pc' := 542) C hB hX hbl hbA hl rfl rfl (by decide) hi hi2 hi3 dL_law_537 dL_law_538 rfl dL_law_539 dL_law_540 dL_law_541 rfl rfl rfl rfl rfl (fun u2 eu2 => ?_)
  refine l_arg (j := 3) (nj := 3) (q0 := 0) (q3 := 3) (pc' := 547) C hB hX hbl hbA hl rfl rfl (by decide) hi hi2 hi3 dL_law_542 dL_law_543 rfl dL_law_544 dL_law_545 dL_law_546 rfl rfl rfl rfl rfl (fun u3 eu3 => ?_)
  refine q_ci (pc' := 550) hB (l_runV (As := [.int u1, .int u2, .int u3]) (rest := []) C hB (t_X11_entry Γ l α hG x hKx u1 u2 u3) lb_X11_entry lv_X11_entry lk_L_53 hKx (Nat.le_of_ble_eq_true rfl) (Nat.le_of_ble_eq_true rfl) ⟨Nat.le_trans (Nat.add_le_add_right hcs.1 _) (Nat.le_of_ble_eq_true rfl), Nat.le_trans (Nat.add_le_add_right hcs.2 _) (Nat.le_of_ble_eq_true rfl)⟩ rfl hl.1 rfl (Nat.le_of_ble_eq_true rfl) dL_law_547) (fun _ _ _ => trivial) rfl (fun r1 β H1 L1 p1 B1 => ?_)
  have hli1 := li_cw hli B1 p1 (by decide)
  refine lv_pop hx hb dL_law_550 rfl (hp_n (n := 551) rfl ?_)
  obtain ⟨hB, hG, hKx, hM, hR, hE, hRo⟩ := id hli1
  have hcs : cells + 0 ≤ 986 ∧ slots + 0 ≤ 148568 := by rcases hRo with ⟨-, h1, h2⟩ | ⟨-, h1, h2⟩ <;> omega
  refine lv_aload_n hx hb dL_law_551 rfl (lv_at hl 2 rfl) (hp_n (n := 552) rfl ?_)
  refine l_arg (j := 1) (nj := 1) (q0 := 0) (q3 := 3) (pc' := 557) C hB hX hbl hbA hl rfl rfl (by decide) hi hi2 hi3 dL_law_552 dL_law_553 rfl dL_law_554 dL_law_555 dL_law_556 rfl rfl rfl rfl rfl (fun w1 ew1 => ?_)
  refine l_arg (j := 2) (nj := 2) (q0 := 0) (q3 := 3) (pc' := 562) C hB hX hbl hbA hl rfl rfl (by decide) hi hi2 hi3 dL_law_557 dL_law_558 rfl dL_law_559 dL_law_560 dL_law_561 rfl rfl rfl rfl rfl (fun w2 ew2 => ?_)
  refine l_arg (j := 3) (nj := 3) (q0 := 0) (q3 := 3) (pc' := 567) C hB hX hbl hbA hl rfl rfl (by decide) hi hi2 hi3 dL_law_562 dL_law_563 rfl dL_law_564 dL_law_565 dL_law_566 rfl rfl rfl rfl rfl (fun w3 ew3 => ?_)
  rw [← eu1] at ew1; have ew1 := ew1.symm; subst ew1
  rw [← eu2] at ew2; have ew2 := ew2.symm; subst ew2
  rw [← eu3] at ew3; have ew3 := ew3.symm; subst ew3
  obtain ⟨⟨r2, τ⟩, hq, hp⟩ := ws_pr (s_entry 70000 (by decide) σ hR u1 u2 u3) (z_X12_entry kq_rf)
  refine q_ci (pc' := 570) hB (l_runV (As := [.int u1, .int u2, .int u3]) (rest := []) C hB (m_X12_entry 70000 Γ l _ y ρ σ hM u1 u2 u3 (r2, τ) hq) lb_X12_entry lv_X12_entry lk_L_57 hM.1 (Nat.le_of_ble_eq_true rfl) (Nat.le_of_ble_eq_true rfl) ⟨Nat.le_trans (Nat.add_le_add_right hcs.1 _) (Nat.le_of_ble_eq_true rfl), Nat.le_trans (Nat.add_le_add_right hcs.2 _) (Nat.le_of_ble_eq_true rfl)⟩ rfl hl.1 rfl (Nat.le_of_ble_eq_true rfl) dL_law_567) (fun _ _ _ => trivial) rfl (fun r3 γ H2 L2 p2 B2 => ?_)
  have hli2 := li0_mo (li_0 hli1) B2 p2.2.1 p2.2.2 hp.1.1 (lx_kq hli1.2.2.2.2.2.1 p2.2.1 hp.2 hp.1.2 hp.1.1)
  refine lv_pop hx hb dL_law_570 rfl (hp_n (n := 571) rfl ?_)
  refine lv_goto (tgt := 2391) hx hb dL_law_571 (by decide) ?_
  exact kk _ _ _ _ _ _ hli2
set_option maxRecDepth 100000 in
set_option maxHeartbeats 4000000 in
theorem lc_10 {p : Program} {l : Launch} {e : Env} {s : State} {m : MethodId} {below : List Frame} {meth : Method} {c : Code} {Γ : hp_G} {b Ln x y : Nat} {xs : Nat → Int32} {ρ : Nat → Nat} (C : hp_C Γ p m c cL_law 4 s #[Value.ref b] RL) (hX : va_X b Ln xs s s.heap) (hbl : b < s.heap.size) (hbA : ¬ hp_A Γ b) (hLn : Ln ≤ 3072) {α : hp_T} {σ : ms_T} {H : Heap} {L : List Loc} {cells slots : Nat} (hli : li Γ s x y ρ α σ H L cells slots) (i : Int32) (hi : 0 ≤ i.toInt) (hi2 : i.toInt + 6 ≤ (Ln : Int)) (ls : Array Slot) (hl : lv_has ls 4 [(0, .ref b), (1, .ref x), (2, .ref y), (3, .int i)]) (kk : ∀ (α : hp_T) (σ : ms_T) (H : Heap) (L : List Loc) (cells slots : Nat), li Γ s x y ρ α σ H L cells slots → W p l e room_1 s m #[Value.ref b] below meth c H L cells slots (lw_Z below #[Value.ref b] s) (F0 m 2391 ls [])) : W p l e room_1 s m #[Value.ref b] below meth c H L cells slots (lw_Z below #[Value.ref b] s) (F0 m 574 ls []) := by
  have hx := C.1.1
  have hb := C.1.2.1
  have hi3 : (Ln : Int) ≤ 3072 := by omega
  have hcs : cells ≤ 986 ∧ slots ≤ 148568 := by rcases hli.2.2.2.2.2.2 with ⟨-, h1, h2⟩ | ⟨-, h1, h2⟩ <;> omega
  obtain ⟨hB, hG, hKx, hM, hR, hE, hRo⟩ := id hli
  refine lv_aload_n hx hb dL_law_574 rfl (lv_at hl 1 rfl) (hp_n (n := 575) rfl ?_)
  refine l_arg (j := 1) (nj := 1) (q0 := 0) (q3 := 3) (pc' := 580) C hB hX hbl hbA hl rfl rfl (by decide) hi hi2 hi3 dL_law_575 dL_law_576 rfl dL_law_577 dL_law_578 dL_law_579 rfl rfl rfl rfl rfl (fun u1 eu1 => ?_)
  refine l_arg (j := 2) (nj := 2) (q0 := 0) (q3 := 3) (pc' := 585) C hB hX hbl hbA hl rfl rfl (by decide) hi hi2 hi3 dL_law_580 dL_law_581 rfl dL_law_582 dL_law_583 dL_law_584 rfl rfl rfl rfl rfl (fun u2 eu2 => ?_)
  refine q_ci (pc' := 588) hB (l_runV (As := [.int u1, .int u2]) (rest := []) C hB (t_X11_head Γ l α hG x hKx u1 u2) lb_X11_head lv_X11_head lk_L_58 hKx (Nat.le_of_ble_eq_true rfl) (Nat.le_of_ble_eq_true rfl) ⟨Nat.le_trans (Nat.add_le_add_right hcs.1 _) (Nat.le_of_ble_eq_true rfl), Nat.le_trans (Nat.add_le_add_right hcs.2 _) (Nat.le_of_ble_eq_true rfl)⟩ rfl hl.1 rfl (Nat.le_of_ble_eq_true rfl) dL_law_585) (fun _ _ _ => trivial) rfl (fun r1 β H1 L1 p1 B1 => ?_)
  have hli1 := li_cw hli B1 p1 (by decide)
  refine lv_pop hx hb dL_law_588 rfl (hp_n (n := 589) rfl ?_)
  obtain ⟨hB, hG, hKx, hM, hR, hE, hRo⟩ := id hli1
  have hcs : cells + 0 ≤ 986 ∧ slots + 0 ≤ 148568 := by rcases hRo with ⟨-, h1, h2⟩ | ⟨-, h1, h2⟩ <;> omega
  refine lv_aload_n hx hb dL_law_589 rfl (lv_at hl 2 rfl) (hp_n (n := 590) rfl ?_)
  refine l_arg (j := 1) (nj := 1) (q0 := 0) (q3 := 3) (pc' := 595) C hB hX hbl hbA hl rfl rfl (by decide) hi hi2 hi3 dL_law_590 dL_law_591 rfl dL_law_592 dL_law_593 dL_law_594 rfl rfl rfl rfl rfl (fun w1 ew1 => ?_)
  refine l_arg (j := 2) (nj := 2) (q0 := 0) (q3 := 3) (pc' := 600) C hB hX hbl hbA hl rfl rfl (by decide) hi hi2 hi3 dL_law_595 dL_law_596 rfl dL_law_597 dL_law_598 dL_law_599 rfl rfl rfl rfl rfl (fun w2 ew2 => ?_)
  rw [← eu1] at ew1; have ew1 := ew1.symm; subst ew1
  rw [← eu2] at ew2; have ew2 := ew2.symm; subst ew2
  obtain ⟨⟨r2, τ⟩, hq, hp⟩ := ws_pr (s_head 70000 (by decide) σ hR u1 u2) (z_X12_head kq_rf)
  refine q_ci (pc' := 603) hB (l_runV (As := [.int u1, .int u2]) (rest := []) C hB (m_X12_head 70000 Γ l _ y ρ σ hM u1 u2 (r2, τ) hq) lb_X12_head lv_X12_head lk_L_61 hM.1 (Nat.le_of_ble_eq_true rfl) (Nat.le_of_ble_eq_true rfl) ⟨Nat.le_trans (Nat.add_le_add_right hcs.1 _) (Nat.le_of_ble_eq_true rfl), Nat.le_trans (Nat.add_le_add_right hcs.2 _) (Nat.le_of_ble_eq_true rfl)⟩ rfl hl.1 rfl (Nat.le_of_ble_eq_true rfl) dL_law_600) (fun _ _ _ => trivial) rfl (fun r3 γ H2 L2 p2 B2 => ?_)
  have hli2 := li0_mo (li_0 hli1) B2 p2.2.1 p2.2.2 hp.1.1 (lx_kq hli1.2.2.2.2.2.1 p2.2.1 hp.2 hp.1.2 hp.1.1)
  refine lv_pop hx hb dL_law_603 rfl (hp_n (n := 604) rfl ?_)
  refine lv_goto (tgt := 2391) hx hb dL_law_604 (by decide) ?_
  exact kk _ _ _ _ _ _ hli2
set_option maxRecDepth 100000 in
set_option maxHeartbeats 4000000 in
theorem lc_11 {p : Program} {l : Launch} {e : Env} {s : State} {m : MethodId} {below : List Frame} {meth : Method} {c : Code} {Γ : hp_G} {b Ln x y : Nat} {xs : Nat → Int32} {ρ : Nat → Nat} (C : hp_C Γ p m c cL_law 4 s #[Value.ref b] RL) (hX : va_X b Ln xs s s.heap) (hbl : b < s.heap.size) (hbA : ¬ hp_A Γ b) (hLn : Ln ≤ 3072) {α : hp_T} {σ : ms_T} {H : Heap} {L : List Loc} {cells slots : Nat} (hli : li Γ s x y ρ α σ H L cells slots) (i : Int32) (hi : 0 ≤ i.toInt) (hi2 : i.toInt + 6 ≤ (Ln : Int)) (ls : Array Slot) (hl : lv_has ls 4 [(0, .ref b), (1, .ref x), (2, .ref y), (3, .int i)]) (kk : ∀ (α : hp_T) (σ : ms_T) (H : Heap) (L : List Loc) (cells slots : Nat), li Γ s x y ρ α σ H L cells slots → W p l e room_1 s m #[Value.ref b] below meth c H L cells slots (lw_Z below #[Value.ref b] s) (F0 m 2391 ls [])) : W p l e room_1 s m #[Value.ref b] below meth c H L cells slots (lw_Z below #[Value.ref b] s) (F0 m 607 ls []) := by
  have hx := C.1.1
  have hb := C.1.2.1
  have hi3 : (Ln : Int) ≤ 3072 := by omega
  have hcs : cells ≤ 986 ∧ slots ≤ 148568 := by rcases hli.2.2.2.2.2.2 with ⟨-, h1, h2⟩ | ⟨-, h1, h2⟩ <;> omega
  obtain ⟨hB, hG, hKx, hM, hR, hE, hRo⟩ := id hli
  refine lv_aload_n hx hb dL_law_607 rfl (lv_at hl 1 rfl) (hp_n (n := 608) rfl ?_)
  refine l_arg (j := 1) (nj := 1) (q0 := 0) (q3 := 3) (pc' := 613) C hB hX hbl hbA hl rfl rfl (by decide) hi hi2 hi3 dL_law_608 dL_law_609 rfl dL_law_610 dL_law_611 dL_law_612 rfl rfl rfl rfl rfl (fun u1 eu1 => ?_)
  refine l_arg (j := 2) (nj := 2) (q0 := 0) (q3 := 3) (pc' := 618) C hB hX hbl hbA hl rfl rfl (by decide) hi hi2 hi3 dL_law_613 dL_law_614 rfl dL_law_615 dL_law_616 dL_law_617 rfl rfl rfl rfl rfl (fun u2 eu2 => ?_)
  refine q_ci (pc' := 621) hB (l_runV (As := [.int u1, .int u2]) (rest := []) C hB (t_X11_join Γ l α hG x hKx u1 u2) lb_X11_join lv_X11_join lk_L_62 hKx (Nat.le_of_ble_eq_true rfl) (Nat.le_of_ble_eq_true rfl) ⟨Nat.le_trans (Nat.add_le_add_right hcs.1 _) (Nat.le_of_ble_eq_true rfl), Nat.le_trans (Nat.add_le_add_right hcs.2 _) (Nat.le_of_ble_eq_true rfl)⟩ rfl hl.1 rfl (Nat.le_of_ble_eq_true rfl) dL_law_618) (fun _ _ _ => trivial) rfl (fun r1 β H1 L1 p1 B1 => ?_)
  have hli1 := li_cw hli B1 p1 (by decide)
  refine lv_pop hx hb dL_law_621 rfl (hp_n (n := 622) rfl ?_)
  obtain ⟨hB, hG, hKx, hM, hR, hE, hRo⟩ := id hli1
  have hcs : cells + 0 ≤ 986 ∧ slots + 0 ≤ 148568 := by rcases hRo with ⟨-, h1, h2⟩ | ⟨-, h1, h2⟩ <;> omega
  refine lv_aload_n hx hb dL_law_622 rfl (lv_at hl 2 rfl) (hp_n (n := 623) rfl ?_)
  refine l_arg (j := 1) (nj := 1) (q0 := 0) (q3 := 3) (pc' := 628) C hB hX hbl hbA hl rfl rfl (by decide) hi hi2 hi3 dL_law_623 dL_law_624 rfl dL_law_625 dL_law_626 dL_law_627 rfl rfl rfl rfl rfl (fun w1 ew1 => ?_)
  refine l_arg (j := 2) (nj := 2) (q0 := 0) (q3 := 3) (pc' := 633) C hB hX hbl hbA hl rfl rfl (by decide) hi hi2 hi3 dL_law_628 dL_law_629 rfl dL_law_630 dL_law_631 dL_law_632 rfl rfl rfl rfl rfl (fun w2 ew2 => ?_)
  rw [← eu1] at ew1; have ew1 := ew1.symm; subst ew1
  rw [← eu2] at ew2; have ew2 := ew2.symm; subst ew2
  obtain ⟨⟨r2, τ⟩, hq, hp⟩ := ws_pr (s_join 70000 (by decide) σ hR u1 u2) (z_X12_join kq_rf)
  refine q_ci (pc' := 636) hB (l_runV (As := [.int u1, .int u2]) (rest := []) C hB (m_X12_join 70000 Γ l _ y ρ σ hM u1 u2 (r2, τ) hq) lb_X12_join lv_X12_join lk_L_65 hM.1 (Nat.le_of_ble_eq_true rfl) (Nat.le_of_ble_eq_true rfl) ⟨Nat.le_trans (Nat.add_le_add_right hcs.1 _) (Nat.le_of_ble_eq_true rfl), Nat.le_trans (Nat.add_le_add_right hcs.2 _) (Nat.le_of_ble_eq_true rfl)⟩ rfl hl.1 rfl (Nat.le_of_ble_eq_true rfl) dL_law_633) (fun _ _ _ => trivial) rfl (fun r3 γ H2 L2 p2 B2 => ?_)
  have hli2 := li0_mo (li_0 hli1) B2 p2.2.1 p2.2.2 hp.1.1 (lx_kq hli1.2.2.2.2.2.1 p2.2.1 hp.2 hp.1.2 hp.1.1)
  refine lv_pop hx hb dL_law_636 rfl (hp_n (n := 637) rfl ?_)
  refine lv_goto (tgt := 2391) hx hb dL_law_637 (by decide) ?_
  exact kk _ _ _ _ _ _ hli2
set_option maxRecDepth 100000 in
set_option maxHeartbeats 4000000 in
theorem lc_12 {p : Program} {l : Launch} {e : Env} {s : State} {m : MethodId} {below : List Frame} {meth : Method} {c : Code} {Γ : hp_G} {b Ln x y : Nat} {xs : Nat → Int32} {ρ : Nat → Nat} (C : hp_C Γ p m c cL_law 4 s #[Value.ref b] RL) (hX : va_X b Ln xs s s.heap) (hbl : b < s.heap.size) (hbA : ¬ hp_A Γ b) (hLn : Ln ≤ 3072) {α : hp_T} {σ : ms_T} {H : Heap} {L : List Loc} {cells slots : Nat} (hli : li Γ s x y ρ α σ H L cells slots) (i : Int32) (hi : 0 ≤ i.toInt) (hi2 : i.toInt + 6 ≤ (Ln : Int)) (ls : Array Slot) (hl : lv_has ls 4 [(0, .ref b), (1, .ref x), (2, .ref y), (3, .int i)]) (kk : ∀ (α : hp_T) (σ : ms_T) (H : Heap) (L : List Loc) (cells slots : Nat), li Γ s x y ρ α σ H L cells slots → W p l e room_1 s m #[Value.ref b] below meth c H L cells slots (lw_Z below #[Value.ref b] s) (F0 m 2391 ls [])) : W p l e room_1 s m #[Value.ref b] below meth c H L cells slots (lw_Z below #[Value.ref b] s) (F0 m 640 ls []) := by
  have hx := C.1.1
  have hb := C.1.2.1
  have hi3 : (Ln : Int) ≤ 3072 := by omega
  have hcs : cells ≤ 986 ∧ slots ≤ 148568 := by rcases hli.2.2.2.2.2.2 with ⟨-, h1, h2⟩ | ⟨-, h1, h2⟩ <;> omega
  obtain ⟨hB, hG, hKx, hM, hR, hE, hRo⟩ := id hli
  refine lv_aload_n hx hb dL_law_640 rfl (lv_at hl 1 rfl) (hp_n (n := 641) rfl ?_)
  refine q_ci (pc' := 644) hB (l_runV (As := []) (rest := []) C hB (t_X11_mark Γ l α hG x hKx ) lb_X11_mark lv_X11_mark lk_L_66 hKx (Nat.le_of_ble_eq_true rfl) (Nat.le_of_ble_eq_true rfl) ⟨Nat.le_trans (Nat.add_le_add_right hcs.1 _) (Nat.le_of_ble_eq_true rfl), Nat.le_trans (Nat.add_le_add_right hcs.2 _) (Nat.le_of_ble_eq_true rfl)⟩ rfl hl.1 rfl (Nat.le_of_ble_eq_true rfl) dL_law_641) (fun _ _ _ => trivial) rfl (fun r1 β H1 L1 p1 B1 => ?_)
  have hli1 := li_cw hli B1 p1 (by decide)
  refine lv_pop hx hb dL_law_644 rfl (hp_n (n := 645) rfl ?_)
  obtain ⟨hB, hG, hKx, hM, hR, hE, hRo⟩ := id hli1
  have hcs : cells + 0 ≤ 986 ∧ slots + 0 ≤ 148568 := by rcases hRo with ⟨-, h1, h2⟩ | ⟨-, h1, h2⟩ <;> omega
  refine lv_aload_n hx hb dL_law_645 rfl (lv_at hl 2 rfl) (hp_n (n := 646) rfl ?_)
  obtain ⟨⟨r2, τ⟩, hq, hp⟩ := ws_pr (s_mark 70000 (by decide) σ hR ) (z_X12_mark kq_rf)
  refine q_ci (pc' := 649) hB (l_runV (As := []) (rest := []) C hB (m_X12_mark 70000 Γ l _ y ρ σ hM  (r2, τ) hq) lb_X12_mark lv_X12_mark lk_L_69 hM.1 (Nat.le_of_ble_eq_true rfl) (Nat.le_of_ble_eq_true rfl) ⟨Nat.le_trans (Nat.add_le_add_right hcs.1 _) (Nat.le_of_ble_eq_true rfl), Nat.le_trans (Nat.add_le_add_right hcs.2 _) (Nat.le_of_ble_eq_true rfl)⟩ rfl hl.1 rfl (Nat.le_of_ble_eq_true rfl) dL_law_646) (fun _ _ _ => trivial) rfl (fun r3 γ H2 L2 p2 B2 => ?_)
  have hli2 := li0_mo (li_0 hli1) B2 p2.2.1 p2.2.2 hp.1.1 (lx_kq hli1.2.2.2.2.2.1 p2.2.1 hp.2 hp.1.2 hp.1.1)
  refine lv_pop hx hb dL_law_649 rfl (hp_n (n := 650) rfl ?_)
  refine lv_goto (tgt := 2391) hx hb dL_law_650 (by decide) ?_
  exact kk _ _ _ _ _ _ hli2
set_option maxRecDepth 100000 in
set_option maxHeartbeats 4000000 in
theorem lc_13 {p : Program} {l : Launch} {e : Env} {s : State} {m : MethodId} {below : List Frame} {meth : Method} {c : Code} {Γ : hp_G} {b Ln x y : Nat} {xs : Nat → Int32} {ρ : Nat → Nat} (C : hp_C Γ p m c cL_law 4 s #[Value.ref b] RL) (hX : va_X b Ln xs s s.heap) (hbl : b < s.heap.size) (hbA : ¬ hp_A Γ b) (hLn : Ln ≤ 3072) {α : hp_T} {σ : ms_T} {H : Heap} {L : List Loc} {cells slots : Nat} (hli : li Γ s x y ρ α σ H L cells slots) (i : Int32) (hi : 0 ≤ i.toInt) (hi2 : i.toInt + 6 ≤ (Ln : Int)) (ls : Array Slot) (hl : lv_has ls 4 [(0, .ref b), (1, .ref x), (2, .ref y), (3, .int i)]) (kk : ∀ (α : hp_T) (σ : ms_T) (H : Heap) (L : List Loc) (cells slots : Nat), li Γ s x y ρ α σ H L cells slots → W p l e room_1 s m #[Value.ref b] below meth c H L cells slots (lw_Z below #[Value.ref b] s) (F0 m 2391 ls [])) : W p l e room_1 s m #[Value.ref b] below meth c H L cells slots (lw_Z below #[Value.ref b] s) (F0 m 653 ls []) := by
  have hx := C.1.1
  have hb := C.1.2.1
  have hi3 : (Ln : Int) ≤ 3072 := by omega
  have hcs : cells ≤ 986 ∧ slots ≤ 148568 := by rcases hli.2.2.2.2.2.2 with ⟨-, h1, h2⟩ | ⟨-, h1, h2⟩ <;> omega
  obtain ⟨hB, hG, hKx, hM, hR, hE, hRo⟩ := id hli
  refine lv_aload_n hx hb dL_law_653 rfl (lv_at hl 1 rfl) (hp_n (n := 654) rfl ?_)
  refine l_arg (j := 1) (nj := 1) (q0 := 0) (q3 := 3) (pc' := 659) C hB hX hbl hbA hl rfl rfl (by decide) hi hi2 hi3 dL_law_654 dL_law_655 rfl dL_law_656 dL_law_657 dL_law_658 rfl rfl rfl rfl rfl (fun u1 eu1 => ?_)
  refine l_arg (j := 2) (nj := 2) (q0 := 0) (q3 := 3) (pc' := 664) C hB hX hbl hbA hl rfl rfl (by decide) hi hi2 hi3 dL_law_659 dL_law_660 rfl dL_law_661 dL_law_662 dL_law_663 rfl rfl rfl rfl rfl (fun u2 eu2 => ?_)
  refine q_ci (pc' := 667) hB (l_runV (As := [.int u1, .int u2]) (rest := []) C hB (t_X11_frozen Γ l α hG x hKx u1 u2) lb_X11_frozen lv_X11_frozen lk_L_70 hKx (Nat.le_of_ble_eq_true rfl) (Nat.le_of_ble_eq_true rfl) ⟨Nat.le_trans (Nat.add_le_add_right hcs.1 _) (Nat.le_of_ble_eq_true rfl), Nat.le_trans (Nat.add_le_add_right hcs.2 _) (Nat.le_of_ble_eq_true rfl)⟩ rfl hl.1 rfl (Nat.le_of_ble_eq_true rfl) dL_law_664) (fun _ _ _ => trivial) rfl (fun r1 β H1 L1 p1 B1 => ?_)
  have hli1 := li_cw hli B1 p1 (by decide)
  refine lv_pop hx hb dL_law_667 rfl (hp_n (n := 668) rfl ?_)
  obtain ⟨hB, hG, hKx, hM, hR, hE, hRo⟩ := id hli1
  have hcs : cells + 0 ≤ 986 ∧ slots + 0 ≤ 148568 := by rcases hRo with ⟨-, h1, h2⟩ | ⟨-, h1, h2⟩ <;> omega
  refine lv_aload_n hx hb dL_law_668 rfl (lv_at hl 2 rfl) (hp_n (n := 669) rfl ?_)
  refine l_arg (j := 1) (nj := 1) (q0 := 0) (q3 := 3) (pc' := 674) C hB hX hbl hbA hl rfl rfl (by decide) hi hi2 hi3 dL_law_669 dL_law_670 rfl dL_law_671 dL_law_672 dL_law_673 rfl rfl rfl rfl rfl (fun w1 ew1 => ?_)
  refine l_arg (j := 2) (nj := 2) (q0 := 0) (q3 := 3) (pc' := 679) C hB hX hbl hbA hl rfl rfl (by decide) hi hi2 hi3 dL_law_674 dL_law_675 rfl dL_law_676 dL_law_677 dL_law_678 rfl rfl rfl rfl rfl (fun w2 ew2 => ?_)
  rw [← eu1] at ew1; have ew1 := ew1.symm; subst ew1
  rw [← eu2] at ew2; have ew2 := ew2.symm; subst ew2
  obtain ⟨⟨r2, τ⟩, hq, hp⟩ := ws_pr (s_frozen 70000 (by decide) σ hR u1 u2) (z_X12_frozen kq_rf)
  refine q_ci (pc' := 682) hB (l_runV (As := [.int u1, .int u2]) (rest := []) C hB (m_X12_frozen 70000 Γ l _ y ρ σ hM u1 u2 (r2, τ) hq) lb_X12_frozen lv_X12_frozen lk_L_73 hM.1 (Nat.le_of_ble_eq_true rfl) (Nat.le_of_ble_eq_true rfl) ⟨Nat.le_trans (Nat.add_le_add_right hcs.1 _) (Nat.le_of_ble_eq_true rfl), Nat.le_trans (Nat.add_le_add_right hcs.2 _) (Nat.le_of_ble_eq_true rfl)⟩ rfl hl.1 rfl (Nat.le_of_ble_eq_true rfl) dL_law_679) (fun _ _ _ => trivial) rfl (fun r3 γ H2 L2 p2 B2 => ?_)
  have hli2 := li0_mo (li_0 hli1) B2 p2.2.1 p2.2.2 hp.1.1 (lx_kq hli1.2.2.2.2.2.1 p2.2.1 hp.2 hp.1.2 hp.1.1)
  refine lv_pop hx hb dL_law_682 rfl (hp_n (n := 683) rfl ?_)
  refine lv_goto (tgt := 2391) hx hb dL_law_683 (by decide) ?_
  exact kk _ _ _ _ _ _ hli2
set_option maxRecDepth 100000 in
set_option maxHeartbeats 4000000 in
theorem lc_14 {p : Program} {l : Launch} {e : Env} {s : State} {m : MethodId} {below : List Frame} {meth : Method} {c : Code} {Γ : hp_G} {b Ln x y : Nat} {xs : Nat → Int32} {ρ : Nat → Nat} (C : hp_C Γ p m c cL_law 4 s #[Value.ref b] RL) (hX : va_X b Ln xs s s.heap) (hbl : b < s.heap.size) (hbA : ¬ hp_A Γ b) (hLn : Ln ≤ 3072) {α : hp_T} {σ : ms_T} {H : Heap} {L : List Loc} {cells slots : Nat} (hli : li Γ s x y ρ α σ H L cells slots) (i : Int32) (hi : 0 ≤ i.toInt) (hi2 : i.toInt + 6 ≤ (Ln : Int)) (ls : Array Slot) (hl : lv_has ls 4 [(0, .ref b), (1, .ref x), (2, .ref y), (3, .int i)]) (kk : ∀ (α : hp_T) (σ : ms_T) (H : Heap) (L : List Loc) (cells slots : Nat), li Γ s x y ρ α σ H L cells slots → W p l e room_1 s m #[Value.ref b] below meth c H L cells slots (lw_Z below #[Value.ref b] s) (F0 m 2391 ls [])) : W p l e room_1 s m #[Value.ref b] below meth c H L cells slots (lw_Z below #[Value.ref b] s) (F0 m 686 ls []) := by
  have hx := C.1.1
  have hb := C.1.2.1
  have hi3 : (Ln : Int) ≤ 3072 := by omega
  have hcs : cells ≤ 986 ∧ slots ≤ 148568 := by rcases hli.2.2.2.2.2.2 with ⟨-, h1, h2⟩ | ⟨-, h1, h2⟩ <;> omega
  obtain ⟨hB, hG, hKx, hM, hR, hE, hRo⟩ := id hli
  refine lv_aload_n hx hb dL_law_686 rfl (lv_at hl 1 rfl) (hp_n (n := 687) rfl ?_)
  refine l_arg (j := 1) (nj := 1) (q0 := 0) (q3 := 3) (pc' := 692) C hB hX hbl hbA hl rfl rfl (by decide) hi hi2 hi3 dL_law_687 dL_law_688 rfl dL_law_689 dL_law_690 dL_law_691 rfl rfl rfl rfl rfl (fun u1 eu1 => ?_)
  refine l_arg (j := 2) (nj := 2) (q0 := 0) (q3 := 3) (pc' := 697) C hB hX hbl hbA hl rfl rfl (by decide) hi hi2 hi3 dL_law_692 dL_law_693 rfl dL_law_694 dL_law_695 dL_law_696 rfl rfl rfl rfl rfl (fun u2 eu2 => ?_)
  refine q_ci (pc' := 700) hB (l_runV (As := [.int u1, .int u2]) (rest := []) C hB (t_X11_watcher Γ l α hG x hKx u1 u2) lb_X11_watcher lv_X11_watcher lk_L_74 hKx (Nat.le_of_ble_eq_true rfl) (Nat.le_of_ble_eq_true rfl) ⟨Nat.le_trans (Nat.add_le_add_right hcs.1 _) (Nat.le_of_ble_eq_true rfl), Nat.le_trans (Nat.add_le_add_right hcs.2 _) (Nat.le_of_ble_eq_true rfl)⟩ rfl hl.1 rfl (Nat.le_of_ble_eq_true rfl) dL_law_697) (fun _ _ _ => trivial) rfl (fun r1 β H1 L1 p1 B1 => ?_)
  have hli1 := li_cw hli B1 p1 (by decide)
  refine lv_pop hx hb dL_law_700 rfl (hp_n (n := 701) rfl ?_)
  obtain ⟨hB, hG, hKx, hM, hR, hE, hRo⟩ := id hli1
  have hcs : cells + 0 ≤ 986 ∧ slots + 0 ≤ 148568 := by rcases hRo with ⟨-, h1, h2⟩ | ⟨-, h1, h2⟩ <;> omega
  refine lv_aload_n hx hb dL_law_701 rfl (lv_at hl 2 rfl) (hp_n (n := 702) rfl ?_)
  refine l_arg (j := 1) (nj := 1) (q0 := 0) (q3 := 3) (pc' := 707) C hB hX hbl hbA hl rfl rfl (by decide) hi hi2 hi3 dL_law_702 dL_law_703 rfl dL_law_704 dL_law_705 dL_law_706 rfl rfl rfl rfl rfl (fun w1 ew1 => ?_)
  refine l_arg (j := 2) (nj := 2) (q0 := 0) (q3 := 3) (pc' := 712) C hB hX hbl hbA hl rfl rfl (by decide) hi hi2 hi3 dL_law_707 dL_law_708 rfl dL_law_709 dL_law_710 dL_law_711 rfl rfl rfl rfl rfl (fun w2 ew2 => ?_)
  rw [← eu1] at ew1; have ew1 := ew1.symm; subst ew1
  rw [← eu2] at ew2; have ew2 := ew2.symm; subst ew2
  obtain ⟨⟨r2, τ⟩, hq, hp⟩ := ws_pr (s_watcher 70000 (by decide) σ hR u1 u2) (z_X12_watcher kq_rf)
  refine q_ci (pc' := 715) hB (l_runV (As := [.int u1, .int u2]) (rest := []) C hB (m_X12_watcher 70000 Γ l _ y ρ σ hM u1 u2 (r2, τ) hq) lb_X12_watcher lv_X12_watcher lk_L_77 hM.1 (Nat.le_of_ble_eq_true rfl) (Nat.le_of_ble_eq_true rfl) ⟨Nat.le_trans (Nat.add_le_add_right hcs.1 _) (Nat.le_of_ble_eq_true rfl), Nat.le_trans (Nat.add_le_add_right hcs.2 _) (Nat.le_of_ble_eq_true rfl)⟩ rfl hl.1 rfl (Nat.le_of_ble_eq_true rfl) dL_law_712) (fun _ _ _ => trivial) rfl (fun r3 γ H2 L2 p2 B2 => ?_)
  have hli2 := li0_mo (li_0 hli1) B2 p2.2.1 p2.2.2 hp.1.1 (lx_kq hli1.2.2.2.2.2.1 p2.2.1 hp.2 hp.1.2 hp.1.1)
  refine lv_pop hx hb dL_law_715 rfl (hp_n (n := 716) rfl ?_)
  refine lv_goto (tgt := 2391) hx hb dL_law_716 (by decide) ?_
  exact kk _ _ _ _ _ _ hli2
set_option maxRecDepth 100000 in
set_option maxHeartbeats 4000000 in
theorem lc_15 {p : Program} {l : Launch} {e : Env} {s : State} {m : MethodId} {below : List Frame} {meth : Method} {c : Code} {Γ : hp_G} {b Ln x y : Nat} {xs : Nat → Int32} {ρ : Nat → Nat} (C : hp_C Γ p m c cL_law 4 s #[Value.ref b] RL) (hX : va_X b Ln xs s s.heap) (hbl : b < s.heap.size) (hbA : ¬ hp_A Γ b) (hLn : Ln ≤ 3072) {α : hp_T} {σ : ms_T} {H : Heap} {L : List Loc} {cells slots : Nat} (hli : li Γ s x y ρ α σ H L cells slots) (i : Int32) (hi : 0 ≤ i.toInt) (hi2 : i.toInt + 6 ≤ (Ln : Int)) (ls : Array Slot) (hl : lv_has ls 4 [(0, .ref b), (1, .ref x), (2, .ref y), (3, .int i)]) (kk : ∀ (α : hp_T) (σ : ms_T) (H : Heap) (L : List Loc) (cells slots : Nat), li Γ s x y ρ α σ H L cells slots → W p l e room_1 s m #[Value.ref b] below meth c H L cells slots (lw_Z below #[Value.ref b] s) (F0 m 2391 ls [])) : W p l e room_1 s m #[Value.ref b] below meth c H L cells slots (lw_Z below #[Value.ref b] s) (F0 m 719 ls []) := by
  have hx := C.1.1
  have hb := C.1.2.1
  have hi3 : (Ln : Int) ≤ 3072 := by omega
  have hcs : cells ≤ 986 ∧ slots ≤ 148568 := by rcases hli.2.2.2.2.2.2 with ⟨-, h1, h2⟩ | ⟨-, h1, h2⟩ <;> omega
  obtain ⟨hB, hG, hKx, hM, hR, hE, hRo⟩ := id hli
  refine lv_aload_n hx hb dL_law_719 rfl (lv_at hl 1 rfl) (hp_n (n := 720) rfl ?_)
  refine l_arg (j := 1) (nj := 1) (q0 := 0) (q3 := 3) (pc' := 725) C hB hX hbl hbA hl rfl rfl (by decide) hi hi2 hi3 dL_law_720 dL_law_721 rfl dL_law_722 dL_law_723 dL_law_724 rfl rfl rfl rfl rfl (fun u1 eu1 => ?_)
  obtain ⟨tl, hty, htc⟩ := hE.2.2.2.2.2
  obtain ⟨res1, hq1, hv1, hv2, hv3⟩ := k_add 70000 (by decide) α x (ms_E σ 40) hR.2 (RWX_Z hG hE.2.2.1) tl htc u1
  refine q_ci (pc' := 728) hB (l_runV (As := [.int u1]) (rest := []) C hB (n_X11_add 70000 Γ l α hG x hKx u1 res1 hq1) lb_X11_add lv_X11_add lk_L_78 hKx (Nat.le_of_ble_eq_true rfl) (Nat.le_of_ble_eq_true rfl) ⟨Nat.le_trans (Nat.add_le_add_right hcs.1 _) (Nat.le_of_ble_eq_true rfl), Nat.le_trans (Nat.add_le_add_right hcs.2 _) (Nat.le_of_ble_eq_true rfl)⟩ rfl hl.1 rfl (Nat.le_of_ble_eq_true rfl) dL_law_725) (fun _ _ _ => trivial) rfl (fun r1 β H1 L1 p1 B1 => ?_)
  have hli1 := li0_cw hli B1 p1.2.2 (by decide)
  refine lv_pop hx hb dL_law_728 rfl (hp_n (n := 729) rfl ?_)
  obtain ⟨hB, hG, hKx, hM, hR, hE, hRo⟩ := id hli1
  have hcs : cells + 0 ≤ 986 ∧ slots + 0 ≤ 148568 := by rcases hRo with ⟨-, h1, h2⟩ | ⟨-, h1, h2⟩ <;> omega
  refine lv_aload_n hx hb dL_law_729 rfl (lv_at hl 2 rfl) (hp_n (n := 730) rfl ?_)
  refine l_arg (j := 1) (nj := 1) (q0 := 0) (q3 := 3) (pc' := 735) C hB hX hbl hbA hl rfl rfl (by decide) hi hi2 hi3 dL_law_730 dL_law_731 rfl dL_law_732 dL_law_733 dL_law_734 rfl rfl rfl rfl rfl (fun w1 ew1 => ?_)
  rw [← eu1] at ew1; have ew1 := ew1.symm; subst ew1
  obtain ⟨⟨r2, τ⟩, hq, hp⟩ := ws_pr (ws_pr (s_add 70000 (by decide) σ hR u1) (v_add 70000 σ hR.2 tl hty u1)) (y_X12_add kt_rf)
  refine q_ci (pc' := 738) hB (l_runV (As := [.int u1]) (rest := []) C hB (m_X12_add 70000 Γ l _ y ρ σ hM u1 (r2, τ) hq) lb_X12_add lv_X12_add lk_L_81 hM.1 (Nat.le_of_ble_eq_true rfl) (Nat.le_of_ble_eq_true rfl) ⟨Nat.le_trans (Nat.add_le_add_right hcs.1 _) (Nat.le_of_ble_eq_true rfl), Nat.le_trans (Nat.add_le_add_right hcs.2 _) (Nat.le_of_ble_eq_true rfl)⟩ rfl hl.1 rfl (Nat.le_of_ble_eq_true rfl) dL_law_735) (fun _ _ _ => trivial) rfl (fun r3 γ H2 L2 p2 B2 => ?_)
  have hli2 := li0_mo hli1 B2 p2.2.1 p2.2.2 hp.1.1.1 (LX_mo (LX_wfs hli.2.2.2.2.2.1 (by rw [p1.2.1]; exact hv2 _ hp.1.1.1.2 hp.1.2.2) hp.1.1.1.2 (AL_ad hR.2 hli.2.2.2.2.2.1.2.2.2.1 hp.1.2.2) (by rw [p1.2.1]; exact hv3) hp.2 hp.1.1.2) p2.2.1)
  refine lv_pop hx hb dL_law_738 rfl (hp_n (n := 739) rfl ?_)
  refine lv_goto (tgt := 2391) hx hb dL_law_739 (by decide) ?_
  exact kk _ _ _ _ _ _ hli2
set_option maxRecDepth 100000 in
set_option maxHeartbeats 4000000 in
theorem lc_16 {p : Program} {l : Launch} {e : Env} {s : State} {m : MethodId} {below : List Frame} {meth : Method} {c : Code} {Γ : hp_G} {b Ln x y : Nat} {xs : Nat → Int32} {ρ : Nat → Nat} (C : hp_C Γ p m c cL_law 4 s #[Value.ref b] RL) (hX : va_X b Ln xs s s.heap) (hbl : b < s.heap.size) (hbA : ¬ hp_A Γ b) (hLn : Ln ≤ 3072) {α : hp_T} {σ : ms_T} {H : Heap} {L : List Loc} {cells slots : Nat} (hli : li Γ s x y ρ α σ H L cells slots) (i : Int32) (hi : 0 ≤ i.toInt) (hi2 : i.toInt + 6 ≤ (Ln : Int)) (ls : Array Slot) (hl : lv_has ls 4 [(0, .ref b), (1, .ref x), (2, .ref y), (3, .int i)]) (kk : ∀ (α : hp_T) (σ : ms_T) (H : Heap) (L : List Loc) (cells slots : Nat), li Γ s x y ρ α σ H L cells slots → W p l e room_1 s m #[Value.ref b] below meth c H L cells slots (lw_Z below #[Value.ref b] s) (F0 m 2391 ls [])) : W p l e room_1 s m #[Value.ref b] below meth c H L cells slots (lw_Z below #[Value.ref b] s) (F0 m 742 ls []) := by
  have hx := C.1.1
  have hb := C.1.2.1
  have hi3 : (Ln : Int) ≤ 3072 := by omega
  have hcs : cells ≤ 986 ∧ slots ≤ 148568 := by rcases hli.2.2.2.2.2.2 with ⟨-, h1, h2⟩ | ⟨-, h1, h2⟩ <;> omega
  obtain ⟨hB, hG, hKx, hM, hR, hE, hRo⟩ := id hli
  refine lv_aload_n hx hb dL_law_742 rfl (lv_at hl 1 rfl) (hp_n (n := 743) rfl ?_)
  refine l_arg (j := 1) (nj := 1) (q0 := 0) (q3 := 3) (pc' := 748) C hB hX hbl hbA hl rfl rfl (by decide) hi hi2 hi3 dL_law_743 dL_law_744 rfl dL_law_745 dL_law_746 dL_law_747 rfl rfl rfl rfl rfl (fun u1 eu1 => ?_)
  refine l_arg (j := 2) (nj := 2) (q0 := 0) (q3 := 3) (pc' := 753) C hB hX hbl hbA hl rfl rfl (by decide) hi hi2 hi3 dL_law_748 dL_law_749 rfl dL_law_750 dL_law_751 dL_law_752 rfl rfl rfl rfl rfl (fun u2 eu2 => ?_)
  obtain ⟨res1, hq1, hv1, hv2, hv3⟩ := k_fork 70000 (by decide) α x (ms_E σ 40) hR.2 (RWX_Z hG hE.2.2.1) u1 u2
  refine q_ci (pc' := 756) hB (l_runV (As := [.int u1, .int u2]) (rest := []) C hB (n_X11_fork 70000 Γ l α hG x hKx u1 u2 res1 hq1) lb_X11_fork lv_X11_fork lk_L_82 hKx (Nat.le_of_ble_eq_true rfl) (Nat.le_of_ble_eq_true rfl) ⟨Nat.le_trans (Nat.add_le_add_right hcs.1 _) (Nat.le_of_ble_eq_true rfl), Nat.le_trans (Nat.add_le_add_right hcs.2 _) (Nat.le_of_ble_eq_true rfl)⟩ rfl hl.1 rfl (Nat.le_of_ble_eq_true rfl) dL_law_753) (fun _ _ _ => trivial) rfl (fun r1 β H1 L1 p1 B1 => ?_)
  have hli1 := li0_cw hli B1 p1.2.2 (by decide)
  refine lv_pop hx hb dL_law_756 rfl (hp_n (n := 757) rfl ?_)
  obtain ⟨hB, hG, hKx, hM, hR, hE, hRo⟩ := id hli1
  have hcs : cells + 0 ≤ 986 ∧ slots + 0 ≤ 148568 := by rcases hRo with ⟨-, h1, h2⟩ | ⟨-, h1, h2⟩ <;> omega
  refine lv_aload_n hx hb dL_law_757 rfl (lv_at hl 2 rfl) (hp_n (n := 758) rfl ?_)
  refine l_arg (j := 1) (nj := 1) (q0 := 0) (q3 := 3) (pc' := 763) C hB hX hbl hbA hl rfl rfl (by decide) hi hi2 hi3 dL_law_758 dL_law_759 rfl dL_law_760 dL_law_761 dL_law_762 rfl rfl rfl rfl rfl (fun w1 ew1 => ?_)
  refine l_arg (j := 2) (nj := 2) (q0 := 0) (q3 := 3) (pc' := 768) C hB hX hbl hbA hl rfl rfl (by decide) hi hi2 hi3 dL_law_763 dL_law_764 rfl dL_law_765 dL_law_766 dL_law_767 rfl rfl rfl rfl rfl (fun w2 ew2 => ?_)
  rw [← eu1] at ew1; have ew1 := ew1.symm; subst ew1
  rw [← eu2] at ew2; have ew2 := ew2.symm; subst ew2
  obtain ⟨⟨r2, τ⟩, hq, hp⟩ := ws_pr (ws_pr (s_fork 70000 (by decide) σ hR u1 u2) (v_fork 70000 σ hR.2 u1 u2)) (y_X12_fork kt_rf)
  refine q_ci (pc' := 771) hB (l_runV (As := [.int u1, .int u2]) (rest := []) C hB (m_X12_fork 70000 Γ l _ y ρ σ hM u1 u2 (r2, τ) hq) lb_X12_fork lv_X12_fork lk_L_85 hM.1 (Nat.le_of_ble_eq_true rfl) (Nat.le_of_ble_eq_true rfl) ⟨Nat.le_trans (Nat.add_le_add_right hcs.1 _) (Nat.le_of_ble_eq_true rfl), Nat.le_trans (Nat.add_le_add_right hcs.2 _) (Nat.le_of_ble_eq_true rfl)⟩ rfl hl.1 rfl (Nat.le_of_ble_eq_true rfl) dL_law_768) (fun _ _ _ => trivial) rfl (fun r3 γ H2 L2 p2 B2 => ?_)
  have hli2 := li0_mo hli1 B2 p2.2.1 p2.2.2 hp.1.1.1 (LX_mo (LX_wfs hli.2.2.2.2.2.1 (by rw [p1.2.1]; exact hv2 _ hp.1.1.1.2 hp.1.2.2) hp.1.1.1.2 (AL_fo hR.2 hli.2.2.2.2.2.1.2.2.2.1 hp.1.2.2) (by rw [p1.2.1]; exact hv3) hp.2 hp.1.1.2) p2.2.1)
  refine lv_pop hx hb dL_law_771 rfl (hp_n (n := 772) rfl ?_)
  refine lv_goto (tgt := 2391) hx hb dL_law_772 (by decide) ?_
  exact kk _ _ _ _ _ _ hli2
set_option maxRecDepth 100000 in
set_option maxHeartbeats 4000000 in
theorem lc_17 {p : Program} {l : Launch} {e : Env} {s : State} {m : MethodId} {below : List Frame} {meth : Method} {c : Code} {Γ : hp_G} {b Ln x y : Nat} {xs : Nat → Int32} {ρ : Nat → Nat} (C : hp_C Γ p m c cL_law 4 s #[Value.ref b] RL) (hX : va_X b Ln xs s s.heap) (hbl : b < s.heap.size) (hbA : ¬ hp_A Γ b) (hLn : Ln ≤ 3072) {α : hp_T} {σ : ms_T} {H : Heap} {L : List Loc} {cells slots : Nat} (hli : li Γ s x y ρ α σ H L cells slots) (i : Int32) (hi : 0 ≤ i.toInt) (hi2 : i.toInt + 6 ≤ (Ln : Int)) (ls : Array Slot) (hl : lv_has ls 4 [(0, .ref b), (1, .ref x), (2, .ref y), (3, .int i)]) (kk : ∀ (α : hp_T) (σ : ms_T) (H : Heap) (L : List Loc) (cells slots : Nat), li Γ s x y ρ α σ H L cells slots → W p l e room_1 s m #[Value.ref b] below meth c H L cells slots (lw_Z below #[Value.ref b] s) (F0 m 2391 ls [])) : W p l e room_1 s m #[Value.ref b] below meth c H L cells slots (lw_Z below #[Value.ref b] s) (F0 m 775 ls []) := by
  have hx := C.1.1
  have hb := C.1.2.1
  have hi3 : (Ln : Int) ≤ 3072 := by omega
  have hcs : cells ≤ 986 ∧ slots ≤ 148568 := by rcases hli.2.2.2.2.2.2 with ⟨-, h1, h2⟩ | ⟨-, h1, h2⟩ <;> omega
  obtain ⟨hB, hG, hKx, hM, hR, hE, hRo⟩ := id hli
  refine lv_aload_n hx hb dL_law_775 rfl (lv_at hl 1 rfl) (hp_n (n := 776) rfl ?_)
  refine l_arg (j := 1) (nj := 1) (q0 := 0) (q3 := 3) (pc' := 781) C hB hX hbl hbA hl rfl rfl (by decide) hi hi2 hi3 dL_law_776 dL_law_777 rfl dL_law_778 dL_law_779 dL_law_780 rfl rfl rfl rfl rfl (fun u1 eu1 => ?_)
  obtain ⟨res1, hq1, hv1, hv2, hv3⟩ := k_freeze 70000 (by decide) α x (ms_E σ 40) hR.2 (RWX_Z hG hE.2.2.1) u1
  refine q_ci (pc' := 784) hB (l_runV (As := [.int u1]) (rest := []) C hB (n_X11_freeze 70000 Γ l α hG x hKx u1 res1 hq1) lb_X11_freeze lv_X11_freeze lk_L_86 hKx (Nat.le_of_ble_eq_true rfl) (Nat.le_of_ble_eq_true rfl) ⟨Nat.le_trans (Nat.add_le_add_right hcs.1 _) (Nat.le_of_ble_eq_true rfl), Nat.le_trans (Nat.add_le_add_right hcs.2 _) (Nat.le_of_ble_eq_true rfl)⟩ rfl hl.1 rfl (Nat.le_of_ble_eq_true rfl) dL_law_781) (fun _ _ _ => trivial) rfl (fun r1 β H1 L1 p1 B1 => ?_)
  have hli1 := li0_cw hli B1 p1.2.2 (by decide)
  refine lv_pop hx hb dL_law_784 rfl (hp_n (n := 785) rfl ?_)
  obtain ⟨hB, hG, hKx, hM, hR, hE, hRo⟩ := id hli1
  have hcs : cells + 0 ≤ 986 ∧ slots + 0 ≤ 148568 := by rcases hRo with ⟨-, h1, h2⟩ | ⟨-, h1, h2⟩ <;> omega
  refine lv_aload_n hx hb dL_law_785 rfl (lv_at hl 2 rfl) (hp_n (n := 786) rfl ?_)
  refine l_arg (j := 1) (nj := 1) (q0 := 0) (q3 := 3) (pc' := 791) C hB hX hbl hbA hl rfl rfl (by decide) hi hi2 hi3 dL_law_786 dL_law_787 rfl dL_law_788 dL_law_789 dL_law_790 rfl rfl rfl rfl rfl (fun w1 ew1 => ?_)
  rw [← eu1] at ew1; have ew1 := ew1.symm; subst ew1
  obtain ⟨⟨r2, τ⟩, hq, hp⟩ := ws_pr (ws_pr (s_freeze 70000 (by decide) σ hR u1) (v_freeze 70000 σ hR.2 u1)) (y_X12_freeze kt_rf)
  refine q_ci (pc' := 794) hB (l_runV (As := [.int u1]) (rest := []) C hB (m_X12_freeze 70000 Γ l _ y ρ σ hM u1 (r2, τ) hq) lb_X12_freeze lv_X12_freeze lk_L_89 hM.1 (Nat.le_of_ble_eq_true rfl) (Nat.le_of_ble_eq_true rfl) ⟨Nat.le_trans (Nat.add_le_add_right hcs.1 _) (Nat.le_of_ble_eq_true rfl), Nat.le_trans (Nat.add_le_add_right hcs.2 _) (Nat.le_of_ble_eq_true rfl)⟩ rfl hl.1 rfl (Nat.le_of_ble_eq_true rfl) dL_law_791) (fun _ _ _ => trivial) rfl (fun r3 γ H2 L2 p2 B2 => ?_)
  have hli2 := li0_mo hli1 B2 p2.2.1 p2.2.2 hp.1.1.1 (LX_mo (LX_wfs hli.2.2.2.2.2.1 (by rw [p1.2.1]; exact hv2 _ hp.1.1.1.2 hp.1.2.2) hp.1.1.1.2 (AL_fz hR.2 hli.2.2.2.2.2.1.2.2.2.1 hp.1.2.2) (by rw [p1.2.1]; exact hv3) hp.2 hp.1.1.2) p2.2.1)
  refine lv_pop hx hb dL_law_794 rfl (hp_n (n := 795) rfl ?_)
  refine lv_goto (tgt := 2391) hx hb dL_law_795 (by decide) ?_
  exact kk _ _ _ _ _ _ hli2
set_option maxRecDepth 100000 in
set_option maxHeartbeats 4000000 in
theorem lc_18 {p : Program} {l : Launch} {e : Env} {s : State} {m : MethodId} {below : List Frame} {meth : Method} {c : Code} {Γ : hp_G} {b Ln x y : Nat} {xs : Nat → Int32} {ρ : Nat → Nat} (C : hp_C Γ p m c cL_law 4 s #[Value.ref b] RL) (hX : va_X b Ln xs s s.heap) (hbl : b < s.heap.size) (hbA : ¬ hp_A Γ b) (hLn : Ln ≤ 3072) {α : hp_T} {σ : ms_T} {H : Heap} {L : List Loc} {cells slots : Nat} (hli : li Γ s x y ρ α σ H L cells slots) (i : Int32) (hi : 0 ≤ i.toInt) (hi2 : i.toInt + 6 ≤ (Ln : Int)) (ls : Array Slot) (hl : lv_has ls 4 [(0, .ref b), (1, .ref x), (2, .ref y), (3, .int i)]) (kk : ∀ (α : hp_T) (σ : ms_T) (H : Heap) (L : List Loc) (cells slots : Nat), li Γ s x y ρ α σ H L cells slots → W p l e room_1 s m #[Value.ref b] below meth c H L cells slots (lw_Z below #[Value.ref b] s) (F0 m 2391 ls [])) : W p l e room_1 s m #[Value.ref b] below meth c H L cells slots (lw_Z below #[Value.ref b] s) (F0 m 798 ls []) := by
  have hx := C.1.1
  have hb := C.1.2.1
  have hi3 : (Ln : Int) ≤ 3072 := by omega
  have hcs : cells ≤ 986 ∧ slots ≤ 148568 := by rcases hli.2.2.2.2.2.2 with ⟨-, h1, h2⟩ | ⟨-, h1, h2⟩ <;> omega
  obtain ⟨hB, hG, hKx, hM, hR, hE, hRo⟩ := id hli
  refine lv_aload_n hx hb dL_law_798 rfl (lv_at hl 1 rfl) (hp_n (n := 799) rfl ?_)
  refine l_arg (j := 1) (nj := 1) (q0 := 0) (q3 := 3) (pc' := 804) C hB hX hbl hbA hl rfl rfl (by decide) hi hi2 hi3 dL_law_799 dL_law_800 rfl dL_law_801 dL_law_802 dL_law_803 rfl rfl rfl rfl rfl (fun u1 eu1 => ?_)
  refine l_arg (j := 2) (nj := 2) (q0 := 0) (q3 := 3) (pc' := 809) C hB hX hbl hbA hl rfl rfl (by decide) hi hi2 hi3 dL_law_804 dL_law_805 rfl dL_law_806 dL_law_807 dL_law_808 rfl rfl rfl rfl rfl (fun u2 eu2 => ?_)
  refine l_arg (j := 3) (nj := 3) (q0 := 0) (q3 := 3) (pc' := 814) C hB hX hbl hbA hl rfl rfl (by decide) hi hi2 hi3 dL_law_809 dL_law_810 rfl dL_law_811 dL_law_812 dL_law_813 rfl rfl rfl rfl rfl (fun u3 eu3 => ?_)
  obtain ⟨res1, hq1, hv1, hv2, hv3⟩ := k_show 70000 (by decide) α x (ms_E σ 40) hR.2 hE.2.2.2.1 (RWX_Z hG hE.2.2.1) u1 u2 u3
  refine q_ci (pc' := 817) hB (l_runV (As := [.int u1, .int u2, .int u3]) (rest := []) C hB (n_X11_show 70000 Γ l α hG x hKx u1 u2 u3 res1 hq1) lb_X11_show lv_X11_show lk_L_90 hKx (Nat.le_of_ble_eq_true rfl) (Nat.le_of_ble_eq_true rfl) ⟨Nat.le_trans (Nat.add_le_add_right hcs.1 _) (Nat.le_of_ble_eq_true rfl), Nat.le_trans (Nat.add_le_add_right hcs.2 _) (Nat.le_of_ble_eq_true rfl)⟩ rfl hl.1 rfl (Nat.le_of_ble_eq_true rfl) dL_law_814) (fun _ _ _ => trivial) rfl (fun r1 β H1 L1 p1 B1 => ?_)
  have hli1 := li0_cw hli B1 p1.2.2 (by decide)
  refine lv_pop hx hb dL_law_817 rfl (hp_n (n := 818) rfl ?_)
  obtain ⟨hB, hG, hKx, hM, hR, hE, hRo⟩ := id hli1
  have hcs : cells + 0 ≤ 986 ∧ slots + 0 ≤ 148568 := by rcases hRo with ⟨-, h1, h2⟩ | ⟨-, h1, h2⟩ <;> omega
  refine lv_aload_n hx hb dL_law_818 rfl (lv_at hl 2 rfl) (hp_n (n := 819) rfl ?_)
  refine l_arg (j := 1) (nj := 1) (q0 := 0) (q3 := 3) (pc' := 824) C hB hX hbl hbA hl rfl rfl (by decide) hi hi2 hi3 dL_law_819 dL_law_820 rfl dL_law_821 dL_law_822 dL_law_823 rfl rfl rfl rfl rfl (fun w1 ew1 => ?_)
  refine l_arg (j := 2) (nj := 2) (q0 := 0) (q3 := 3) (pc' := 829) C hB hX hbl hbA hl rfl rfl (by decide) hi hi2 hi3 dL_law_824 dL_law_825 rfl dL_law_826 dL_law_827 dL_law_828 rfl rfl rfl rfl rfl (fun w2 ew2 => ?_)
  refine l_arg (j := 3) (nj := 3) (q0 := 0) (q3 := 3) (pc' := 834) C hB hX hbl hbA hl rfl rfl (by decide) hi hi2 hi3 dL_law_829 dL_law_830 rfl dL_law_831 dL_law_832 dL_law_833 rfl rfl rfl rfl rfl (fun w3 ew3 => ?_)
  rw [← eu1] at ew1; have ew1 := ew1.symm; subst ew1
  rw [← eu2] at ew2; have ew2 := ew2.symm; subst ew2
  rw [← eu3] at ew3; have ew3 := ew3.symm; subst ew3
  obtain ⟨⟨r2, τ⟩, hq, hp⟩ := ws_pr (ws_pr (s_show 70000 (by decide) σ hR u1 u2 u3) (v_show 70000 σ hR.2 u1 u2 u3)) (y_X12_show kt_rf)
  refine q_ci (pc' := 837) hB (l_runV (As := [.int u1, .int u2, .int u3]) (rest := []) C hB (m_X12_show 70000 Γ l _ y ρ σ hM u1 u2 u3 (r2, τ) hq) lb_X12_show lv_X12_show lk_L_93 hM.1 (Nat.le_of_ble_eq_true rfl) (Nat.le_of_ble_eq_true rfl) ⟨Nat.le_trans (Nat.add_le_add_right hcs.1 _) (Nat.le_of_ble_eq_true rfl), Nat.le_trans (Nat.add_le_add_right hcs.2 _) (Nat.le_of_ble_eq_true rfl)⟩ rfl hl.1 rfl (Nat.le_of_ble_eq_true rfl) dL_law_834) (fun _ _ _ => trivial) rfl (fun r3 γ H2 L2 p2 B2 => ?_)
  have hli2 := li0_mo hli1 B2 p2.2.1 p2.2.2 hp.1.1.1 (LX_mo (LX_wfs hli.2.2.2.2.2.1 (by rw [p1.2.1]; exact hv2 _ hp.1.1.1.2 hp.1.2.2) hp.1.1.1.2 (AL_sh hR.2 hli.2.2.2.2.2.1.2.2.2.1 hp.1.2.2) (by rw [p1.2.1]; exact hv3) hp.2 hp.1.1.2) p2.2.1)
  refine lv_pop hx hb dL_law_837 rfl (hp_n (n := 838) rfl ?_)
  refine lv_goto (tgt := 2391) hx hb dL_law_838 (by decide) ?_
  exact kk _ _ _ _ _ _ hli2
set_option maxRecDepth 100000 in
set_option maxHeartbeats 4000000 in
theorem lc_19 {p : Program} {l : Launch} {e : Env} {s : State} {m : MethodId} {below : List Frame} {meth : Method} {c : Code} {Γ : hp_G} {b Ln x y : Nat} {xs : Nat → Int32} {ρ : Nat → Nat} (C : hp_C Γ p m c cL_law 4 s #[Value.ref b] RL) (hX : va_X b Ln xs s s.heap) (hbl : b < s.heap.size) (hbA : ¬ hp_A Γ b) (hLn : Ln ≤ 3072) {α : hp_T} {σ : ms_T} {H : Heap} {L : List Loc} {cells slots : Nat} (hli : li Γ s x y ρ α σ H L cells slots) (i : Int32) (hi : 0 ≤ i.toInt) (hi2 : i.toInt + 6 ≤ (Ln : Int)) (ls : Array Slot) (hl : lv_has ls 4 [(0, .ref b), (1, .ref x), (2, .ref y), (3, .int i)]) (kk : ∀ (α : hp_T) (σ : ms_T) (H : Heap) (L : List Loc) (cells slots : Nat), li Γ s x y ρ α σ H L cells slots → W p l e room_1 s m #[Value.ref b] below meth c H L cells slots (lw_Z below #[Value.ref b] s) (F0 m 2391 ls [])) : W p l e room_1 s m #[Value.ref b] below meth c H L cells slots (lw_Z below #[Value.ref b] s) (F0 m 841 ls []) := by
  have hx := C.1.1
  have hb := C.1.2.1
  have hi3 : (Ln : Int) ≤ 3072 := by omega
  have hcs : cells ≤ 986 ∧ slots ≤ 148568 := by rcases hli.2.2.2.2.2.2 with ⟨-, h1, h2⟩ | ⟨-, h1, h2⟩ <;> omega
  obtain ⟨hB, hG, hKx, hM, hR, hE, hRo⟩ := id hli
  refine lv_aload_n hx hb dL_law_841 rfl (lv_at hl 1 rfl) (hp_n (n := 842) rfl ?_)
  refine l_arg (j := 1) (nj := 1) (q0 := 0) (q3 := 3) (pc' := 847) C hB hX hbl hbA hl rfl rfl (by decide) hi hi2 hi3 dL_law_842 dL_law_843 rfl dL_law_844 dL_law_845 dL_law_846 rfl rfl rfl rfl rfl (fun u1 eu1 => ?_)
  refine l_arg (j := 2) (nj := 2) (q0 := 0) (q3 := 3) (pc' := 852) C hB hX hbl hbA hl rfl rfl (by decide) hi hi2 hi3 dL_law_847 dL_law_848 rfl dL_law_849 dL_law_850 dL_law_851 rfl rfl rfl rfl rfl (fun u2 eu2 => ?_)
  refine l_arg (j := 3) (nj := 3) (q0 := 0) (q3 := 3) (pc' := 857) C hB hX hbl hbA hl rfl rfl (by decide) hi hi2 hi3 dL_law_852 dL_law_853 rfl dL_law_854 dL_law_855 dL_law_856 rfl rfl rfl rfl rfl (fun u3 eu3 => ?_)
  obtain ⟨res1, hq1, hv1, hv2, hv3⟩ := k_meet 70000 (by decide) α x (ms_E σ 40) hR.2 hE.2.2.2.1 (RWX_Z hG hE.2.2.1) u1 u2 u3
  refine q_ci (pc' := 860) hB (l_runV (As := [.int u1, .int u2, .int u3]) (rest := []) C hB (n_X11_meet 70000 Γ l α hG x hKx u1 u2 u3 res1 hq1) lb_X11_meet lv_X11_meet lk_L_94 hKx (Nat.le_of_ble_eq_true rfl) (Nat.le_of_ble_eq_true rfl) ⟨Nat.le_trans (Nat.add_le_add_right hcs.1 _) (Nat.le_of_ble_eq_true rfl), Nat.le_trans (Nat.add_le_add_right hcs.2 _) (Nat.le_of_ble_eq_true rfl)⟩ rfl hl.1 rfl (Nat.le_of_ble_eq_true rfl) dL_law_857) (fun _ _ _ => trivial) rfl (fun r1 β H1 L1 p1 B1 => ?_)
  have hli1 := li0_cw hli B1 p1.2.2 (by decide)
  refine lv_pop hx hb dL_law_860 rfl (hp_n (n := 861) rfl ?_)
  obtain ⟨hB, hG, hKx, hM, hR, hE, hRo⟩ := id hli1
  have hcs : cells + 0 ≤ 986 ∧ slots + 0 ≤ 148568 := by rcases hRo with ⟨-, h1, h2⟩ | ⟨-, h1, h2⟩ <;> omega
  refine lv_aload_n hx hb dL_law_861 rfl (lv_at hl 2 rfl) (hp_n (n := 862) rfl ?_)
  refine l_arg (j := 1) (nj := 1) (q0 := 0) (q3 := 3) (pc' := 867) C hB hX hbl hbA hl rfl rfl (by decide) hi hi2 hi3 dL_law_862 dL_law_863 rfl dL_law_864 dL_law_865 dL_law_866 rfl rfl rfl rfl rfl (fun w1 ew1 => ?_)
  refine l_arg (j := 2) (nj := 2) (q0 := 0) (q3 := 3) (pc' := 872) C hB hX hbl hbA hl rfl rfl (by decide) hi hi2 hi3 dL_law_867 dL_law_868 rfl dL_law_869 dL_law_870 dL_law_871 rfl rfl rfl rfl rfl (fun w2 ew2 => ?_)
  refine l_arg (j := 3) (nj := 3) (q0 := 0) (q3 := 3) (pc' := 877) C hB hX hbl hbA hl rfl rfl (by decide) hi hi2 hi3 dL_law_872 dL_law_873 rfl dL_law_874 dL_law_875 dL_law_876 rfl rfl rfl rfl rfl (fun w3 ew3 => ?_)
  rw [← eu1] at ew1; have ew1 := ew1.symm; subst ew1
  rw [← eu2] at ew2; have ew2 := ew2.symm; subst ew2
  rw [← eu3] at ew3; have ew3 := ew3.symm; subst ew3
  obtain ⟨⟨r2, τ⟩, hq, hp⟩ := ws_pr (ws_pr (s_meet 70000 (by decide) σ hR u1 u2 u3) (v_meet 70000 σ hR.2 u1 u2 u3)) (y_X12_meet kt_rf)
  refine q_ci (pc' := 880) hB (l_runV (As := [.int u1, .int u2, .int u3]) (rest := []) C hB (m_X12_meet 70000 Γ l _ y ρ σ hM u1 u2 u3 (r2, τ) hq) lb_X12_meet lv_X12_meet lk_L_97 hM.1 (Nat.le_of_ble_eq_true rfl) (Nat.le_of_ble_eq_true rfl) ⟨Nat.le_trans (Nat.add_le_add_right hcs.1 _) (Nat.le_of_ble_eq_true rfl), Nat.le_trans (Nat.add_le_add_right hcs.2 _) (Nat.le_of_ble_eq_true rfl)⟩ rfl hl.1 rfl (Nat.le_of_ble_eq_true rfl) dL_law_877) (fun _ _ _ => trivial) rfl (fun r3 γ H2 L2 p2 B2 => ?_)
  have hli2 := li0_mo hli1 B2 p2.2.1 p2.2.2 hp.1.1.1 (LX_mo (LX_wfs hli.2.2.2.2.2.1 (by rw [p1.2.1]; exact hv2 _ hp.1.1.1.2 hp.1.2.2) hp.1.1.1.2 (AL_me hR.2 hli.2.2.2.2.2.1.2.2.2.1 hp.1.2.2) (by rw [p1.2.1]; exact hv3) hp.2 hp.1.1.2) p2.2.1)
  refine lv_pop hx hb dL_law_880 rfl (hp_n (n := 881) rfl ?_)
  refine lv_goto (tgt := 2391) hx hb dL_law_881 (by decide) ?_
  exact kk _ _ _ _ _ _ hli2
set_option maxRecDepth 100000 in
set_option maxHeartbeats 4000000 in
theorem lc_20 {p : Program} {l : Launch} {e : Env} {s : State} {m : MethodId} {below : List Frame} {meth : Method} {c : Code} {Γ : hp_G} {b Ln x y : Nat} {xs : Nat → Int32} {ρ : Nat → Nat} (C : hp_C Γ p m c cL_law 4 s #[Value.ref b] RL) (hX : va_X b Ln xs s s.heap) (hbl : b < s.heap.size) (hbA : ¬ hp_A Γ b) (hLn : Ln ≤ 3072) {α : hp_T} {σ : ms_T} {H : Heap} {L : List Loc} {cells slots : Nat} (hli : li Γ s x y ρ α σ H L cells slots) (i : Int32) (hi : 0 ≤ i.toInt) (hi2 : i.toInt + 6 ≤ (Ln : Int)) (ls : Array Slot) (hl : lv_has ls 4 [(0, .ref b), (1, .ref x), (2, .ref y), (3, .int i)]) (kk : ∀ (α : hp_T) (σ : ms_T) (H : Heap) (L : List Loc) (cells slots : Nat), li Γ s x y ρ α σ H L cells slots → W p l e room_1 s m #[Value.ref b] below meth c H L cells slots (lw_Z below #[Value.ref b] s) (F0 m 2391 ls [])) : W p l e room_1 s m #[Value.ref b] below meth c H L cells slots (lw_Z below #[Value.ref b] s) (F0 m 884 ls []) := by
  have hx := C.1.1
  have hb := C.1.2.1
  have hi3 : (Ln : Int) ≤ 3072 := by omega
  have hcs : cells ≤ 986 ∧ slots ≤ 148568 := by rcases hli.2.2.2.2.2.2 with ⟨-, h1, h2⟩ | ⟨-, h1, h2⟩ <;> omega
  obtain ⟨hB, hG, hKx, hM, hR, hE, hRo⟩ := id hli
  refine lv_aload_n hx hb dL_law_884 rfl (lv_at hl 1 rfl) (hp_n (n := 885) rfl ?_)
  refine l_arg (j := 1) (nj := 1) (q0 := 0) (q3 := 3) (pc' := 890) C hB hX hbl hbA hl rfl rfl (by decide) hi hi2 hi3 dL_law_885 dL_law_886 rfl dL_law_887 dL_law_888 dL_law_889 rfl rfl rfl rfl rfl (fun u1 eu1 => ?_)
  refine l_arg (j := 2) (nj := 2) (q0 := 0) (q3 := 3) (pc' := 895) C hB hX hbl hbA hl rfl rfl (by decide) hi hi2 hi3 dL_law_890 dL_law_891 rfl dL_law_892 dL_law_893 dL_law_894 rfl rfl rfl rfl rfl (fun u2 eu2 => ?_)
  refine l_arg (j := 3) (nj := 3) (q0 := 0) (q3 := 3) (pc' := 900) C hB hX hbl hbA hl rfl rfl (by decide) hi hi2 hi3 dL_law_895 dL_law_896 rfl dL_law_897 dL_law_898 dL_law_899 rfl rfl rfl rfl rfl (fun u3 eu3 => ?_)
  refine l_arg (j := 4) (nj := 4) (q0 := 0) (q3 := 3) (pc' := 905) C hB hX hbl hbA hl rfl rfl (by decide) hi hi2 hi3 dL_law_900 dL_law_901 rfl dL_law_902 dL_law_903 dL_law_904 rfl rfl rfl rfl rfl (fun u4 eu4 => ?_)
  obtain ⟨res1, hq1, hv1, hv2, hv3⟩ := k_spoil 70000 (by decide) α x (ms_E σ 40) hR.2 (RWX_Z hG hE.2.2.1) u1 u2 u3 u4
  refine q_ci (pc' := 908) hB (l_runV (As := [.int u1, .int u2, .int u3, .int u4]) (rest := []) C hB (n_X11_spoil 70000 Γ l α hG x hKx u1 u2 u3 u4 res1 hq1) lb_X11_spoil lv_X11_spoil lk_L_98 hKx (Nat.le_of_ble_eq_true rfl) (Nat.le_of_ble_eq_true rfl) ⟨Nat.le_trans (Nat.add_le_add_right hcs.1 _) (Nat.le_of_ble_eq_true rfl), Nat.le_trans (Nat.add_le_add_right hcs.2 _) (Nat.le_of_ble_eq_true rfl)⟩ rfl hl.1 rfl (Nat.le_of_ble_eq_true rfl) dL_law_905) (fun _ _ _ => trivial) rfl (fun r1 β H1 L1 p1 B1 => ?_)
  have hli1 := li0_cw hli B1 p1.2.2 (by decide)
  refine lv_pop hx hb dL_law_908 rfl (hp_n (n := 909) rfl ?_)
  obtain ⟨hB, hG, hKx, hM, hR, hE, hRo⟩ := id hli1
  have hcs : cells + 0 ≤ 986 ∧ slots + 0 ≤ 148568 := by rcases hRo with ⟨-, h1, h2⟩ | ⟨-, h1, h2⟩ <;> omega
  refine lv_aload_n hx hb dL_law_909 rfl (lv_at hl 2 rfl) (hp_n (n := 910) rfl ?_)
  refine l_arg (j := 1) (nj := 1) (q0 := 0) (q3 := 3) (pc' := 915) C hB hX hbl hbA hl rfl rfl (by decide) hi hi2 hi3 dL_law_910 dL_law_911 rfl dL_law_912 dL_law_913 dL_law_914 rfl rfl rfl rfl rfl (fun w1 ew1 => ?_)
  refine l_arg (j := 2) (nj := 2) (q0 := 0) (q3 := 3) (pc' := 920) C hB hX hbl hbA hl rfl rfl (by decide) hi hi2 hi3 dL_law_915 dL_law_916 rfl dL_law_917 dL_law_918 dL_law_919 rfl rfl rfl rfl rfl (fun w2 ew2 => ?_)
  refine l_arg (j := 3) (nj := 3) (q0 := 0) (q3 := 3) (pc' := 925) C hB hX hbl hbA hl rfl rfl (by decide) hi hi2 hi3 dL_law_920 dL_law_921 rfl dL_law_922 dL_law_923 dL_law_924 rfl rfl rfl rfl rfl (fun w3 ew3 => ?_)
  refine l_arg (j := 4) (nj := 4) (q0 := 0) (q3 := 3) (pc' := 930) C hB hX hbl hbA hl rfl rfl (by decide) hi hi2 hi3 dL_law_925 dL_law_926 rfl dL_law_927 dL_law_928 dL_law_929 rfl rfl rfl rfl rfl (fun w4 ew4 => ?_)
  rw [← eu1] at ew1; have ew1 := ew1.symm; subst ew1
  rw [← eu2] at ew2; have ew2 := ew2.symm; subst ew2
  rw [← eu3] at ew3; have ew3 := ew3.symm; subst ew3
  rw [← eu4] at ew4; have ew4 := ew4.symm; subst ew4
  obtain ⟨⟨r2, τ⟩, hq, hp⟩ := ws_pr (ws_pr (s_spoil 70000 (by decide) σ hR u1 u2 u3 u4) (v_spoil 70000 σ hR.2 u1 u2 u3 u4)) (y_X12_spoil kt_rf)
  refine q_ci (pc' := 933) hB (l_runV (As := [.int u1, .int u2, .int u3, .int u4]) (rest := []) C hB (m_X12_spoil 70000 Γ l _ y ρ σ hM u1 u2 u3 u4 (r2, τ) hq) lb_X12_spoil lv_X12_spoil lk_L_102 hM.1 (Nat.le_of_ble_eq_true rfl) (Nat.le_of_ble_eq_true rfl) ⟨Nat.le_trans (Nat.add_le_add_right hcs.1 _) (Nat.le_of_ble_eq_true rfl), Nat.le_trans (Nat.add_le_add_right hcs.2 _) (Nat.le_of_ble_eq_true rfl)⟩ rfl hl.1 rfl (Nat.le_of_ble_eq_true rfl) dL_law_930) (fun _ _ _ => trivial) rfl (fun r3 γ H2 L2 p2 B2 => ?_)
  have hli2 := li0_mo hli1 B2 p2.2.1 p2.2.2 hp.1.1.1 (LX_mo (LX_wfs hli.2.2.2.2.2.1 (by rw [p1.2.1]; exact hv2 _ hp.1.1.1.2 hp.1.2.2) hp.1.1.1.2 (AL_sp hR.2 hli.2.2.2.2.2.1.2.2.2.1 hp.1.2.2) (by rw [p1.2.1]; exact hv3) hp.2 hp.1.1.2) p2.2.1)
  refine lv_pop hx hb dL_law_933 rfl (hp_n (n := 934) rfl ?_)
  refine lv_goto (tgt := 2391) hx hb dL_law_934 (by decide) ?_
  exact kk _ _ _ _ _ _ hli2
set_option maxRecDepth 100000 in
set_option maxHeartbeats 4000000 in
theorem lc_21 {p : Program} {l : Launch} {e : Env} {s : State} {m : MethodId} {below : List Frame} {meth : Method} {c : Code} {Γ : hp_G} {b Ln x y : Nat} {xs : Nat → Int32} {ρ : Nat → Nat} (C : hp_C Γ p m c cL_law 4 s #[Value.ref b] RL) (hX : va_X b Ln xs s s.heap) (hbl : b < s.heap.size) (hbA : ¬ hp_A Γ b) (hLn : Ln ≤ 3072) {α : hp_T} {σ : ms_T} {H : Heap} {L : List Loc} {cells slots : Nat} (hli : li Γ s x y ρ α σ H L cells slots) (i : Int32) (hi : 0 ≤ i.toInt) (hi2 : i.toInt + 6 ≤ (Ln : Int)) (ls : Array Slot) (hl : lv_has ls 4 [(0, .ref b), (1, .ref x), (2, .ref y), (3, .int i)]) (kk : ∀ (α : hp_T) (σ : ms_T) (H : Heap) (L : List Loc) (cells slots : Nat), li Γ s x y ρ α σ H L cells slots → W p l e room_1 s m #[Value.ref b] below meth c H L cells slots (lw_Z below #[Value.ref b] s) (F0 m 2391 ls [])) : W p l e room_1 s m #[Value.ref b] below meth c H L cells slots (lw_Z below #[Value.ref b] s) (F0 m 937 ls []) := by
  have hx := C.1.1
  have hb := C.1.2.1
  have hi3 : (Ln : Int) ≤ 3072 := by omega
  have hcs : cells ≤ 986 ∧ slots ≤ 148568 := by rcases hli.2.2.2.2.2.2 with ⟨-, h1, h2⟩ | ⟨-, h1, h2⟩ <;> omega
  obtain ⟨hB, hG, hKx, hM, hR, hE, hRo⟩ := id hli
  refine lv_aload_n hx hb dL_law_937 rfl (lv_at hl 1 rfl) (hp_n (n := 938) rfl ?_)
  refine l_arg (j := 1) (nj := 1) (q0 := 0) (q3 := 3) (pc' := 943) C hB hX hbl hbA hl rfl rfl (by decide) hi hi2 hi3 dL_law_938 dL_law_939 rfl dL_law_940 dL_law_941 dL_law_942 rfl rfl rfl rfl rfl (fun u1 eu1 => ?_)
  refine q_ci (pc' := 946) hB (l_runV (As := [.int u1]) (rest := []) C hB (t_X11_push Γ l α hG x hKx u1) lb_X11_push lv_X11_push lk_L_103 hKx (Nat.le_of_ble_eq_true rfl) (Nat.le_of_ble_eq_true rfl) ⟨Nat.le_trans (Nat.add_le_add_right hcs.1 _) (Nat.le_of_ble_eq_true rfl), Nat.le_trans (Nat.add_le_add_right hcs.2 _) (Nat.le_of_ble_eq_true rfl)⟩ rfl hl.1 rfl (Nat.le_of_ble_eq_true rfl) dL_law_943) (fun _ _ _ => trivial) rfl (fun r1 β H1 L1 p1 B1 => ?_)
  have hli1 := li_cw hli B1 p1 (by decide)
  refine lv_pop hx hb dL_law_946 rfl (hp_n (n := 947) rfl ?_)
  obtain ⟨hB, hG, hKx, hM, hR, hE, hRo⟩ := id hli1
  have hcs : cells + 0 ≤ 986 ∧ slots + 0 ≤ 148568 := by rcases hRo with ⟨-, h1, h2⟩ | ⟨-, h1, h2⟩ <;> omega
  refine lv_aload_n hx hb dL_law_947 rfl (lv_at hl 2 rfl) (hp_n (n := 948) rfl ?_)
  refine l_arg (j := 1) (nj := 1) (q0 := 0) (q3 := 3) (pc' := 953) C hB hX hbl hbA hl rfl rfl (by decide) hi hi2 hi3 dL_law_948 dL_law_949 rfl dL_law_950 dL_law_951 dL_law_952 rfl rfl rfl rfl rfl (fun w1 ew1 => ?_)
  rw [← eu1] at ew1; have ew1 := ew1.symm; subst ew1
  obtain ⟨⟨r2, τ⟩, hq, hp⟩ := ws_pr (s_push 70000 (by decide) σ hR u1) (zc_push 70000 σ hR.2 u1)
  refine q_ci (pc' := 956) hB (l_runV (As := [.int u1]) (rest := []) C hB (m_X12_push 70000 Γ l _ y ρ σ hM u1 (r2, τ) hq) lb_X12_push lv_X12_push lk_L_106 hM.1 (Nat.le_of_ble_eq_true rfl) (Nat.le_of_ble_eq_true rfl) ⟨Nat.le_trans (Nat.add_le_add_right hcs.1 _) (Nat.le_of_ble_eq_true rfl), Nat.le_trans (Nat.add_le_add_right hcs.2 _) (Nat.le_of_ble_eq_true rfl)⟩ rfl hl.1 rfl (Nat.le_of_ble_eq_true rfl) dL_law_953) (fun _ _ _ => trivial) rfl (fun r3 γ H2 L2 p2 B2 => ?_)
  have hli2 := li0_mo (li_0 hli1) B2 p2.2.1 p2.2.2 hp.1.1 (lx_kpd hli1.2.2.2.2.2.1 p2.2.1 hp.2 hp.1.2 hp.1.1)
  refine lv_pop hx hb dL_law_956 rfl (hp_n (n := 957) rfl ?_)
  refine lv_goto (tgt := 2391) hx hb dL_law_957 (by decide) ?_
  exact kk _ _ _ _ _ _ hli2
set_option maxRecDepth 100000 in
set_option maxHeartbeats 4000000 in
theorem lc_22 {p : Program} {l : Launch} {e : Env} {s : State} {m : MethodId} {below : List Frame} {meth : Method} {c : Code} {Γ : hp_G} {b Ln x y : Nat} {xs : Nat → Int32} {ρ : Nat → Nat} (C : hp_C Γ p m c cL_law 4 s #[Value.ref b] RL) (hX : va_X b Ln xs s s.heap) (hbl : b < s.heap.size) (hbA : ¬ hp_A Γ b) (hLn : Ln ≤ 3072) {α : hp_T} {σ : ms_T} {H : Heap} {L : List Loc} {cells slots : Nat} (hli : li Γ s x y ρ α σ H L cells slots) (i : Int32) (hi : 0 ≤ i.toInt) (hi2 : i.toInt + 6 ≤ (Ln : Int)) (ls : Array Slot) (hl : lv_has ls 4 [(0, .ref b), (1, .ref x), (2, .ref y), (3, .int i)]) (kk : ∀ (α : hp_T) (σ : ms_T) (H : Heap) (L : List Loc) (cells slots : Nat), li Γ s x y ρ α σ H L cells slots → W p l e room_1 s m #[Value.ref b] below meth c H L cells slots (lw_Z below #[Value.ref b] s) (F0 m 2391 ls [])) : W p l e room_1 s m #[Value.ref b] below meth c H L cells slots (lw_Z below #[Value.ref b] s) (F0 m 960 ls []) := by
  have hx := C.1.1
  have hb := C.1.2.1
  have hi3 : (Ln : Int) ≤ 3072 := by omega
  have hcs : cells ≤ 986 ∧ slots ≤ 148568 := by rcases hli.2.2.2.2.2.2 with ⟨-, h1, h2⟩ | ⟨-, h1, h2⟩ <;> omega
  obtain ⟨hB, hG, hKx, hM, hR, hE, hRo⟩ := id hli
  refine lv_aload_n hx hb dL_law_960 rfl (lv_at hl 1 rfl) (hp_n (n := 961) rfl ?_)
  refine l_arg (j := 1) (nj := 1) (q0 := 0) (q3 := 3) (pc' := 966) C hB hX hbl hbA hl rfl rfl (by decide) hi hi2 hi3 dL_law_961 dL_law_962 rfl dL_law_963 dL_law_964 dL_law_965 rfl rfl rfl rfl rfl (fun u1 eu1 => ?_)
  refine l_arg (j := 2) (nj := 2) (q0 := 0) (q3 := 3) (pc' := 971) C hB hX hbl hbA hl rfl rfl (by decide) hi hi2 hi3 dL_law_966 dL_law_967 rfl dL_law_968 dL_law_969 dL_law_970 rfl rfl rfl rfl rfl (fun u2 eu2 => ?_)
  refine q_ci (pc' := 974) hB (l_runV (As := [.int u1, .int u2]) (rest := []) C hB (t_X11_poke Γ l α hG x hKx u1 u2) lb_X11_poke lv_X11_poke lk_L_107 hKx (Nat.le_of_ble_eq_true rfl) (Nat.le_of_ble_eq_true rfl) ⟨Nat.le_trans (Nat.add_le_add_right hcs.1 _) (Nat.le_of_ble_eq_true rfl), Nat.le_trans (Nat.add_le_add_right hcs.2 _) (Nat.le_of_ble_eq_true rfl)⟩ rfl hl.1 rfl (Nat.le_of_ble_eq_true rfl) dL_law_971) (fun _ _ _ => trivial) rfl (fun r1 β H1 L1 p1 B1 => ?_)
  have hli1 := li_cw hli B1 p1 (by decide)
  refine lv_pop hx hb dL_law_974 rfl (hp_n (n := 975) rfl ?_)
  obtain ⟨hB, hG, hKx, hM, hR, hE, hRo⟩ := id hli1
  have hcs : cells + 0 ≤ 986 ∧ slots + 0 ≤ 148568 := by rcases hRo with ⟨-, h1, h2⟩ | ⟨-, h1, h2⟩ <;> omega
  refine lv_aload_n hx hb dL_law_975 rfl (lv_at hl 2 rfl) (hp_n (n := 976) rfl ?_)
  refine l_arg (j := 1) (nj := 1) (q0 := 0) (q3 := 3) (pc' := 981) C hB hX hbl hbA hl rfl rfl (by decide) hi hi2 hi3 dL_law_976 dL_law_977 rfl dL_law_978 dL_law_979 dL_law_980 rfl rfl rfl rfl rfl (fun w1 ew1 => ?_)
  refine l_arg (j := 2) (nj := 2) (q0 := 0) (q3 := 3) (pc' := 986) C hB hX hbl hbA hl rfl rfl (by decide) hi hi2 hi3 dL_law_981 dL_law_982 rfl dL_law_983 dL_law_984 dL_law_985 rfl rfl rfl rfl rfl (fun w2 ew2 => ?_)
  rw [← eu1] at ew1; have ew1 := ew1.symm; subst ew1
  rw [← eu2] at ew2; have ew2 := ew2.symm; subst ew2
  obtain ⟨⟨r2, τ⟩, hq, hp⟩ := ws_pr (s_poke 70000 (by decide) σ hR u1 u2) (zc_poke 70000 σ hR.2 u1 u2)
  refine q_ci (pc' := 989) hB (l_runV (As := [.int u1, .int u2]) (rest := []) C hB (m_X12_poke 70000 Γ l _ y ρ σ hM u1 u2 (r2, τ) hq) lb_X12_poke lv_X12_poke lk_L_110 hM.1 (Nat.le_of_ble_eq_true rfl) (Nat.le_of_ble_eq_true rfl) ⟨Nat.le_trans (Nat.add_le_add_right hcs.1 _) (Nat.le_of_ble_eq_true rfl), Nat.le_trans (Nat.add_le_add_right hcs.2 _) (Nat.le_of_ble_eq_true rfl)⟩ rfl hl.1 rfl (Nat.le_of_ble_eq_true rfl) dL_law_986) (fun _ _ _ => trivial) rfl (fun r3 γ H2 L2 p2 B2 => ?_)
  have hli2 := li0_mo (li_0 hli1) B2 p2.2.1 p2.2.2 hp.1.1 (lx_kpd hli1.2.2.2.2.2.1 p2.2.1 hp.2 hp.1.2 hp.1.1)
  refine lv_pop hx hb dL_law_989 rfl (hp_n (n := 990) rfl ?_)
  refine lv_goto (tgt := 2391) hx hb dL_law_990 (by decide) ?_
  exact kk _ _ _ _ _ _ hli2
set_option maxRecDepth 100000 in
set_option maxHeartbeats 4000000 in
theorem lc_23 {p : Program} {l : Launch} {e : Env} {s : State} {m : MethodId} {below : List Frame} {meth : Method} {c : Code} {Γ : hp_G} {b Ln x y : Nat} {xs : Nat → Int32} {ρ : Nat → Nat} (C : hp_C Γ p m c cL_law 4 s #[Value.ref b] RL) (hX : va_X b Ln xs s s.heap) (hbl : b < s.heap.size) (hbA : ¬ hp_A Γ b) (hLn : Ln ≤ 3072) {α : hp_T} {σ : ms_T} {H : Heap} {L : List Loc} {cells slots : Nat} (hli : li Γ s x y ρ α σ H L cells slots) (i : Int32) (hi : 0 ≤ i.toInt) (hi2 : i.toInt + 6 ≤ (Ln : Int)) (ls : Array Slot) (hl : lv_has ls 4 [(0, .ref b), (1, .ref x), (2, .ref y), (3, .int i)]) (kk : ∀ (α : hp_T) (σ : ms_T) (H : Heap) (L : List Loc) (cells slots : Nat), li Γ s x y ρ α σ H L cells slots → W p l e room_1 s m #[Value.ref b] below meth c H L cells slots (lw_Z below #[Value.ref b] s) (F0 m 2391 ls [])) : W p l e room_1 s m #[Value.ref b] below meth c H L cells slots (lw_Z below #[Value.ref b] s) (F0 m 993 ls []) := by
  have hx := C.1.1
  have hb := C.1.2.1
  have hi3 : (Ln : Int) ≤ 3072 := by omega
  have hcs : cells ≤ 986 ∧ slots ≤ 148568 := by rcases hli.2.2.2.2.2.2 with ⟨-, h1, h2⟩ | ⟨-, h1, h2⟩ <;> omega
  obtain ⟨hB, hG, hKx, hM, hR, hE, hRo⟩ := id hli
  refine lv_aload_n hx hb dL_law_993 rfl (lv_at hl 1 rfl) (hp_n (n := 994) rfl ?_)
  refine l_arg (j := 1) (nj := 1) (q0 := 0) (q3 := 3) (pc' := 999) C hB hX hbl hbA hl rfl rfl (by decide) hi hi2 hi3 dL_law_994 dL_law_995 rfl dL_law_996 dL_law_997 dL_law_998 rfl rfl rfl rfl rfl (fun u1 eu1 => ?_)
  refine q_ci (pc' := 1002) hB (l_runV (As := [.int u1]) (rest := []) C hB (t_X11_pad Γ l α hG x hKx u1) lb_X11_pad lv_X11_pad lk_L_111 hKx (Nat.le_of_ble_eq_true rfl) (Nat.le_of_ble_eq_true rfl) ⟨Nat.le_trans (Nat.add_le_add_right hcs.1 _) (Nat.le_of_ble_eq_true rfl), Nat.le_trans (Nat.add_le_add_right hcs.2 _) (Nat.le_of_ble_eq_true rfl)⟩ rfl hl.1 rfl (Nat.le_of_ble_eq_true rfl) dL_law_999) (fun _ _ _ => trivial) rfl (fun r1 β H1 L1 p1 B1 => ?_)
  have hli1 := li_cw hli B1 p1 (by decide)
  refine lv_pop hx hb dL_law_1002 rfl (hp_n (n := 1003) rfl ?_)
  obtain ⟨hB, hG, hKx, hM, hR, hE, hRo⟩ := id hli1
  have hcs : cells + 0 ≤ 986 ∧ slots + 0 ≤ 148568 := by rcases hRo with ⟨-, h1, h2⟩ | ⟨-, h1, h2⟩ <;> omega
  refine lv_aload_n hx hb dL_law_1003 rfl (lv_at hl 2 rfl) (hp_n (n := 1004) rfl ?_)
  refine l_arg (j := 1) (nj := 1) (q0 := 0) (q3 := 3) (pc' := 1009) C hB hX hbl hbA hl rfl rfl (by decide) hi hi2 hi3 dL_law_1004 dL_law_1005 rfl dL_law_1006 dL_law_1007 dL_law_1008 rfl rfl rfl rfl rfl (fun w1 ew1 => ?_)
  rw [← eu1] at ew1; have ew1 := ew1.symm; subst ew1
  obtain ⟨⟨r2, τ⟩, hq, hp⟩ := ws_pr (s_pad 70000 (by decide) σ hR u1) (z_X12_pad kq_rf)
  refine q_ci (pc' := 1012) hB (l_runV (As := [.int u1]) (rest := []) C hB (m_X12_pad 70000 Γ l _ y ρ σ hM u1 (r2, τ) hq) lb_X12_pad lv_X12_pad lk_L_114 hM.1 (Nat.le_of_ble_eq_true rfl) (Nat.le_of_ble_eq_true rfl) ⟨Nat.le_trans (Nat.add_le_add_right hcs.1 _) (Nat.le_of_ble_eq_true rfl), Nat.le_trans (Nat.add_le_add_right hcs.2 _) (Nat.le_of_ble_eq_true rfl)⟩ rfl hl.1 rfl (Nat.le_of_ble_eq_true rfl) dL_law_1009) (fun _ _ _ => trivial) rfl (fun r3 γ H2 L2 p2 B2 => ?_)
  have hli2 := li0_mo (li_0 hli1) B2 p2.2.1 p2.2.2 hp.1.1 (lx_kq hli1.2.2.2.2.2.1 p2.2.1 hp.2 hp.1.2 hp.1.1)
  refine lv_pop hx hb dL_law_1012 rfl (hp_n (n := 1013) rfl ?_)
  refine lv_goto (tgt := 2391) hx hb dL_law_1013 (by decide) ?_
  exact kk _ _ _ _ _ _ hli2
set_option maxRecDepth 100000 in
set_option maxHeartbeats 4000000 in
theorem lc_24 {p : Program} {l : Launch} {e : Env} {s : State} {m : MethodId} {below : List Frame} {meth : Method} {c : Code} {Γ : hp_G} {b Ln x y : Nat} {xs : Nat → Int32} {ρ : Nat → Nat} (C : hp_C Γ p m c cL_law 4 s #[Value.ref b] RL) (hX : va_X b Ln xs s s.heap) (hbl : b < s.heap.size) (hbA : ¬ hp_A Γ b) (hLn : Ln ≤ 3072) {α : hp_T} {σ : ms_T} {H : Heap} {L : List Loc} {cells slots : Nat} (hli : li Γ s x y ρ α σ H L cells slots) (i : Int32) (hi : 0 ≤ i.toInt) (hi2 : i.toInt + 6 ≤ (Ln : Int)) (ls : Array Slot) (hl : lv_has ls 4 [(0, .ref b), (1, .ref x), (2, .ref y), (3, .int i)]) (kk : ∀ (α : hp_T) (σ : ms_T) (H : Heap) (L : List Loc) (cells slots : Nat), li Γ s x y ρ α σ H L cells slots → W p l e room_1 s m #[Value.ref b] below meth c H L cells slots (lw_Z below #[Value.ref b] s) (F0 m 2391 ls [])) : W p l e room_1 s m #[Value.ref b] below meth c H L cells slots (lw_Z below #[Value.ref b] s) (F0 m 1016 ls []) := by
  have hx := C.1.1
  have hb := C.1.2.1
  have hi3 : (Ln : Int) ≤ 3072 := by omega
  have hcs : cells ≤ 986 ∧ slots ≤ 148568 := by rcases hli.2.2.2.2.2.2 with ⟨-, h1, h2⟩ | ⟨-, h1, h2⟩ <;> omega
  obtain ⟨hB, hG, hKx, hM, hR, hE, hRo⟩ := id hli
  refine lv_aload_n hx hb dL_law_1016 rfl (lv_at hl 1 rfl) (hp_n (n := 1017) rfl ?_)
  refine l_arg (j := 1) (nj := 1) (q0 := 0) (q3 := 3) (pc' := 1022) C hB hX hbl hbA hl rfl rfl (by decide) hi hi2 hi3 dL_law_1017 dL_law_1018 rfl dL_law_1019 dL_law_1020 dL_law_1021 rfl rfl rfl rfl rfl (fun u1 eu1 => ?_)
  refine q_ci (pc' := 1025) hB (l_runV (As := [.int u1]) (rest := []) C hB (t_X11_cut Γ l α hG x hKx u1) lb_X11_cut lv_X11_cut lk_L_115 hKx (Nat.le_of_ble_eq_true rfl) (Nat.le_of_ble_eq_true rfl) ⟨Nat.le_trans (Nat.add_le_add_right hcs.1 _) (Nat.le_of_ble_eq_true rfl), Nat.le_trans (Nat.add_le_add_right hcs.2 _) (Nat.le_of_ble_eq_true rfl)⟩ rfl hl.1 rfl (Nat.le_of_ble_eq_true rfl) dL_law_1022) (fun _ _ _ => trivial) rfl (fun r1 β H1 L1 p1 B1 => ?_)
  have hli1 := li_cw hli B1 p1 (by decide)
  refine lv_pop hx hb dL_law_1025 rfl (hp_n (n := 1026) rfl ?_)
  obtain ⟨hB, hG, hKx, hM, hR, hE, hRo⟩ := id hli1
  have hcs : cells + 0 ≤ 986 ∧ slots + 0 ≤ 148568 := by rcases hRo with ⟨-, h1, h2⟩ | ⟨-, h1, h2⟩ <;> omega
  refine lv_aload_n hx hb dL_law_1026 rfl (lv_at hl 2 rfl) (hp_n (n := 1027) rfl ?_)
  refine l_arg (j := 1) (nj := 1) (q0 := 0) (q3 := 3) (pc' := 1032) C hB hX hbl hbA hl rfl rfl (by decide) hi hi2 hi3 dL_law_1027 dL_law_1028 rfl dL_law_1029 dL_law_1030 dL_law_1031 rfl rfl rfl rfl rfl (fun w1 ew1 => ?_)
  rw [← eu1] at ew1; have ew1 := ew1.symm; subst ew1
  obtain ⟨⟨r2, τ⟩, hq, hp⟩ := ws_pr (s_cut 70000 (by decide) σ hR u1) (zc_cut 70000 σ u1)
  refine q_ci (pc' := 1035) hB (l_runV (As := [.int u1]) (rest := []) C hB (m_X12_cut 70000 Γ l _ y ρ σ hM u1 (r2, τ) hq) lb_X12_cut lv_X12_cut lk_L_118 hM.1 (Nat.le_of_ble_eq_true rfl) (Nat.le_of_ble_eq_true rfl) ⟨Nat.le_trans (Nat.add_le_add_right hcs.1 _) (Nat.le_of_ble_eq_true rfl), Nat.le_trans (Nat.add_le_add_right hcs.2 _) (Nat.le_of_ble_eq_true rfl)⟩ rfl hl.1 rfl (Nat.le_of_ble_eq_true rfl) dL_law_1032) (fun _ _ _ => trivial) rfl (fun r3 γ H2 L2 p2 B2 => ?_)
  have hli2 := li0_mo (li_0 hli1) B2 p2.2.1 p2.2.2 hp.1.1 (lx_kpd hli1.2.2.2.2.2.1 p2.2.1 hp.2 hp.1.2 hp.1.1)
  refine lv_pop hx hb dL_law_1035 rfl (hp_n (n := 1036) rfl ?_)
  refine lv_goto (tgt := 2391) hx hb dL_law_1036 (by decide) ?_
  exact kk _ _ _ _ _ _ hli2
set_option maxRecDepth 100000 in
set_option maxHeartbeats 4000000 in
theorem lc_25 {p : Program} {l : Launch} {e : Env} {s : State} {m : MethodId} {below : List Frame} {meth : Method} {c : Code} {Γ : hp_G} {b Ln x y : Nat} {xs : Nat → Int32} {ρ : Nat → Nat} (C : hp_C Γ p m c cL_law 4 s #[Value.ref b] RL) (hX : va_X b Ln xs s s.heap) (hbl : b < s.heap.size) (hbA : ¬ hp_A Γ b) (hLn : Ln ≤ 3072) {α : hp_T} {σ : ms_T} {H : Heap} {L : List Loc} {cells slots : Nat} (hli : li Γ s x y ρ α σ H L cells slots) (i : Int32) (hi : 0 ≤ i.toInt) (hi2 : i.toInt + 6 ≤ (Ln : Int)) (ls : Array Slot) (hl : lv_has ls 4 [(0, .ref b), (1, .ref x), (2, .ref y), (3, .int i)]) (kk : ∀ (α : hp_T) (σ : ms_T) (H : Heap) (L : List Loc) (cells slots : Nat), li Γ s x y ρ α σ H L cells slots → W p l e room_1 s m #[Value.ref b] below meth c H L cells slots (lw_Z below #[Value.ref b] s) (F0 m 2391 ls [])) : W p l e room_1 s m #[Value.ref b] below meth c H L cells slots (lw_Z below #[Value.ref b] s) (F0 m 1039 ls []) := by
  have hx := C.1.1
  have hb := C.1.2.1
  have hi3 : (Ln : Int) ≤ 3072 := by omega
  have hcs : cells ≤ 986 ∧ slots ≤ 148568 := by rcases hli.2.2.2.2.2.2 with ⟨-, h1, h2⟩ | ⟨-, h1, h2⟩ <;> omega
  obtain ⟨hB, hG, hKx, hM, hR, hE, hRo⟩ := id hli
  refine lv_aload_n hx hb dL_law_1039 rfl (lv_at hl 1 rfl) (hp_n (n := 1040) rfl ?_)
  refine l_arg (j := 1) (nj := 1) (q0 := 0) (q3 := 3) (pc' := 1045) C hB hX hbl hbA hl rfl rfl (by decide) hi hi2 hi3 dL_law_1040 dL_law_1041 rfl dL_law_1042 dL_law_1043 dL_law_1044 rfl rfl rfl rfl rfl (fun u1 eu1 => ?_)
  refine l_arg (j := 2) (nj := 2) (q0 := 0) (q3 := 3) (pc' := 1050) C hB hX hbl hbA hl rfl rfl (by decide) hi hi2 hi3 dL_law_1045 dL_law_1046 rfl dL_law_1047 dL_law_1048 dL_law_1049 rfl rfl rfl rfl rfl (fun u2 eu2 => ?_)
  refine l_arg (j := 3) (nj := 3) (q0 := 0) (q3 := 3) (pc' := 1055) C hB hX hbl hbA hl rfl rfl (by decide) hi hi2 hi3 dL_law_1050 dL_law_1051 rfl dL_law_1052 dL_law_1053 dL_law_1054 rfl rfl rfl rfl rfl (fun u3 eu3 => ?_)
  refine q_ci (pc' := 1058) hB (l_runV (As := [.int u1, .int u2, .int u3]) (rest := []) C hB (t_X11_include Γ l α hG x hKx u1 u2 u3) lb_X11_include lv_X11_include lk_L_119 hKx (Nat.le_of_ble_eq_true rfl) (Nat.le_of_ble_eq_true rfl) ⟨Nat.le_trans (Nat.add_le_add_right hcs.1 _) (Nat.le_of_ble_eq_true rfl), Nat.le_trans (Nat.add_le_add_right hcs.2 _) (Nat.le_of_ble_eq_true rfl)⟩ rfl hl.1 rfl (Nat.le_of_ble_eq_true rfl) dL_law_1055) (fun _ _ _ => trivial) rfl (fun r1 β H1 L1 p1 B1 => ?_)
  have hli1 := li_cw hli B1 p1 (by decide)
  refine lv_pop hx hb dL_law_1058 rfl (hp_n (n := 1059) rfl ?_)
  obtain ⟨hB, hG, hKx, hM, hR, hE, hRo⟩ := id hli1
  have hcs : cells + 0 ≤ 986 ∧ slots + 0 ≤ 148568 := by rcases hRo with ⟨-, h1, h2⟩ | ⟨-, h1, h2⟩ <;> omega
  refine lv_aload_n hx hb dL_law_1059 rfl (lv_at hl 2 rfl) (hp_n (n := 1060) rfl ?_)
  refine l_arg (j := 1) (nj := 1) (q0 := 0) (q3 := 3) (pc' := 1065) C hB hX hbl hbA hl rfl rfl (by decide) hi hi2 hi3 dL_law_1060 dL_law_1061 rfl dL_law_1062 dL_law_1063 dL_law_1064 rfl rfl rfl rfl rfl (fun w1 ew1 => ?_)
  refine l_arg (j := 2) (nj := 2) (q0 := 0) (q3 := 3) (pc' := 1070) C hB hX hbl hbA hl rfl rfl (by decide) hi hi2 hi3 dL_law_1065 dL_law_1066 rfl dL_law_1067 dL_law_1068 dL_law_1069 rfl rfl rfl rfl rfl (fun w2 ew2 => ?_)
  refine l_arg (j := 3) (nj := 3) (q0 := 0) (q3 := 3) (pc' := 1075) C hB hX hbl hbA hl rfl rfl (by decide) hi hi2 hi3 dL_law_1070 dL_law_1071 rfl dL_law_1072 dL_law_1073 dL_law_1074 rfl rfl rfl rfl rfl (fun w3 ew3 => ?_)
  rw [← eu1] at ew1; have ew1 := ew1.symm; subst ew1
  rw [← eu2] at ew2; have ew2 := ew2.symm; subst ew2
  rw [← eu3] at ew3; have ew3 := ew3.symm; subst ew3
  obtain ⟨⟨r2, τ⟩, hq, hp⟩ := ws_pr (s_include 70000 (by decide) σ hR u1 u2 u3) (zc_include 70000 σ u1 u2 u3)
  refine q_ci (pc' := 1078) hB (l_runV (As := [.int u1, .int u2, .int u3]) (rest := []) C hB (m_X12_include 70000 Γ l _ y ρ σ hM u1 u2 u3 (r2, τ) hq) lb_X12_include lv_X12_include lk_L_122 hM.1 (Nat.le_of_ble_eq_true rfl) (Nat.le_of_ble_eq_true rfl) ⟨Nat.le_trans (Nat.add_le_add_right hcs.1 _) (Nat.le_of_ble_eq_true rfl), Nat.le_trans (Nat.add_le_add_right hcs.2 _) (Nat.le_of_ble_eq_true rfl)⟩ rfl hl.1 rfl (Nat.le_of_ble_eq_true rfl) dL_law_1075) (fun _ _ _ => trivial) rfl (fun r3 γ H2 L2 p2 B2 => ?_)
  have hli2 := li0_mo (li_0 hli1) B2 p2.2.1 p2.2.2 hp.1.1 (lx_kpd hli1.2.2.2.2.2.1 p2.2.1 hp.2 hp.1.2 hp.1.1)
  refine lv_pop hx hb dL_law_1078 rfl (hp_n (n := 1079) rfl ?_)
  refine lv_goto (tgt := 2391) hx hb dL_law_1079 (by decide) ?_
  exact kk _ _ _ _ _ _ hli2
set_option maxRecDepth 100000 in
set_option maxHeartbeats 4000000 in
theorem lc_26 {p : Program} {l : Launch} {e : Env} {s : State} {m : MethodId} {below : List Frame} {meth : Method} {c : Code} {Γ : hp_G} {b Ln x y : Nat} {xs : Nat → Int32} {ρ : Nat → Nat} (C : hp_C Γ p m c cL_law 4 s #[Value.ref b] RL) (hX : va_X b Ln xs s s.heap) (hbl : b < s.heap.size) (hbA : ¬ hp_A Γ b) (hLn : Ln ≤ 3072) {α : hp_T} {σ : ms_T} {H : Heap} {L : List Loc} {cells slots : Nat} (hli : li Γ s x y ρ α σ H L cells slots) (i : Int32) (hi : 0 ≤ i.toInt) (hi2 : i.toInt + 6 ≤ (Ln : Int)) (ls : Array Slot) (hl : lv_has ls 4 [(0, .ref b), (1, .ref x), (2, .ref y), (3, .int i)]) (kk : ∀ (α : hp_T) (σ : ms_T) (H : Heap) (L : List Loc) (cells slots : Nat), li Γ s x y ρ α σ H L cells slots → W p l e room_1 s m #[Value.ref b] below meth c H L cells slots (lw_Z below #[Value.ref b] s) (F0 m 2391 ls [])) : W p l e room_1 s m #[Value.ref b] below meth c H L cells slots (lw_Z below #[Value.ref b] s) (F0 m 1082 ls []) := by
  have hx := C.1.1
  have hb := C.1.2.1
  have hi3 : (Ln : Int) ≤ 3072 := by omega
  have hcs : cells ≤ 986 ∧ slots ≤ 148568 := by rcases hli.2.2.2.2.2.2 with ⟨-, h1, h2⟩ | ⟨-, h1, h2⟩ <;> omega
  obtain ⟨hB, hG, hKx, hM, hR, hE, hRo⟩ := id hli
  refine lv_aload_n hx hb dL_law_1082 rfl (lv_at hl 1 rfl) (hp_n (n := 1083) rfl ?_)
  refine l_arg (j := 1) (nj := 1) (q0 := 0) (q3 := 3) (pc' := 1088) C hB hX hbl hbA hl rfl rfl (by decide) hi hi2 hi3 dL_law_1083 dL_law_1084 rfl dL_law_1085 dL_law_1086 dL_law_1087 rfl rfl rfl rfl rfl (fun u1 eu1 => ?_)
  refine l_arg (j := 2) (nj := 2) (q0 := 0) (q3 := 3) (pc' := 1093) C hB hX hbl hbA hl rfl rfl (by decide) hi hi2 hi3 dL_law_1088 dL_law_1089 rfl dL_law_1090 dL_law_1091 dL_law_1092 rfl rfl rfl rfl rfl (fun u2 eu2 => ?_)
  refine l_arg (j := 3) (nj := 3) (q0 := 0) (q3 := 3) (pc' := 1098) C hB hX hbl hbA hl rfl rfl (by decide) hi hi2 hi3 dL_law_1093 dL_law_1094 rfl dL_law_1095 dL_law_1096 dL_law_1097 rfl rfl rfl rfl rfl (fun u3 eu3 => ?_)
  refine q_ci (pc' := 1101) hB (l_runV (As := [.int u1, .int u2, .int u3]) (rest := []) C hB (t_X11_grow Γ l α hG x hKx u1 u2 u3) lb_X11_grow lv_X11_grow lk_L_123 hKx (Nat.le_of_ble_eq_true rfl) (Nat.le_of_ble_eq_true rfl) ⟨Nat.le_trans (Nat.add_le_add_right hcs.1 _) (Nat.le_of_ble_eq_true rfl), Nat.le_trans (Nat.add_le_add_right hcs.2 _) (Nat.le_of_ble_eq_true rfl)⟩ rfl hl.1 rfl (Nat.le_of_ble_eq_true rfl) dL_law_1098) (fun _ _ _ => trivial) rfl (fun r1 β H1 L1 p1 B1 => ?_)
  have hli1 := li_cw hli B1 p1 (by decide)
  refine lv_pop hx hb dL_law_1101 rfl (hp_n (n := 1102) rfl ?_)
  obtain ⟨hB, hG, hKx, hM, hR, hE, hRo⟩ := id hli1
  have hcs : cells + 0 ≤ 986 ∧ slots + 0 ≤ 148568 := by rcases hRo with ⟨-, h1, h2⟩ | ⟨-, h1, h2⟩ <;> omega
  refine lv_aload_n hx hb dL_law_1102 rfl (lv_at hl 2 rfl) (hp_n (n := 1103) rfl ?_)
  refine l_arg (j := 1) (nj := 1) (q0 := 0) (q3 := 3) (pc' := 1108) C hB hX hbl hbA hl rfl rfl (by decide) hi hi2 hi3 dL_law_1103 dL_law_1104 rfl dL_law_1105 dL_law_1106 dL_law_1107 rfl rfl rfl rfl rfl (fun w1 ew1 => ?_)
  refine l_arg (j := 2) (nj := 2) (q0 := 0) (q3 := 3) (pc' := 1113) C hB hX hbl hbA hl rfl rfl (by decide) hi hi2 hi3 dL_law_1108 dL_law_1109 rfl dL_law_1110 dL_law_1111 dL_law_1112 rfl rfl rfl rfl rfl (fun w2 ew2 => ?_)
  refine l_arg (j := 3) (nj := 3) (q0 := 0) (q3 := 3) (pc' := 1118) C hB hX hbl hbA hl rfl rfl (by decide) hi hi2 hi3 dL_law_1113 dL_law_1114 rfl dL_law_1115 dL_law_1116 dL_law_1117 rfl rfl rfl rfl rfl (fun w3 ew3 => ?_)
  rw [← eu1] at ew1; have ew1 := ew1.symm; subst ew1
  rw [← eu2] at ew2; have ew2 := ew2.symm; subst ew2
  rw [← eu3] at ew3; have ew3 := ew3.symm; subst ew3
  obtain ⟨⟨r2, τ⟩, hq, hp⟩ := ws_pr (s_grow 70000 (by decide) σ hR u1 u2 u3) (zc_grow 70000 σ u1 u2 u3)
  refine q_ci (pc' := 1121) hB (l_runV (As := [.int u1, .int u2, .int u3]) (rest := []) C hB (m_X12_grow 70000 Γ l _ y ρ σ hM u1 u2 u3 (r2, τ) hq) lb_X12_grow lv_X12_grow lk_L_126 hM.1 (Nat.le_of_ble_eq_true rfl) (Nat.le_of_ble_eq_true rfl) ⟨Nat.le_trans (Nat.add_le_add_right hcs.1 _) (Nat.le_of_ble_eq_true rfl), Nat.le_trans (Nat.add_le_add_right hcs.2 _) (Nat.le_of_ble_eq_true rfl)⟩ rfl hl.1 rfl (Nat.le_of_ble_eq_true rfl) dL_law_1118) (fun _ _ _ => trivial) rfl (fun r3 γ H2 L2 p2 B2 => ?_)
  have hli2 := li0_mo (li_0 hli1) B2 p2.2.1 p2.2.2 hp.1.1 (lx_kpd hli1.2.2.2.2.2.1 p2.2.1 hp.2 hp.1.2 hp.1.1)
  refine lv_pop hx hb dL_law_1121 rfl (hp_n (n := 1122) rfl ?_)
  refine lv_goto (tgt := 2391) hx hb dL_law_1122 (by decide) ?_
  exact kk _ _ _ _ _ _ hli2
set_option maxRecDepth 100000 in
set_option maxHeartbeats 4000000 in
theorem lc_27 {p : Program} {l : Launch} {e : Env} {s : State} {m : MethodId} {below : List Frame} {meth : Method} {c : Code} {Γ : hp_G} {b Ln x y : Nat} {xs : Nat → Int32} {ρ : Nat → Nat} (C : hp_C Γ p m c cL_law 4 s #[Value.ref b] RL) (hX : va_X b Ln xs s s.heap) (hbl : b < s.heap.size) (hbA : ¬ hp_A Γ b) (hLn : Ln ≤ 3072) {α : hp_T} {σ : ms_T} {H : Heap} {L : List Loc} {cells slots : Nat} (hli : li Γ s x y ρ α σ H L cells slots) (i : Int32) (hi : 0 ≤ i.toInt) (hi2 : i.toInt + 6 ≤ (Ln : Int)) (ls : Array Slot) (hl : lv_has ls 4 [(0, .ref b), (1, .ref x), (2, .ref y), (3, .int i)]) (kk : ∀ (α : hp_T) (σ : ms_T) (H : Heap) (L : List Loc) (cells slots : Nat), li Γ s x y ρ α σ H L cells slots → W p l e room_1 s m #[Value.ref b] below meth c H L cells slots (lw_Z below #[Value.ref b] s) (F0 m 2391 ls [])) : W p l e room_1 s m #[Value.ref b] below meth c H L cells slots (lw_Z below #[Value.ref b] s) (F0 m 1125 ls []) := by
  have hx := C.1.1
  have hb := C.1.2.1
  have hi3 : (Ln : Int) ≤ 3072 := by omega
  have hcs : cells ≤ 986 ∧ slots ≤ 148568 := by rcases hli.2.2.2.2.2.2 with ⟨-, h1, h2⟩ | ⟨-, h1, h2⟩ <;> omega
  obtain ⟨hB, hG, hKx, hM, hR, hE, hRo⟩ := id hli
  refine lv_aload_n hx hb dL_law_1125 rfl (lv_at hl 1 rfl) (hp_n (n := 1126) rfl ?_)
  refine l_arg (j := 1) (nj := 1) (q0 := 0) (q3 := 3) (pc' := 1131) C hB hX hbl hbA hl rfl rfl (by decide) hi hi2 hi3 dL_law_1126 dL_law_1127 rfl dL_law_1128 dL_law_1129 dL_law_1130 rfl rfl rfl rfl rfl (fun u1 eu1 => ?_)
  refine l_arg (j := 2) (nj := 2) (q0 := 0) (q3 := 3) (pc' := 1136) C hB hX hbl hbA hl rfl rfl (by decide) hi hi2 hi3 dL_law_1131 dL_law_1132 rfl dL_law_1133 dL_law_1134 dL_law_1135 rfl rfl rfl rfl rfl (fun u2 eu2 => ?_)
  refine l_arg (j := 3) (nj := 3) (q0 := 0) (q3 := 3) (pc' := 1141) C hB hX hbl hbA hl rfl rfl (by decide) hi hi2 hi3 dL_law_1136 dL_law_1137 rfl dL_law_1138 dL_law_1139 dL_law_1140 rfl rfl rfl rfl rfl (fun u3 eu3 => ?_)
  refine q_ci (pc' := 1144) hB (l_runV (As := [.int u1, .int u2, .int u3]) (rest := []) C hB (t_X11_bundle Γ l α hG x hKx u1 u2 u3) lb_X11_bundle lv_X11_bundle lk_L_127 hKx (Nat.le_of_ble_eq_true rfl) (Nat.le_of_ble_eq_true rfl) ⟨Nat.le_trans (Nat.add_le_add_right hcs.1 _) (Nat.le_of_ble_eq_true rfl), Nat.le_trans (Nat.add_le_add_right hcs.2 _) (Nat.le_of_ble_eq_true rfl)⟩ rfl hl.1 rfl (Nat.le_of_ble_eq_true rfl) dL_law_1141) (fun _ _ _ => trivial) rfl (fun r1 β H1 L1 p1 B1 => ?_)
  have hli1 := li_cw hli B1 p1 (by decide)
  refine lv_pop hx hb dL_law_1144 rfl (hp_n (n := 1145) rfl ?_)
  obtain ⟨hB, hG, hKx, hM, hR, hE, hRo⟩ := id hli1
  have hcs : cells + 0 ≤ 986 ∧ slots + 0 ≤ 148568 := by rcases hRo with ⟨-, h1, h2⟩ | ⟨-, h1, h2⟩ <;> omega
  refine lv_aload_n hx hb dL_law_1145 rfl (lv_at hl 2 rfl) (hp_n (n := 1146) rfl ?_)
  refine l_arg (j := 1) (nj := 1) (q0 := 0) (q3 := 3) (pc' := 1151) C hB hX hbl hbA hl rfl rfl (by decide) hi hi2 hi3 dL_law_1146 dL_law_1147 rfl dL_law_1148 dL_law_1149 dL_law_1150 rfl rfl rfl rfl rfl (fun w1 ew1 => ?_)
  refine l_arg (j := 2) (nj := 2) (q0 := 0) (q3 := 3) (pc' := 1156) C hB hX hbl hbA hl rfl rfl (by decide) hi hi2 hi3 dL_law_1151 dL_law_1152 rfl dL_law_1153 dL_law_1154 dL_law_1155 rfl rfl rfl rfl rfl (fun w2 ew2 => ?_)
  refine l_arg (j := 3) (nj := 3) (q0 := 0) (q3 := 3) (pc' := 1161) C hB hX hbl hbA hl rfl rfl (by decide) hi hi2 hi3 dL_law_1156 dL_law_1157 rfl dL_law_1158 dL_law_1159 dL_law_1160 rfl rfl rfl rfl rfl (fun w3 ew3 => ?_)
  rw [← eu1] at ew1; have ew1 := ew1.symm; subst ew1
  rw [← eu2] at ew2; have ew2 := ew2.symm; subst ew2
  rw [← eu3] at ew3; have ew3 := ew3.symm; subst ew3
  obtain ⟨⟨r2, τ⟩, hq, hp⟩ := ws_pr (s_bundle 70000 (by decide) σ hR u1 u2 u3) (zc_bundle 70000 σ u1 u2 u3)
  refine q_ci (pc' := 1164) hB (l_runV (As := [.int u1, .int u2, .int u3]) (rest := []) C hB (m_X12_bundle 70000 Γ l _ y ρ σ hM u1 u2 u3 (r2, τ) hq) lb_X12_bundle lv_X12_bundle lk_L_130 hM.1 (Nat.le_of_ble_eq_true rfl) (Nat.le_of_ble_eq_true rfl) ⟨Nat.le_trans (Nat.add_le_add_right hcs.1 _) (Nat.le_of_ble_eq_true rfl), Nat.le_trans (Nat.add_le_add_right hcs.2 _) (Nat.le_of_ble_eq_true rfl)⟩ rfl hl.1 rfl (Nat.le_of_ble_eq_true rfl) dL_law_1161) (fun _ _ _ => trivial) rfl (fun r3 γ H2 L2 p2 B2 => ?_)
  have hli2 := li0_mo (li_0 hli1) B2 p2.2.1 p2.2.2 hp.1.1 (lx_kpd hli1.2.2.2.2.2.1 p2.2.1 hp.2 hp.1.2 hp.1.1)
  refine lv_pop hx hb dL_law_1164 rfl (hp_n (n := 1165) rfl ?_)
  refine lv_goto (tgt := 2391) hx hb dL_law_1165 (by decide) ?_
  exact kk _ _ _ _ _ _ hli2
set_option maxRecDepth 100000 in
set_option maxHeartbeats 4000000 in
theorem lc_28 {p : Program} {l : Launch} {e : Env} {s : State} {m : MethodId} {below : List Frame} {meth : Method} {c : Code} {Γ : hp_G} {b Ln x y : Nat} {xs : Nat → Int32} {ρ : Nat → Nat} (C : hp_C Γ p m c cL_law 4 s #[Value.ref b] RL) (hX : va_X b Ln xs s s.heap) (hbl : b < s.heap.size) (hbA : ¬ hp_A Γ b) (hLn : Ln ≤ 3072) {α : hp_T} {σ : ms_T} {H : Heap} {L : List Loc} {cells slots : Nat} (hli : li Γ s x y ρ α σ H L cells slots) (i : Int32) (hi : 0 ≤ i.toInt) (hi2 : i.toInt + 6 ≤ (Ln : Int)) (ls : Array Slot) (hl : lv_has ls 4 [(0, .ref b), (1, .ref x), (2, .ref y), (3, .int i)]) (kk : ∀ (α : hp_T) (σ : ms_T) (H : Heap) (L : List Loc) (cells slots : Nat), li Γ s x y ρ α σ H L cells slots → W p l e room_1 s m #[Value.ref b] below meth c H L cells slots (lw_Z below #[Value.ref b] s) (F0 m 2391 ls [])) : W p l e room_1 s m #[Value.ref b] below meth c H L cells slots (lw_Z below #[Value.ref b] s) (F0 m 1168 ls []) := by
  have hx := C.1.1
  have hb := C.1.2.1
  have hi3 : (Ln : Int) ≤ 3072 := by omega
  have hcs : cells ≤ 986 ∧ slots ≤ 148568 := by rcases hli.2.2.2.2.2.2 with ⟨-, h1, h2⟩ | ⟨-, h1, h2⟩ <;> omega
  obtain ⟨hB, hG, hKx, hM, hR, hE, hRo⟩ := id hli
  refine lv_aload_n hx hb dL_law_1168 rfl (lv_at hl 1 rfl) (hp_n (n := 1169) rfl ?_)
  refine l_arg (j := 1) (nj := 1) (q0 := 0) (q3 := 3) (pc' := 1174) C hB hX hbl hbA hl rfl rfl (by decide) hi hi2 hi3 dL_law_1169 dL_law_1170 rfl dL_law_1171 dL_law_1172 dL_law_1173 rfl rfl rfl rfl rfl (fun u1 eu1 => ?_)
  refine l_arg (j := 2) (nj := 2) (q0 := 0) (q3 := 3) (pc' := 1179) C hB hX hbl hbA hl rfl rfl (by decide) hi hi2 hi3 dL_law_1174 dL_law_1175 rfl dL_law_1176 dL_law_1177 dL_law_1178 rfl rfl rfl rfl rfl (fun u2 eu2 => ?_)
  obtain ⟨pl, hpl⟩ := RWL_any (a := x + 919) (hG.1 301 (x + 919) rfl).1 (hG.1 301 (x + 919) rfl).2
  obtain ⟨res1, hq1, hv1, -, -⟩ := k_peaks 70000 (by decide) α x (ms_E σ 40) hR.2 (RWX_Z hG hE.2.2.1) hE.2.1.1 hE.2.1.2.1 pl hpl u1 u2
  refine q_ci (pc' := 1182) hB (l_runV (As := [.int u1, .int u2]) (rest := []) C hB (n_X11_peaks 70000 Γ l α hG x hKx u1 u2 res1 hq1) lb_X11_peaks lv_X11_peaks lk_L_131 hKx (Nat.le_of_ble_eq_true rfl) (Nat.le_of_ble_eq_true rfl) ⟨Nat.le_trans (Nat.add_le_add_right hcs.1 _) (Nat.le_of_ble_eq_true rfl), Nat.le_trans (Nat.add_le_add_right hcs.2 _) (Nat.le_of_ble_eq_true rfl)⟩ rfl hl.1 rfl (Nat.le_of_ble_eq_true rfl) dL_law_1179) (fun _ _ _ => trivial) rfl (fun r1 β H1 L1 p1 B1 => ?_)
  have hli1 := li_cw hli B1 p1.2.2 (by decide)
  obtain ⟨hB, hG, hKx, hM, hR, hE, hRo⟩ := id hli1
  have hcs : cells + 0 ≤ 986 ∧ slots + 0 ≤ 148568 := by rcases hRo with ⟨-, h1, h2⟩ | ⟨-, h1, h2⟩ <;> omega
  refine lv_aload_n hx hb dL_law_1182 rfl (lv_at hl 2 rfl) (hp_n (n := 1183) rfl ?_)
  refine l_arg (j := 1) (nj := 1) (q0 := 0) (q3 := 3) (pc' := 1188) C hB hX hbl hbA hl rfl rfl (by decide) hi hi2 hi3 dL_law_1183 dL_law_1184 rfl dL_law_1185 dL_law_1186 dL_law_1187 rfl rfl rfl rfl rfl (fun w1 ew1 => ?_)
  refine l_arg (j := 2) (nj := 2) (q0 := 0) (q3 := 3) (pc' := 1193) C hB hX hbl hbA hl rfl rfl (by decide) hi hi2 hi3 dL_law_1188 dL_law_1189 rfl dL_law_1190 dL_law_1191 dL_law_1192 rfl rfl rfl rfl rfl (fun w2 ew2 => ?_)
  rw [← eu1] at ew1; have ew1 := ew1.symm; subst ew1
  rw [← eu2] at ew2; have ew2 := ew2.symm; subst ew2
  obtain ⟨⟨r2, τ⟩, hq, hp⟩ := ws_pr (ws_pr (s_peaks 70000 (by decide) σ hR u1 u2) (zc_peaks 70000 σ u1 u2)) (v_peaks 70000 σ hR.2 u1 u2)
  refine q_ci (pc' := 1196) hB (l_runV (As := [.int u1, .int u2]) (rest := [.int r1]) C hB (m_X12_peaks 70000 Γ l _ y ρ σ hM u1 u2 (r2, τ) hq) lb_X12_peaks lv_X12_peaks lk_L_134 hM.1 (Nat.le_of_ble_eq_true rfl) (Nat.le_of_ble_eq_true rfl) ⟨Nat.le_trans (Nat.add_le_add_right hcs.1 _) (Nat.le_of_ble_eq_true rfl), Nat.le_trans (Nat.add_le_add_right hcs.2 _) (Nat.le_of_ble_eq_true rfl)⟩ rfl hl.1 rfl (Nat.le_of_ble_eq_true rfl) dL_law_1193) (fun _ _ _ => trivial) rfl (fun r3 γ H2 L2 p2 B2 => ?_)
  have hli2 := li0_mo (li_0 hli1) B2 p2.2.1 p2.2.2 hp.1.1.1 (lx_kpd hli1.2.2.2.2.2.1 p2.2.1 hp.1.2 hp.1.1.2 hp.1.1.1)
  refine lv_icmp_eq (tgt := 2391) hx hb dL_law_1196 (by decide) (fun cq => ?_) (fun cq => ?_)
  · exact kk _ _ _ _ _ _ hli2
  · exact absurd (p1.1.trans ((Int32.toInt_inj.mp (hv1.trans hp.2.1.symm)).trans p2.1.symm)) cq
set_option maxRecDepth 100000 in
set_option maxHeartbeats 4000000 in
theorem lc_29 {p : Program} {l : Launch} {e : Env} {s : State} {m : MethodId} {below : List Frame} {meth : Method} {c : Code} {Γ : hp_G} {b Ln x y : Nat} {xs : Nat → Int32} {ρ : Nat → Nat} (C : hp_C Γ p m c cL_law 4 s #[Value.ref b] RL) (hX : va_X b Ln xs s s.heap) (hbl : b < s.heap.size) (hbA : ¬ hp_A Γ b) (hLn : Ln ≤ 3072) {α : hp_T} {σ : ms_T} {H : Heap} {L : List Loc} {cells slots : Nat} (hli : li Γ s x y ρ α σ H L cells slots) (i : Int32) (hi : 0 ≤ i.toInt) (hi2 : i.toInt + 6 ≤ (Ln : Int)) (ls : Array Slot) (hl : lv_has ls 4 [(0, .ref b), (1, .ref x), (2, .ref y), (3, .int i)]) (kk : ∀ (α : hp_T) (σ : ms_T) (H : Heap) (L : List Loc) (cells slots : Nat), li Γ s x y ρ α σ H L cells slots → W p l e room_1 s m #[Value.ref b] below meth c H L cells slots (lw_Z below #[Value.ref b] s) (F0 m 2391 ls [])) : W p l e room_1 s m #[Value.ref b] below meth c H L cells slots (lw_Z below #[Value.ref b] s) (F0 m 1201 ls []) := by
  have hx := C.1.1
  have hb := C.1.2.1
  have hi3 : (Ln : Int) ≤ 3072 := by omega
  have hcs : cells ≤ 986 ∧ slots ≤ 148568 := by rcases hli.2.2.2.2.2.2 with ⟨-, h1, h2⟩ | ⟨-, h1, h2⟩ <;> omega
  obtain ⟨hB, hG, hKx, hM, hR, hE, hRo⟩ := id hli
  refine lv_aload_n hx hb dL_law_1201 rfl (lv_at hl 1 rfl) (hp_n (n := 1202) rfl ?_)
  refine l_arg (j := 1) (nj := 1) (q0 := 0) (q3 := 3) (pc' := 1207) C hB hX hbl hbA hl rfl rfl (by decide) hi hi2 hi3 dL_law_1202 dL_law_1203 rfl dL_law_1204 dL_law_1205 dL_law_1206 rfl rfl rfl rfl rfl (fun u1 eu1 => ?_)
  refine l_arg (j := 2) (nj := 2) (q0 := 0) (q3 := 3) (pc' := 1212) C hB hX hbl hbA hl rfl rfl (by decide) hi hi2 hi3 dL_law_1207 dL_law_1208 rfl dL_law_1209 dL_law_1210 dL_law_1211 rfl rfl rfl rfl rfl (fun u2 eu2 => ?_)
  refine q_ci (pc' := 1215) hB (l_runV (As := [.int u1, .int u2]) (rest := []) C hB (t_X11_extend Γ l α hG x hKx u1 u2) lb_X11_extend lv_X11_extend lk_L_135 hKx (Nat.le_of_ble_eq_true rfl) (Nat.le_of_ble_eq_true rfl) ⟨Nat.le_trans (Nat.add_le_add_right hcs.1 _) (Nat.le_of_ble_eq_true rfl), Nat.le_trans (Nat.add_le_add_right hcs.2 _) (Nat.le_of_ble_eq_true rfl)⟩ rfl hl.1 rfl (Nat.le_of_ble_eq_true rfl) dL_law_1212) (fun _ _ _ => trivial) rfl (fun r1 β H1 L1 p1 B1 => ?_)
  have hli1 := li_cw hli B1 p1 (by decide)
  refine lv_pop hx hb dL_law_1215 rfl (hp_n (n := 1216) rfl ?_)
  obtain ⟨hB, hG, hKx, hM, hR, hE, hRo⟩ := id hli1
  have hcs : cells + 0 ≤ 986 ∧ slots + 0 ≤ 148568 := by rcases hRo with ⟨-, h1, h2⟩ | ⟨-, h1, h2⟩ <;> omega
  refine lv_aload_n hx hb dL_law_1216 rfl (lv_at hl 2 rfl) (hp_n (n := 1217) rfl ?_)
  refine l_arg (j := 1) (nj := 1) (q0 := 0) (q3 := 3) (pc' := 1222) C hB hX hbl hbA hl rfl rfl (by decide) hi hi2 hi3 dL_law_1217 dL_law_1218 rfl dL_law_1219 dL_law_1220 dL_law_1221 rfl rfl rfl rfl rfl (fun w1 ew1 => ?_)
  refine l_arg (j := 2) (nj := 2) (q0 := 0) (q3 := 3) (pc' := 1227) C hB hX hbl hbA hl rfl rfl (by decide) hi hi2 hi3 dL_law_1222 dL_law_1223 rfl dL_law_1224 dL_law_1225 dL_law_1226 rfl rfl rfl rfl rfl (fun w2 ew2 => ?_)
  rw [← eu1] at ew1; have ew1 := ew1.symm; subst ew1
  rw [← eu2] at ew2; have ew2 := ew2.symm; subst ew2
  obtain ⟨⟨r2, τ⟩, hq, hp⟩ := ws_pr (s_extend 70000 (by decide) σ hR u1 u2) (zc_extend 70000 (by decide) σ hR u1 u2)
  refine q_ci (pc' := 1230) hB (l_runV (As := [.int u1, .int u2]) (rest := []) C hB (m_X12_extend 70000 Γ l _ y ρ σ hM u1 u2 (r2, τ) hq) lb_X12_extend lv_X12_extend lk_L_138 hM.1 (Nat.le_of_ble_eq_true rfl) (Nat.le_of_ble_eq_true rfl) ⟨Nat.le_trans (Nat.add_le_add_right hcs.1 _) (Nat.le_of_ble_eq_true rfl), Nat.le_trans (Nat.add_le_add_right hcs.2 _) (Nat.le_of_ble_eq_true rfl)⟩ rfl hl.1 rfl (Nat.le_of_ble_eq_true rfl) dL_law_1227) (fun _ _ _ => trivial) rfl (fun r3 γ H2 L2 p2 B2 => ?_)
  have hli2 := li0_mo (li_0 hli1) B2 p2.2.1 p2.2.2 hp.1.1 (lx_kpd hli1.2.2.2.2.2.1 p2.2.1 hp.2 hp.1.2 hp.1.1)
  refine lv_pop hx hb dL_law_1230 rfl (hp_n (n := 1231) rfl ?_)
  refine lv_goto (tgt := 2391) hx hb dL_law_1231 (by decide) ?_
  exact kk _ _ _ _ _ _ hli2
set_option maxRecDepth 100000 in
set_option maxHeartbeats 4000000 in
theorem lc_30 {p : Program} {l : Launch} {e : Env} {s : State} {m : MethodId} {below : List Frame} {meth : Method} {c : Code} {Γ : hp_G} {b Ln x y : Nat} {xs : Nat → Int32} {ρ : Nat → Nat} (C : hp_C Γ p m c cL_law 4 s #[Value.ref b] RL) (hX : va_X b Ln xs s s.heap) (hbl : b < s.heap.size) (hbA : ¬ hp_A Γ b) (hLn : Ln ≤ 3072) {α : hp_T} {σ : ms_T} {H : Heap} {L : List Loc} {cells slots : Nat} (hli : li Γ s x y ρ α σ H L cells slots) (i : Int32) (hi : 0 ≤ i.toInt) (hi2 : i.toInt + 6 ≤ (Ln : Int)) (ls : Array Slot) (hl : lv_has ls 4 [(0, .ref b), (1, .ref x), (2, .ref y), (3, .int i)]) (kk : ∀ (α : hp_T) (σ : ms_T) (H : Heap) (L : List Loc) (cells slots : Nat), li Γ s x y ρ α σ H L cells slots → W p l e room_1 s m #[Value.ref b] below meth c H L cells slots (lw_Z below #[Value.ref b] s) (F0 m 2391 ls [])) : W p l e room_1 s m #[Value.ref b] below meth c H L cells slots (lw_Z below #[Value.ref b] s) (F0 m 1234 ls []) := by
  have hx := C.1.1
  have hb := C.1.2.1
  have hi3 : (Ln : Int) ≤ 3072 := by omega
  have hcs : cells ≤ 986 ∧ slots ≤ 148568 := by rcases hli.2.2.2.2.2.2 with ⟨-, h1, h2⟩ | ⟨-, h1, h2⟩ <;> omega
  obtain ⟨hB, hG, hKx, hM, hR, hE, hRo⟩ := id hli
  refine lv_aload_n hx hb dL_law_1234 rfl (lv_at hl 1 rfl) (hp_n (n := 1235) rfl ?_)
  refine l_arg (j := 1) (nj := 1) (q0 := 0) (q3 := 3) (pc' := 1240) C hB hX hbl hbA hl rfl rfl (by decide) hi hi2 hi3 dL_law_1235 dL_law_1236 rfl dL_law_1237 dL_law_1238 dL_law_1239 rfl rfl rfl rfl rfl (fun u1 eu1 => ?_)
  refine l_arg (j := 2) (nj := 2) (q0 := 0) (q3 := 3) (pc' := 1245) C hB hX hbl hbA hl rfl rfl (by decide) hi hi2 hi3 dL_law_1240 dL_law_1241 rfl dL_law_1242 dL_law_1243 dL_law_1244 rfl rfl rfl rfl rfl (fun u2 eu2 => ?_)
  refine l_arg (j := 3) (nj := 3) (q0 := 0) (q3 := 3) (pc' := 1250) C hB hX hbl hbA hl rfl rfl (by decide) hi hi2 hi3 dL_law_1245 dL_law_1246 rfl dL_law_1247 dL_law_1248 dL_law_1249 rfl rfl rfl rfl rfl (fun u3 eu3 => ?_)
  refine l_arg (j := 4) (nj := 4) (q0 := 0) (q3 := 3) (pc' := 1255) C hB hX hbl hbA hl rfl rfl (by decide) hi hi2 hi3 dL_law_1250 dL_law_1251 rfl dL_law_1252 dL_law_1253 dL_law_1254 rfl rfl rfl rfl rfl (fun u4 eu4 => ?_)
  refine q_ci (pc' := 1258) hB (l_runV (As := [.int u1, .int u2, .int u3, .int u4]) (rest := []) C hB (t_X11_checks Γ l α hG x hKx u1 u2 u3 u4) lb_X11_checks lv_X11_checks lk_L_139 hKx (Nat.le_of_ble_eq_true rfl) (Nat.le_of_ble_eq_true rfl) ⟨Nat.le_trans (Nat.add_le_add_right hcs.1 _) (Nat.le_of_ble_eq_true rfl), Nat.le_trans (Nat.add_le_add_right hcs.2 _) (Nat.le_of_ble_eq_true rfl)⟩ rfl hl.1 rfl (Nat.le_of_ble_eq_true rfl) dL_law_1255) (fun _ _ _ => trivial) rfl (fun r1 β H1 L1 p1 B1 => ?_)
  have hli1 := li_cw hli B1 p1 (by decide)
  refine lv_pop hx hb dL_law_1258 rfl (hp_n (n := 1259) rfl ?_)
  obtain ⟨hB, hG, hKx, hM, hR, hE, hRo⟩ := id hli1
  have hcs : cells + 0 ≤ 986 ∧ slots + 0 ≤ 148568 := by rcases hRo with ⟨-, h1, h2⟩ | ⟨-, h1, h2⟩ <;> omega
  refine lv_aload_n hx hb dL_law_1259 rfl (lv_at hl 2 rfl) (hp_n (n := 1260) rfl ?_)
  refine l_arg (j := 1) (nj := 1) (q0 := 0) (q3 := 3) (pc' := 1265) C hB hX hbl hbA hl rfl rfl (by decide) hi hi2 hi3 dL_law_1260 dL_law_1261 rfl dL_law_1262 dL_law_1263 dL_law_1264 rfl rfl rfl rfl rfl (fun w1 ew1 => ?_)
  refine l_arg (j := 2) (nj := 2) (q0 := 0) (q3 := 3) (pc' := 1270) C hB hX hbl hbA hl rfl rfl (by decide) hi hi2 hi3 dL_law_1265 dL_law_1266 rfl dL_law_1267 dL_law_1268 dL_law_1269 rfl rfl rfl rfl rfl (fun w2 ew2 => ?_)
  refine l_arg (j := 3) (nj := 3) (q0 := 0) (q3 := 3) (pc' := 1275) C hB hX hbl hbA hl rfl rfl (by decide) hi hi2 hi3 dL_law_1270 dL_law_1271 rfl dL_law_1272 dL_law_1273 dL_law_1274 rfl rfl rfl rfl rfl (fun w3 ew3 => ?_)
  refine l_arg (j := 4) (nj := 4) (q0 := 0) (q3 := 3) (pc' := 1280) C hB hX hbl hbA hl rfl rfl (by decide) hi hi2 hi3 dL_law_1275 dL_law_1276 rfl dL_law_1277 dL_law_1278 dL_law_1279 rfl rfl rfl rfl rfl (fun w4 ew4 => ?_)
  rw [← eu1] at ew1; have ew1 := ew1.symm; subst ew1
  rw [← eu2] at ew2; have ew2 := ew2.symm; subst ew2
  rw [← eu3] at ew3; have ew3 := ew3.symm; subst ew3
  rw [← eu4] at ew4; have ew4 := ew4.symm; subst ew4
  obtain ⟨⟨r2, τ⟩, hq, hp⟩ := ws_pr (s_checks 70000 (by decide) σ hR u1 u2 u3 u4) (z_X12_checks kq_rf)
  refine q_ci (pc' := 1283) hB (l_runV (As := [.int u1, .int u2, .int u3, .int u4]) (rest := []) C hB (m_X12_checks 70000 Γ l _ y ρ σ hM u1 u2 u3 u4 (r2, τ) hq) lb_X12_checks lv_X12_checks lk_L_142 hM.1 (Nat.le_of_ble_eq_true rfl) (Nat.le_of_ble_eq_true rfl) ⟨Nat.le_trans (Nat.add_le_add_right hcs.1 _) (Nat.le_of_ble_eq_true rfl), Nat.le_trans (Nat.add_le_add_right hcs.2 _) (Nat.le_of_ble_eq_true rfl)⟩ rfl hl.1 rfl (Nat.le_of_ble_eq_true rfl) dL_law_1280) (fun _ _ _ => trivial) rfl (fun r3 γ H2 L2 p2 B2 => ?_)
  have hli2 := li0_mo (li_0 hli1) B2 p2.2.1 p2.2.2 hp.1.1 (lx_kq hli1.2.2.2.2.2.1 p2.2.1 hp.2 hp.1.2 hp.1.1)
  refine lv_pop hx hb dL_law_1283 rfl (hp_n (n := 1284) rfl ?_)
  refine lv_goto (tgt := 2391) hx hb dL_law_1284 (by decide) ?_
  exact kk _ _ _ _ _ _ hli2
set_option maxRecDepth 100000 in
set_option maxHeartbeats 4000000 in
theorem lc_31 {p : Program} {l : Launch} {e : Env} {s : State} {m : MethodId} {below : List Frame} {meth : Method} {c : Code} {Γ : hp_G} {b Ln x y : Nat} {xs : Nat → Int32} {ρ : Nat → Nat} (C : hp_C Γ p m c cL_law 4 s #[Value.ref b] RL) (hX : va_X b Ln xs s s.heap) (hbl : b < s.heap.size) (hbA : ¬ hp_A Γ b) (hLn : Ln ≤ 3072) {α : hp_T} {σ : ms_T} {H : Heap} {L : List Loc} {cells slots : Nat} (hli : li Γ s x y ρ α σ H L cells slots) (i : Int32) (hi : 0 ≤ i.toInt) (hi2 : i.toInt + 6 ≤ (Ln : Int)) (ls : Array Slot) (hl : lv_has ls 4 [(0, .ref b), (1, .ref x), (2, .ref y), (3, .int i)]) (kk : ∀ (α : hp_T) (σ : ms_T) (H : Heap) (L : List Loc) (cells slots : Nat), li Γ s x y ρ α σ H L cells slots → W p l e room_1 s m #[Value.ref b] below meth c H L cells slots (lw_Z below #[Value.ref b] s) (F0 m 2391 ls [])) : W p l e room_1 s m #[Value.ref b] below meth c H L cells slots (lw_Z below #[Value.ref b] s) (F0 m 1287 ls []) := by
  have hx := C.1.1
  have hb := C.1.2.1
  have hi3 : (Ln : Int) ≤ 3072 := by omega
  have hcs : cells ≤ 986 ∧ slots ≤ 148568 := by rcases hli.2.2.2.2.2.2 with ⟨-, h1, h2⟩ | ⟨-, h1, h2⟩ <;> omega
  obtain ⟨hB, hG, hKx, hM, hR, hE, hRo⟩ := id hli
  refine lv_aload_n hx hb dL_law_1287 rfl (lv_at hl 1 rfl) (hp_n (n := 1288) rfl ?_)
  refine l_arg (j := 1) (nj := 1) (q0 := 0) (q3 := 3) (pc' := 1293) C hB hX hbl hbA hl rfl rfl (by decide) hi hi2 hi3 dL_law_1288 dL_law_1289 rfl dL_law_1290 dL_law_1291 dL_law_1292 rfl rfl rfl rfl rfl (fun u1 eu1 => ?_)
  refine l_arg (j := 2) (nj := 2) (q0 := 0) (q3 := 3) (pc' := 1298) C hB hX hbl hbA hl rfl rfl (by decide) hi hi2 hi3 dL_law_1293 dL_law_1294 rfl dL_law_1295 dL_law_1296 dL_law_1297 rfl rfl rfl rfl rfl (fun u2 eu2 => ?_)
  refine l_arg (j := 3) (nj := 3) (q0 := 0) (q3 := 3) (pc' := 1303) C hB hX hbl hbA hl rfl rfl (by decide) hi hi2 hi3 dL_law_1298 dL_law_1299 rfl dL_law_1300 dL_law_1301 dL_law_1302 rfl rfl rfl rfl rfl (fun u3 eu3 => ?_)
  refine l_arg (j := 4) (nj := 4) (q0 := 0) (q3 := 3) (pc' := 1308) C hB hX hbl hbA hl rfl rfl (by decide) hi hi2 hi3 dL_law_1303 dL_law_1304 rfl dL_law_1305 dL_law_1306 dL_law_1307 rfl rfl rfl rfl rfl (fun u4 eu4 => ?_)
  refine q_ci (pc' := 1311) hB (l_runV (As := [.int u1, .int u2, .int u3, .int u4]) (rest := []) C hB (t_X11_growth Γ l α hG x hKx u1 u2 u3 u4) lb_X11_growth lv_X11_growth lk_L_143 hKx (Nat.le_of_ble_eq_true rfl) (Nat.le_of_ble_eq_true rfl) ⟨Nat.le_trans (Nat.add_le_add_right hcs.1 _) (Nat.le_of_ble_eq_true rfl), Nat.le_trans (Nat.add_le_add_right hcs.2 _) (Nat.le_of_ble_eq_true rfl)⟩ rfl hl.1 rfl (Nat.le_of_ble_eq_true rfl) dL_law_1308) (fun _ _ _ => trivial) rfl (fun r1 β H1 L1 p1 B1 => ?_)
  have hli1 := li_cw hli B1 p1 (by decide)
  refine lv_pop hx hb dL_law_1311 rfl (hp_n (n := 1312) rfl ?_)
  obtain ⟨hB, hG, hKx, hM, hR, hE, hRo⟩ := id hli1
  have hcs : cells + 0 ≤ 986 ∧ slots + 0 ≤ 148568 := by rcases hRo with ⟨-, h1, h2⟩ | ⟨-, h1, h2⟩ <;> omega
  refine lv_aload_n hx hb dL_law_1312 rfl (lv_at hl 2 rfl) (hp_n (n := 1313) rfl ?_)
  refine l_arg (j := 1) (nj := 1) (q0 := 0) (q3 := 3) (pc' := 1318) C hB hX hbl hbA hl rfl rfl (by decide) hi hi2 hi3 dL_law_1313 dL_law_1314 rfl dL_law_1315 dL_law_1316 dL_law_1317 rfl rfl rfl rfl rfl (fun w1 ew1 => ?_)
  refine l_arg (j := 2) (nj := 2) (q0 := 0) (q3 := 3) (pc' := 1323) C hB hX hbl hbA hl rfl rfl (by decide) hi hi2 hi3 dL_law_1318 dL_law_1319 rfl dL_law_1320 dL_law_1321 dL_law_1322 rfl rfl rfl rfl rfl (fun w2 ew2 => ?_)
  refine l_arg (j := 3) (nj := 3) (q0 := 0) (q3 := 3) (pc' := 1328) C hB hX hbl hbA hl rfl rfl (by decide) hi hi2 hi3 dL_law_1323 dL_law_1324 rfl dL_law_1325 dL_law_1326 dL_law_1327 rfl rfl rfl rfl rfl (fun w3 ew3 => ?_)
  refine l_arg (j := 4) (nj := 4) (q0 := 0) (q3 := 3) (pc' := 1333) C hB hX hbl hbA hl rfl rfl (by decide) hi hi2 hi3 dL_law_1328 dL_law_1329 rfl dL_law_1330 dL_law_1331 dL_law_1332 rfl rfl rfl rfl rfl (fun w4 ew4 => ?_)
  rw [← eu1] at ew1; have ew1 := ew1.symm; subst ew1
  rw [← eu2] at ew2; have ew2 := ew2.symm; subst ew2
  rw [← eu3] at ew3; have ew3 := ew3.symm; subst ew3
  rw [← eu4] at ew4; have ew4 := ew4.symm; subst ew4
  obtain ⟨⟨r2, τ⟩, hq, hp⟩ := ws_pr (s_growth_ 70000 (by decide) σ hR u1 u2 u3 u4) (z_X12_growth_ kq_rf)
  refine q_ci (pc' := 1336) hB (l_runV (As := [.int u1, .int u2, .int u3, .int u4]) (rest := []) C hB (m_X12_growth_ 70000 Γ l _ y ρ σ hM u1 u2 u3 u4 (r2, τ) hq) lb_X12_growth_ lv_X12_growth_ lk_L_146 hM.1 (Nat.le_of_ble_eq_true rfl) (Nat.le_of_ble_eq_true rfl) ⟨Nat.le_trans (Nat.add_le_add_right hcs.1 _) (Nat.le_of_ble_eq_true rfl), Nat.le_trans (Nat.add_le_add_right hcs.2 _) (Nat.le_of_ble_eq_true rfl)⟩ rfl hl.1 rfl (Nat.le_of_ble_eq_true rfl) dL_law_1333) (fun _ _ _ => trivial) rfl (fun r3 γ H2 L2 p2 B2 => ?_)
  have hli2 := li0_mo (li_0 hli1) B2 p2.2.1 p2.2.2 hp.1.1 (lx_kq hli1.2.2.2.2.2.1 p2.2.1 hp.2 hp.1.2 hp.1.1)
  refine lv_pop hx hb dL_law_1336 rfl (hp_n (n := 1337) rfl ?_)
  refine lv_goto (tgt := 2391) hx hb dL_law_1337 (by decide) ?_
  exact kk _ _ _ _ _ _ hli2
set_option maxRecDepth 100000 in
set_option maxHeartbeats 4000000 in
theorem lc_32 {p : Program} {l : Launch} {e : Env} {s : State} {m : MethodId} {below : List Frame} {meth : Method} {c : Code} {Γ : hp_G} {b Ln x y : Nat} {xs : Nat → Int32} {ρ : Nat → Nat} (C : hp_C Γ p m c cL_law 4 s #[Value.ref b] RL) (hX : va_X b Ln xs s s.heap) (hbl : b < s.heap.size) (hbA : ¬ hp_A Γ b) (hLn : Ln ≤ 3072) {α : hp_T} {σ : ms_T} {H : Heap} {L : List Loc} {cells slots : Nat} (hli : li Γ s x y ρ α σ H L cells slots) (i : Int32) (hi : 0 ≤ i.toInt) (hi2 : i.toInt + 6 ≤ (Ln : Int)) (ls : Array Slot) (hl : lv_has ls 4 [(0, .ref b), (1, .ref x), (2, .ref y), (3, .int i)]) (kk : ∀ (α : hp_T) (σ : ms_T) (H : Heap) (L : List Loc) (cells slots : Nat), li Γ s x y ρ α σ H L cells slots → W p l e room_1 s m #[Value.ref b] below meth c H L cells slots (lw_Z below #[Value.ref b] s) (F0 m 2391 ls [])) : W p l e room_1 s m #[Value.ref b] below meth c H L cells slots (lw_Z below #[Value.ref b] s) (F0 m 1340 ls []) := by
  have hx := C.1.1
  have hb := C.1.2.1
  have hi3 : (Ln : Int) ≤ 3072 := by omega
  have hcs : cells ≤ 986 ∧ slots ≤ 148568 := by rcases hli.2.2.2.2.2.2 with ⟨-, h1, h2⟩ | ⟨-, h1, h2⟩ <;> omega
  obtain ⟨hB, hG, hKx, hM, hR, hE, hRo⟩ := id hli
  refine lv_aload_n hx hb dL_law_1340 rfl (lv_at hl 1 rfl) (hp_n (n := 1341) rfl ?_)
  refine l_arg (j := 1) (nj := 1) (q0 := 0) (q3 := 3) (pc' := 1346) C hB hX hbl hbA hl rfl rfl (by decide) hi hi2 hi3 dL_law_1341 dL_law_1342 rfl dL_law_1343 dL_law_1344 dL_law_1345 rfl rfl rfl rfl rfl (fun u1 eu1 => ?_)
  refine l_arg (j := 2) (nj := 2) (q0 := 0) (q3 := 3) (pc' := 1351) C hB hX hbl hbA hl rfl rfl (by decide) hi hi2 hi3 dL_law_1346 dL_law_1347 rfl dL_law_1348 dL_law_1349 dL_law_1350 rfl rfl rfl rfl rfl (fun u2 eu2 => ?_)
  refine l_arg (j := 3) (nj := 3) (q0 := 0) (q3 := 3) (pc' := 1356) C hB hX hbl hbA hl rfl rfl (by decide) hi hi2 hi3 dL_law_1351 dL_law_1352 rfl dL_law_1353 dL_law_1354 dL_law_1355 rfl rfl rfl rfl rfl (fun u3 eu3 => ?_)
  refine q_ci (pc' := 1359) hB (l_runV (As := [.int u1, .int u2, .int u3]) (rest := []) C hB (t_X11_bundled Γ l α hG x hKx u1 u2 u3) lb_X11_bundled lv_X11_bundled lk_L_147 hKx (Nat.le_of_ble_eq_true rfl) (Nat.le_of_ble_eq_true rfl) ⟨Nat.le_trans (Nat.add_le_add_right hcs.1 _) (Nat.le_of_ble_eq_true rfl), Nat.le_trans (Nat.add_le_add_right hcs.2 _) (Nat.le_of_ble_eq_true rfl)⟩ rfl hl.1 rfl (Nat.le_of_ble_eq_true rfl) dL_law_1356) (fun _ _ _ => trivial) rfl (fun r1 β H1 L1 p1 B1 => ?_)
  have hli1 := li_cw hli B1 p1 (by decide)
  refine lv_pop hx hb dL_law_1359 rfl (hp_n (n := 1360) rfl ?_)
  obtain ⟨hB, hG, hKx, hM, hR, hE, hRo⟩ := id hli1
  have hcs : cells + 0 ≤ 986 ∧ slots + 0 ≤ 148568 := by rcases hRo with ⟨-, h1, h2⟩ | ⟨-, h1, h2⟩ <;> omega
  refine lv_aload_n hx hb dL_law_1360 rfl (lv_at hl 2 rfl) (hp_n (n := 1361) rfl ?_)
  refine l_arg (j := 1) (nj := 1) (q0 := 0) (q3 := 3) (pc' := 1366) C hB hX hbl hbA hl rfl rfl (by decide) hi hi2 hi3 dL_law_1361 dL_law_1362 rfl dL_law_1363 dL_law_1364 dL_law_1365 rfl rfl rfl rfl rfl (fun w1 ew1 => ?_)
  refine l_arg (j := 2) (nj := 2) (q0 := 0) (q3 := 3) (pc' := 1371) C hB hX hbl hbA hl rfl rfl (by decide) hi hi2 hi3 dL_law_1366 dL_law_1367 rfl dL_law_1368 dL_law_1369 dL_law_1370 rfl rfl rfl rfl rfl (fun w2 ew2 => ?_)
  refine l_arg (j := 3) (nj := 3) (q0 := 0) (q3 := 3) (pc' := 1376) C hB hX hbl hbA hl rfl rfl (by decide) hi hi2 hi3 dL_law_1371 dL_law_1372 rfl dL_law_1373 dL_law_1374 dL_law_1375 rfl rfl rfl rfl rfl (fun w3 ew3 => ?_)
  rw [← eu1] at ew1; have ew1 := ew1.symm; subst ew1
  rw [← eu2] at ew2; have ew2 := ew2.symm; subst ew2
  rw [← eu3] at ew3; have ew3 := ew3.symm; subst ew3
  obtain ⟨⟨r2, τ⟩, hq, hp⟩ := ws_pr (s_bundled 70000 (by decide) σ hR u1 u2 u3) (z_X12_bundled kq_rf)
  refine q_ci (pc' := 1379) hB (l_runV (As := [.int u1, .int u2, .int u3]) (rest := []) C hB (m_X12_bundled 70000 Γ l _ y ρ σ hM u1 u2 u3 (r2, τ) hq) lb_X12_bundled lv_X12_bundled lk_L_150 hM.1 (Nat.le_of_ble_eq_true rfl) (Nat.le_of_ble_eq_true rfl) ⟨Nat.le_trans (Nat.add_le_add_right hcs.1 _) (Nat.le_of_ble_eq_true rfl), Nat.le_trans (Nat.add_le_add_right hcs.2 _) (Nat.le_of_ble_eq_true rfl)⟩ rfl hl.1 rfl (Nat.le_of_ble_eq_true rfl) dL_law_1376) (fun _ _ _ => trivial) rfl (fun r3 γ H2 L2 p2 B2 => ?_)
  have hli2 := li0_mo (li_0 hli1) B2 p2.2.1 p2.2.2 hp.1.1 (lx_kq hli1.2.2.2.2.2.1 p2.2.1 hp.2 hp.1.2 hp.1.1)
  refine lv_pop hx hb dL_law_1379 rfl (hp_n (n := 1380) rfl ?_)
  refine lv_goto (tgt := 2391) hx hb dL_law_1380 (by decide) ?_
  exact kk _ _ _ _ _ _ hli2
set_option maxRecDepth 100000 in
set_option maxHeartbeats 4000000 in
theorem lc_33 {p : Program} {l : Launch} {e : Env} {s : State} {m : MethodId} {below : List Frame} {meth : Method} {c : Code} {Γ : hp_G} {b Ln x y : Nat} {xs : Nat → Int32} {ρ : Nat → Nat} (C : hp_C Γ p m c cL_law 4 s #[Value.ref b] RL) (hX : va_X b Ln xs s s.heap) (hbl : b < s.heap.size) (hbA : ¬ hp_A Γ b) (hLn : Ln ≤ 3072) {α : hp_T} {σ : ms_T} {H : Heap} {L : List Loc} {cells slots : Nat} (hli : li Γ s x y ρ α σ H L cells slots) (i : Int32) (hi : 0 ≤ i.toInt) (hi2 : i.toInt + 6 ≤ (Ln : Int)) (ls : Array Slot) (hl : lv_has ls 4 [(0, .ref b), (1, .ref x), (2, .ref y), (3, .int i)]) (kk : ∀ (α : hp_T) (σ : ms_T) (H : Heap) (L : List Loc) (cells slots : Nat), li Γ s x y ρ α σ H L cells slots → W p l e room_1 s m #[Value.ref b] below meth c H L cells slots (lw_Z below #[Value.ref b] s) (F0 m 2391 ls [])) : W p l e room_1 s m #[Value.ref b] below meth c H L cells slots (lw_Z below #[Value.ref b] s) (F0 m 1383 ls []) := by
  have hx := C.1.1
  have hb := C.1.2.1
  have hi3 : (Ln : Int) ≤ 3072 := by omega
  have hcs : cells ≤ 986 ∧ slots ≤ 148568 := by rcases hli.2.2.2.2.2.2 with ⟨-, h1, h2⟩ | ⟨-, h1, h2⟩ <;> omega
  obtain ⟨hB, hG, hKx, hM, hR, hE, hRo⟩ := id hli
  refine lv_aload_n hx hb dL_law_1383 rfl (lv_at hl 1 rfl) (hp_n (n := 1384) rfl ?_)
  refine q_ci (pc' := 1387) hB (l_runV (As := []) (rest := []) C hB (t_X11_fold Γ l α hG x hKx ) lb_X11_fold lv_X11_fold lk_L_151 hKx (Nat.le_of_ble_eq_true rfl) (Nat.le_of_ble_eq_true rfl) ⟨Nat.le_trans (Nat.add_le_add_right hcs.1 _) (Nat.le_of_ble_eq_true rfl), Nat.le_trans (Nat.add_le_add_right hcs.2 _) (Nat.le_of_ble_eq_true rfl)⟩ rfl hl.1 rfl (Nat.le_of_ble_eq_true rfl) dL_law_1384) (fun _ _ _ => trivial) rfl (fun r1 β H1 L1 p1 B1 => ?_)
  have hli1 := li_cw hli B1 p1 (by decide)
  refine lv_pop hx hb dL_law_1387 rfl (hp_n (n := 1388) rfl ?_)
  obtain ⟨hB, hG, hKx, hM, hR, hE, hRo⟩ := id hli1
  have hcs : cells + 0 ≤ 986 ∧ slots + 0 ≤ 148568 := by rcases hRo with ⟨-, h1, h2⟩ | ⟨-, h1, h2⟩ <;> omega
  refine lv_aload_n hx hb dL_law_1388 rfl (lv_at hl 2 rfl) (hp_n (n := 1389) rfl ?_)
  obtain ⟨⟨r2, τ⟩, hq, hp⟩ := ws_pr (s_fold 70000 (by decide) σ hR ) (z_X12_fold kq_rf)
  refine q_ci (pc' := 1392) hB (l_runV (As := []) (rest := []) C hB (m_X12_fold 70000 Γ l _ y ρ σ hM  (r2, τ) hq) lb_X12_fold lv_X12_fold lk_L_154 hM.1 (Nat.le_of_ble_eq_true rfl) (Nat.le_of_ble_eq_true rfl) ⟨Nat.le_trans (Nat.add_le_add_right hcs.1 _) (Nat.le_of_ble_eq_true rfl), Nat.le_trans (Nat.add_le_add_right hcs.2 _) (Nat.le_of_ble_eq_true rfl)⟩ rfl hl.1 rfl (Nat.le_of_ble_eq_true rfl) dL_law_1389) (fun _ _ _ => trivial) rfl (fun r3 γ H2 L2 p2 B2 => ?_)
  have hli2 := li0_mo (li_0 hli1) B2 p2.2.1 p2.2.2 hp.1.1 (lx_kq hli1.2.2.2.2.2.1 p2.2.1 hp.2 hp.1.2 hp.1.1)
  refine lv_pop hx hb dL_law_1392 rfl (hp_n (n := 1393) rfl ?_)
  refine lv_goto (tgt := 2391) hx hb dL_law_1393 (by decide) ?_
  exact kk _ _ _ _ _ _ hli2
set_option maxRecDepth 100000 in
set_option maxHeartbeats 4000000 in
theorem lc_34 {p : Program} {l : Launch} {e : Env} {s : State} {m : MethodId} {below : List Frame} {meth : Method} {c : Code} {Γ : hp_G} {b Ln x y : Nat} {xs : Nat → Int32} {ρ : Nat → Nat} (C : hp_C Γ p m c cL_law 4 s #[Value.ref b] RL) (hX : va_X b Ln xs s s.heap) (hbl : b < s.heap.size) (hbA : ¬ hp_A Γ b) (hLn : Ln ≤ 3072) {α : hp_T} {σ : ms_T} {H : Heap} {L : List Loc} {cells slots : Nat} (hli : li Γ s x y ρ α σ H L cells slots) (i : Int32) (hi : 0 ≤ i.toInt) (hi2 : i.toInt + 6 ≤ (Ln : Int)) (ls : Array Slot) (hl : lv_has ls 4 [(0, .ref b), (1, .ref x), (2, .ref y), (3, .int i)]) (kk : ∀ (α : hp_T) (σ : ms_T) (H : Heap) (L : List Loc) (cells slots : Nat), li Γ s x y ρ α σ H L cells slots → W p l e room_1 s m #[Value.ref b] below meth c H L cells slots (lw_Z below #[Value.ref b] s) (F0 m 2391 ls [])) : W p l e room_1 s m #[Value.ref b] below meth c H L cells slots (lw_Z below #[Value.ref b] s) (F0 m 1396 ls []) := by
  have hx := C.1.1
  have hb := C.1.2.1
  have hi3 : (Ln : Int) ≤ 3072 := by omega
  have hcs : cells ≤ 986 ∧ slots ≤ 148568 := by rcases hli.2.2.2.2.2.2 with ⟨-, h1, h2⟩ | ⟨-, h1, h2⟩ <;> omega
  obtain ⟨hB, hG, hKx, hM, hR, hE, hRo⟩ := id hli
  refine lv_aload_n hx hb dL_law_1396 rfl (lv_at hl 1 rfl) (hp_n (n := 1397) rfl ?_)
  refine l_arg (j := 1) (nj := 1) (q0 := 0) (q3 := 3) (pc' := 1402) C hB hX hbl hbA hl rfl rfl (by decide) hi hi2 hi3 dL_law_1397 dL_law_1398 rfl dL_law_1399 dL_law_1400 dL_law_1401 rfl rfl rfl rfl rfl (fun u1 eu1 => ?_)
  refine l_arg (j := 2) (nj := 2) (q0 := 0) (q3 := 3) (pc' := 1407) C hB hX hbl hbA hl rfl rfl (by decide) hi hi2 hi3 dL_law_1402 dL_law_1403 rfl dL_law_1404 dL_law_1405 dL_law_1406 rfl rfl rfl rfl rfl (fun u2 eu2 => ?_)
  refine q_ci (pc' := 1410) hB (l_runV (As := [.int u1, .int u2]) (rest := []) C hB (t_X11_steps Γ l α hG x hKx u1 u2) lb_X11_steps lv_X11_steps lk_L_155 hKx (Nat.le_of_ble_eq_true rfl) (Nat.le_of_ble_eq_true rfl) ⟨Nat.le_trans (Nat.add_le_add_right hcs.1 _) (Nat.le_of_ble_eq_true rfl), Nat.le_trans (Nat.add_le_add_right hcs.2 _) (Nat.le_of_ble_eq_true rfl)⟩ rfl hl.1 rfl (Nat.le_of_ble_eq_true rfl) dL_law_1407) (fun _ _ _ => trivial) rfl (fun r1 β H1 L1 p1 B1 => ?_)
  have hli1 := li_cw hli B1 p1 (by decide)
  refine lv_pop hx hb dL_law_1410 rfl (hp_n (n := 1411) rfl ?_)
  obtain ⟨hB, hG, hKx, hM, hR, hE, hRo⟩ := id hli1
  have hcs : cells + 0 ≤ 986 ∧ slots + 0 ≤ 148568 := by rcases hRo with ⟨-, h1, h2⟩ | ⟨-, h1, h2⟩ <;> omega
  refine lv_aload_n hx hb dL_law_1411 rfl (lv_at hl 2 rfl) (hp_n (n := 1412) rfl ?_)
  refine l_arg (j := 1) (nj := 1) (q0 := 0) (q3 := 3) (pc' := 1417) C hB hX hbl hbA hl rfl rfl (by decide) hi hi2 hi3 dL_law_1412 dL_law_1413 rfl dL_law_1414 dL_law_1415 dL_law_1416 rfl rfl rfl rfl rfl (fun w1 ew1 => ?_)
  refine l_arg (j := 2) (nj := 2) (q0 := 0) (q3 := 3) (pc' := 1422) C hB hX hbl hbA hl rfl rfl (by decide) hi hi2 hi3 dL_law_1417 dL_law_1418 rfl dL_law_1419 dL_law_1420 dL_law_1421 rfl rfl rfl rfl rfl (fun w2 ew2 => ?_)
  rw [← eu1] at ew1; have ew1 := ew1.symm; subst ew1
  rw [← eu2] at ew2; have ew2 := ew2.symm; subst ew2
  obtain ⟨⟨r2, τ⟩, hq, hp⟩ := ws_pr (s_steps 70000 (by decide) σ hR u1 u2) (z_X12_steps kq_rf)
  refine q_ci (pc' := 1425) hB (l_runV (As := [.int u1, .int u2]) (rest := []) C hB (m_X12_steps 70000 Γ l _ y ρ σ hM u1 u2 (r2, τ) hq) lb_X12_steps lv_X12_steps lk_L_158 hM.1 (Nat.le_of_ble_eq_true rfl) (Nat.le_of_ble_eq_true rfl) ⟨Nat.le_trans (Nat.add_le_add_right hcs.1 _) (Nat.le_of_ble_eq_true rfl), Nat.le_trans (Nat.add_le_add_right hcs.2 _) (Nat.le_of_ble_eq_true rfl)⟩ rfl hl.1 rfl (Nat.le_of_ble_eq_true rfl) dL_law_1422) (fun _ _ _ => trivial) rfl (fun r3 γ H2 L2 p2 B2 => ?_)
  have hli2 := li0_mo (li_0 hli1) B2 p2.2.1 p2.2.2 hp.1.1 (lx_kq hli1.2.2.2.2.2.1 p2.2.1 hp.2 hp.1.2 hp.1.1)
  refine lv_pop hx hb dL_law_1425 rfl (hp_n (n := 1426) rfl ?_)
  refine lv_goto (tgt := 2391) hx hb dL_law_1426 (by decide) ?_
  exact kk _ _ _ _ _ _ hli2
set_option maxRecDepth 100000 in
set_option maxHeartbeats 4000000 in
theorem lc_35 {p : Program} {l : Launch} {e : Env} {s : State} {m : MethodId} {below : List Frame} {meth : Method} {c : Code} {Γ : hp_G} {b Ln x y : Nat} {xs : Nat → Int32} {ρ : Nat → Nat} (C : hp_C Γ p m c cL_law 4 s #[Value.ref b] RL) (hX : va_X b Ln xs s s.heap) (hbl : b < s.heap.size) (hbA : ¬ hp_A Γ b) (hLn : Ln ≤ 3072) {α : hp_T} {σ : ms_T} {H : Heap} {L : List Loc} {cells slots : Nat} (hli : li Γ s x y ρ α σ H L cells slots) (i : Int32) (hi : 0 ≤ i.toInt) (hi2 : i.toInt + 6 ≤ (Ln : Int)) (ls : Array Slot) (hl : lv_has ls 4 [(0, .ref b), (1, .ref x), (2, .ref y), (3, .int i)]) (kk : ∀ (α : hp_T) (σ : ms_T) (H : Heap) (L : List Loc) (cells slots : Nat), li Γ s x y ρ α σ H L cells slots → W p l e room_1 s m #[Value.ref b] below meth c H L cells slots (lw_Z below #[Value.ref b] s) (F0 m 2391 ls [])) : W p l e room_1 s m #[Value.ref b] below meth c H L cells slots (lw_Z below #[Value.ref b] s) (F0 m 1429 ls []) := by
  have hx := C.1.1
  have hb := C.1.2.1
  have hi3 : (Ln : Int) ≤ 3072 := by omega
  have hcs : cells ≤ 986 ∧ slots ≤ 148568 := by rcases hli.2.2.2.2.2.2 with ⟨-, h1, h2⟩ | ⟨-, h1, h2⟩ <;> omega
  obtain ⟨hB, hG, hKx, hM, hR, hE, hRo⟩ := id hli
  refine lv_aload_n hx hb dL_law_1429 rfl (lv_at hl 1 rfl) (hp_n (n := 1430) rfl ?_)
  refine l_arg (j := 1) (nj := 1) (q0 := 0) (q3 := 3) (pc' := 1435) C hB hX hbl hbA hl rfl rfl (by decide) hi hi2 hi3 dL_law_1430 dL_law_1431 rfl dL_law_1432 dL_law_1433 dL_law_1434 rfl rfl rfl rfl rfl (fun u1 eu1 => ?_)
  refine l_arg (j := 2) (nj := 2) (q0 := 0) (q3 := 3) (pc' := 1440) C hB hX hbl hbA hl rfl rfl (by decide) hi hi2 hi3 dL_law_1435 dL_law_1436 rfl dL_law_1437 dL_law_1438 dL_law_1439 rfl rfl rfl rfl rfl (fun u2 eu2 => ?_)
  refine q_ci (pc' := 1443) hB (l_runV (As := [.int u1, .int u2]) (rest := []) C hB (t_X11_climbs Γ l α hG x hKx u1 u2) lb_X11_climbs lv_X11_climbs lk_L_159 hKx (Nat.le_of_ble_eq_true rfl) (Nat.le_of_ble_eq_true rfl) ⟨Nat.le_trans (Nat.add_le_add_right hcs.1 _) (Nat.le_of_ble_eq_true rfl), Nat.le_trans (Nat.add_le_add_right hcs.2 _) (Nat.le_of_ble_eq_true rfl)⟩ rfl hl.1 rfl (Nat.le_of_ble_eq_true rfl) dL_law_1440) (fun _ _ _ => trivial) rfl (fun r1 β H1 L1 p1 B1 => ?_)
  have hli1 := li_cw hli B1 p1 (by decide)
  refine lv_pop hx hb dL_law_1443 rfl (hp_n (n := 1444) rfl ?_)
  obtain ⟨hB, hG, hKx, hM, hR, hE, hRo⟩ := id hli1
  have hcs : cells + 0 ≤ 986 ∧ slots + 0 ≤ 148568 := by rcases hRo with ⟨-, h1, h2⟩ | ⟨-, h1, h2⟩ <;> omega
  refine lv_aload_n hx hb dL_law_1444 rfl (lv_at hl 2 rfl) (hp_n (n := 1445) rfl ?_)
  refine l_arg (j := 1) (nj := 1) (q0 := 0) (q3 := 3) (pc' := 1450) C hB hX hbl hbA hl rfl rfl (by decide) hi hi2 hi3 dL_law_1445 dL_law_1446 rfl dL_law_1447 dL_law_1448 dL_law_1449 rfl rfl rfl rfl rfl (fun w1 ew1 => ?_)
  refine l_arg (j := 2) (nj := 2) (q0 := 0) (q3 := 3) (pc' := 1455) C hB hX hbl hbA hl rfl rfl (by decide) hi hi2 hi3 dL_law_1450 dL_law_1451 rfl dL_law_1452 dL_law_1453 dL_law_1454 rfl rfl rfl rfl rfl (fun w2 ew2 => ?_)
  rw [← eu1] at ew1; have ew1 := ew1.symm; subst ew1
  rw [← eu2] at ew2; have ew2 := ew2.symm; subst ew2
  obtain ⟨⟨r2, τ⟩, hq, hp⟩ := ws_pr (s_climbs 70000 (by decide) σ hR u1 u2) (z_X12_climbs kq_rf)
  refine q_ci (pc' := 1458) hB (l_runV (As := [.int u1, .int u2]) (rest := []) C hB (m_X12_climbs 70000 Γ l _ y ρ σ hM u1 u2 (r2, τ) hq) lb_X12_climbs lv_X12_climbs lk_L_162 hM.1 (Nat.le_of_ble_eq_true rfl) (Nat.le_of_ble_eq_true rfl) ⟨Nat.le_trans (Nat.add_le_add_right hcs.1 _) (Nat.le_of_ble_eq_true rfl), Nat.le_trans (Nat.add_le_add_right hcs.2 _) (Nat.le_of_ble_eq_true rfl)⟩ rfl hl.1 rfl (Nat.le_of_ble_eq_true rfl) dL_law_1455) (fun _ _ _ => trivial) rfl (fun r3 γ H2 L2 p2 B2 => ?_)
  have hli2 := li0_mo (li_0 hli1) B2 p2.2.1 p2.2.2 hp.1.1 (lx_kq hli1.2.2.2.2.2.1 p2.2.1 hp.2 hp.1.2 hp.1.1)
  refine lv_pop hx hb dL_law_1458 rfl (hp_n (n := 1459) rfl ?_)
  refine lv_goto (tgt := 2391) hx hb dL_law_1459 (by decide) ?_
  exact kk _ _ _ _ _ _ hli2
set_option maxRecDepth 100000 in
set_option maxHeartbeats 4000000 in
theorem lc_36 {p : Program} {l : Launch} {e : Env} {s : State} {m : MethodId} {below : List Frame} {meth : Method} {c : Code} {Γ : hp_G} {b Ln x y : Nat} {xs : Nat → Int32} {ρ : Nat → Nat} (C : hp_C Γ p m c cL_law 4 s #[Value.ref b] RL) (hX : va_X b Ln xs s s.heap) (hbl : b < s.heap.size) (hbA : ¬ hp_A Γ b) (hLn : Ln ≤ 3072) {α : hp_T} {σ : ms_T} {H : Heap} {L : List Loc} {cells slots : Nat} (hli : li Γ s x y ρ α σ H L cells slots) (i : Int32) (hi : 0 ≤ i.toInt) (hi2 : i.toInt + 6 ≤ (Ln : Int)) (ls : Array Slot) (hl : lv_has ls 4 [(0, .ref b), (1, .ref x), (2, .ref y), (3, .int i)]) (kk : ∀ (α : hp_T) (σ : ms_T) (H : Heap) (L : List Loc) (cells slots : Nat), li Γ s x y ρ α σ H L cells slots → W p l e room_1 s m #[Value.ref b] below meth c H L cells slots (lw_Z below #[Value.ref b] s) (F0 m 2391 ls [])) : W p l e room_1 s m #[Value.ref b] below meth c H L cells slots (lw_Z below #[Value.ref b] s) (F0 m 1462 ls []) := by
  have hx := C.1.1
  have hb := C.1.2.1
  have hi3 : (Ln : Int) ≤ 3072 := by omega
  have hcs : cells ≤ 986 ∧ slots ≤ 148568 := by rcases hli.2.2.2.2.2.2 with ⟨-, h1, h2⟩ | ⟨-, h1, h2⟩ <;> omega
  obtain ⟨hB, hG, hKx, hM, hR, hE, hRo⟩ := id hli
  refine lv_aload_n hx hb dL_law_1462 rfl (lv_at hl 1 rfl) (hp_n (n := 1463) rfl ?_)
  refine l_arg (j := 1) (nj := 1) (q0 := 0) (q3 := 3) (pc' := 1468) C hB hX hbl hbA hl rfl rfl (by decide) hi hi2 hi3 dL_law_1463 dL_law_1464 rfl dL_law_1465 dL_law_1466 dL_law_1467 rfl rfl rfl rfl rfl (fun u1 eu1 => ?_)
  refine l_arg (j := 2) (nj := 2) (q0 := 0) (q3 := 3) (pc' := 1473) C hB hX hbl hbA hl rfl rfl (by decide) hi hi2 hi3 dL_law_1468 dL_law_1469 rfl dL_law_1470 dL_law_1471 dL_law_1472 rfl rfl rfl rfl rfl (fun u2 eu2 => ?_)
  refine q_ci (pc' := 1476) hB (l_runV (As := [.int u1, .int u2]) (rest := []) C hB (t_X11_agree Γ l α hG x hKx u1 u2) lb_X11_agree lv_X11_agree lk_L_163 hKx (Nat.le_of_ble_eq_true rfl) (Nat.le_of_ble_eq_true rfl) ⟨Nat.le_trans (Nat.add_le_add_right hcs.1 _) (Nat.le_of_ble_eq_true rfl), Nat.le_trans (Nat.add_le_add_right hcs.2 _) (Nat.le_of_ble_eq_true rfl)⟩ rfl hl.1 rfl (Nat.le_of_ble_eq_true rfl) dL_law_1473) (fun _ _ _ => trivial) rfl (fun r1 β H1 L1 p1 B1 => ?_)
  have hli1 := li_cw hli B1 p1 (by decide)
  refine lv_pop hx hb dL_law_1476 rfl (hp_n (n := 1477) rfl ?_)
  obtain ⟨hB, hG, hKx, hM, hR, hE, hRo⟩ := id hli1
  have hcs : cells + 0 ≤ 986 ∧ slots + 0 ≤ 148568 := by rcases hRo with ⟨-, h1, h2⟩ | ⟨-, h1, h2⟩ <;> omega
  refine lv_aload_n hx hb dL_law_1477 rfl (lv_at hl 2 rfl) (hp_n (n := 1478) rfl ?_)
  refine l_arg (j := 1) (nj := 1) (q0 := 0) (q3 := 3) (pc' := 1483) C hB hX hbl hbA hl rfl rfl (by decide) hi hi2 hi3 dL_law_1478 dL_law_1479 rfl dL_law_1480 dL_law_1481 dL_law_1482 rfl rfl rfl rfl rfl (fun w1 ew1 => ?_)
  refine l_arg (j := 2) (nj := 2) (q0 := 0) (q3 := 3) (pc' := 1488) C hB hX hbl hbA hl rfl rfl (by decide) hi hi2 hi3 dL_law_1483 dL_law_1484 rfl dL_law_1485 dL_law_1486 dL_law_1487 rfl rfl rfl rfl rfl (fun w2 ew2 => ?_)
  rw [← eu1] at ew1; have ew1 := ew1.symm; subst ew1
  rw [← eu2] at ew2; have ew2 := ew2.symm; subst ew2
  obtain ⟨⟨r2, τ⟩, hq, hp⟩ := ws_pr (s_agree 70000 (by decide) σ hR u1 u2) (z_X12_agree kq_rf)
  refine q_ci (pc' := 1491) hB (l_runV (As := [.int u1, .int u2]) (rest := []) C hB (m_X12_agree 70000 Γ l _ y ρ σ hM u1 u2 (r2, τ) hq) lb_X12_agree lv_X12_agree lk_L_166 hM.1 (Nat.le_of_ble_eq_true rfl) (Nat.le_of_ble_eq_true rfl) ⟨Nat.le_trans (Nat.add_le_add_right hcs.1 _) (Nat.le_of_ble_eq_true rfl), Nat.le_trans (Nat.add_le_add_right hcs.2 _) (Nat.le_of_ble_eq_true rfl)⟩ rfl hl.1 rfl (Nat.le_of_ble_eq_true rfl) dL_law_1488) (fun _ _ _ => trivial) rfl (fun r3 γ H2 L2 p2 B2 => ?_)
  have hli2 := li0_mo (li_0 hli1) B2 p2.2.1 p2.2.2 hp.1.1 (lx_kq hli1.2.2.2.2.2.1 p2.2.1 hp.2 hp.1.2 hp.1.1)
  refine lv_pop hx hb dL_law_1491 rfl (hp_n (n := 1492) rfl ?_)
  refine lv_goto (tgt := 2391) hx hb dL_law_1492 (by decide) ?_
  exact kk _ _ _ _ _ _ hli2
set_option maxRecDepth 100000 in
set_option maxHeartbeats 4000000 in
theorem lc_37 {p : Program} {l : Launch} {e : Env} {s : State} {m : MethodId} {below : List Frame} {meth : Method} {c : Code} {Γ : hp_G} {b Ln x y : Nat} {xs : Nat → Int32} {ρ : Nat → Nat} (C : hp_C Γ p m c cL_law 4 s #[Value.ref b] RL) (hX : va_X b Ln xs s s.heap) (hbl : b < s.heap.size) (hbA : ¬ hp_A Γ b) (hLn : Ln ≤ 3072) {α : hp_T} {σ : ms_T} {H : Heap} {L : List Loc} {cells slots : Nat} (hli : li Γ s x y ρ α σ H L cells slots) (i : Int32) (hi : 0 ≤ i.toInt) (hi2 : i.toInt + 6 ≤ (Ln : Int)) (ls : Array Slot) (hl : lv_has ls 4 [(0, .ref b), (1, .ref x), (2, .ref y), (3, .int i)]) (kk : ∀ (α : hp_T) (σ : ms_T) (H : Heap) (L : List Loc) (cells slots : Nat), li Γ s x y ρ α σ H L cells slots → W p l e room_1 s m #[Value.ref b] below meth c H L cells slots (lw_Z below #[Value.ref b] s) (F0 m 2391 ls [])) : W p l e room_1 s m #[Value.ref b] below meth c H L cells slots (lw_Z below #[Value.ref b] s) (F0 m 1495 ls []) := by
  have hx := C.1.1
  have hb := C.1.2.1
  have hi3 : (Ln : Int) ≤ 3072 := by omega
  have hcs : cells ≤ 986 ∧ slots ≤ 148568 := by rcases hli.2.2.2.2.2.2 with ⟨-, h1, h2⟩ | ⟨-, h1, h2⟩ <;> omega
  obtain ⟨hB, hG, hKx, hM, hR, hE, hRo⟩ := id hli
  refine lv_aload_n hx hb dL_law_1495 rfl (lv_at hl 1 rfl) (hp_n (n := 1496) rfl ?_)
  refine l_arg (j := 1) (nj := 1) (q0 := 0) (q3 := 3) (pc' := 1501) C hB hX hbl hbA hl rfl rfl (by decide) hi hi2 hi3 dL_law_1496 dL_law_1497 rfl dL_law_1498 dL_law_1499 dL_law_1500 rfl rfl rfl rfl rfl (fun u1 eu1 => ?_)
  refine l_arg (j := 2) (nj := 2) (q0 := 0) (q3 := 3) (pc' := 1506) C hB hX hbl hbA hl rfl rfl (by decide) hi hi2 hi3 dL_law_1501 dL_law_1502 rfl dL_law_1503 dL_law_1504 dL_law_1505 rfl rfl rfl rfl rfl (fun u2 eu2 => ?_)
  refine q_ci (pc' := 1509) hB (l_runV (As := [.int u1, .int u2]) (rest := []) C hB (t_X11_where Γ l α hG x hKx u1 u2) lb_X11_where lv_X11_where lk_L_167 hKx (Nat.le_of_ble_eq_true rfl) (Nat.le_of_ble_eq_true rfl) ⟨Nat.le_trans (Nat.add_le_add_right hcs.1 _) (Nat.le_of_ble_eq_true rfl), Nat.le_trans (Nat.add_le_add_right hcs.2 _) (Nat.le_of_ble_eq_true rfl)⟩ rfl hl.1 rfl (Nat.le_of_ble_eq_true rfl) dL_law_1506) (fun _ _ _ => trivial) rfl (fun r1 β H1 L1 p1 B1 => ?_)
  have hli1 := li_cw hli B1 p1 (by decide)
  refine lv_pop hx hb dL_law_1509 rfl (hp_n (n := 1510) rfl ?_)
  obtain ⟨hB, hG, hKx, hM, hR, hE, hRo⟩ := id hli1
  have hcs : cells + 0 ≤ 986 ∧ slots + 0 ≤ 148568 := by rcases hRo with ⟨-, h1, h2⟩ | ⟨-, h1, h2⟩ <;> omega
  refine lv_aload_n hx hb dL_law_1510 rfl (lv_at hl 2 rfl) (hp_n (n := 1511) rfl ?_)
  refine l_arg (j := 1) (nj := 1) (q0 := 0) (q3 := 3) (pc' := 1516) C hB hX hbl hbA hl rfl rfl (by decide) hi hi2 hi3 dL_law_1511 dL_law_1512 rfl dL_law_1513 dL_law_1514 dL_law_1515 rfl rfl rfl rfl rfl (fun w1 ew1 => ?_)
  refine l_arg (j := 2) (nj := 2) (q0 := 0) (q3 := 3) (pc' := 1521) C hB hX hbl hbA hl rfl rfl (by decide) hi hi2 hi3 dL_law_1516 dL_law_1517 rfl dL_law_1518 dL_law_1519 dL_law_1520 rfl rfl rfl rfl rfl (fun w2 ew2 => ?_)
  rw [← eu1] at ew1; have ew1 := ew1.symm; subst ew1
  rw [← eu2] at ew2; have ew2 := ew2.symm; subst ew2
  obtain ⟨⟨r2, τ⟩, hq, hp⟩ := ws_pr (s_where 70000 (by decide) σ hR u1 u2) (z_X12_where kq_rf)
  refine q_ci (pc' := 1524) hB (l_runV (As := [.int u1, .int u2]) (rest := []) C hB (m_X12_where 70000 Γ l _ y ρ σ hM u1 u2 (r2, τ) hq) lb_X12_where lv_X12_where lk_L_170 hM.1 (Nat.le_of_ble_eq_true rfl) (Nat.le_of_ble_eq_true rfl) ⟨Nat.le_trans (Nat.add_le_add_right hcs.1 _) (Nat.le_of_ble_eq_true rfl), Nat.le_trans (Nat.add_le_add_right hcs.2 _) (Nat.le_of_ble_eq_true rfl)⟩ rfl hl.1 rfl (Nat.le_of_ble_eq_true rfl) dL_law_1521) (fun _ _ _ => trivial) rfl (fun r3 γ H2 L2 p2 B2 => ?_)
  have hli2 := li0_mo (li_0 hli1) B2 p2.2.1 p2.2.2 hp.1.1 (lx_kq hli1.2.2.2.2.2.1 p2.2.1 hp.2 hp.1.2 hp.1.1)
  refine lv_pop hx hb dL_law_1524 rfl (hp_n (n := 1525) rfl ?_)
  refine lv_goto (tgt := 2391) hx hb dL_law_1525 (by decide) ?_
  exact kk _ _ _ _ _ _ hli2
set_option maxRecDepth 100000 in
set_option maxHeartbeats 4000000 in
theorem lc_38 {p : Program} {l : Launch} {e : Env} {s : State} {m : MethodId} {below : List Frame} {meth : Method} {c : Code} {Γ : hp_G} {b Ln x y : Nat} {xs : Nat → Int32} {ρ : Nat → Nat} (C : hp_C Γ p m c cL_law 4 s #[Value.ref b] RL) (hX : va_X b Ln xs s s.heap) (hbl : b < s.heap.size) (hbA : ¬ hp_A Γ b) (hLn : Ln ≤ 3072) {α : hp_T} {σ : ms_T} {H : Heap} {L : List Loc} {cells slots : Nat} (hli : li Γ s x y ρ α σ H L cells slots) (i : Int32) (hi : 0 ≤ i.toInt) (hi2 : i.toInt + 6 ≤ (Ln : Int)) (ls : Array Slot) (hl : lv_has ls 4 [(0, .ref b), (1, .ref x), (2, .ref y), (3, .int i)]) (kk : ∀ (α : hp_T) (σ : ms_T) (H : Heap) (L : List Loc) (cells slots : Nat), li Γ s x y ρ α σ H L cells slots → W p l e room_1 s m #[Value.ref b] below meth c H L cells slots (lw_Z below #[Value.ref b] s) (F0 m 2391 ls [])) : W p l e room_1 s m #[Value.ref b] below meth c H L cells slots (lw_Z below #[Value.ref b] s) (F0 m 1528 ls []) := by
  have hx := C.1.1
  have hb := C.1.2.1
  have hi3 : (Ln : Int) ≤ 3072 := by omega
  have hcs : cells ≤ 986 ∧ slots ≤ 148568 := by rcases hli.2.2.2.2.2.2 with ⟨-, h1, h2⟩ | ⟨-, h1, h2⟩ <;> omega
  obtain ⟨hB, hG, hKx, hM, hR, hE, hRo⟩ := id hli
  refine lv_aload_n hx hb dL_law_1528 rfl (lv_at hl 1 rfl) (hp_n (n := 1529) rfl ?_)
  refine l_arg (j := 1) (nj := 1) (q0 := 0) (q3 := 3) (pc' := 1534) C hB hX hbl hbA hl rfl rfl (by decide) hi hi2 hi3 dL_law_1529 dL_law_1530 rfl dL_law_1531 dL_law_1532 dL_law_1533 rfl rfl rfl rfl rfl (fun u1 eu1 => ?_)
  refine l_arg (j := 2) (nj := 2) (q0 := 0) (q3 := 3) (pc' := 1539) C hB hX hbl hbA hl rfl rfl (by decide) hi hi2 hi3 dL_law_1534 dL_law_1535 rfl dL_law_1536 dL_law_1537 dL_law_1538 rfl rfl rfl rfl rfl (fun u2 eu2 => ?_)
  refine l_arg (j := 3) (nj := 3) (q0 := 0) (q3 := 3) (pc' := 1544) C hB hX hbl hbA hl rfl rfl (by decide) hi hi2 hi3 dL_law_1539 dL_law_1540 rfl dL_law_1541 dL_law_1542 dL_law_1543 rfl rfl rfl rfl rfl (fun u3 eu3 => ?_)
  refine l_arg (j := 4) (nj := 4) (q0 := 0) (q3 := 3) (pc' := 1549) C hB hX hbl hbA hl rfl rfl (by decide) hi hi2 hi3 dL_law_1544 dL_law_1545 rfl dL_law_1546 dL_law_1547 dL_law_1548 rfl rfl rfl rfl rfl (fun u4 eu4 => ?_)
  refine q_ci (pc' := 1552) hB (l_runV (As := [.int u1, .int u2, .int u3, .int u4]) (rest := []) C hB (t_X11_tree Γ l α hG x hKx u1 u2 u3 u4) lb_X11_tree lv_X11_tree lk_L_171 hKx (Nat.le_of_ble_eq_true rfl) (Nat.le_of_ble_eq_true rfl) ⟨Nat.le_trans (Nat.add_le_add_right hcs.1 _) (Nat.le_of_ble_eq_true rfl), Nat.le_trans (Nat.add_le_add_right hcs.2 _) (Nat.le_of_ble_eq_true rfl)⟩ rfl hl.1 rfl (Nat.le_of_ble_eq_true rfl) dL_law_1549) (fun _ _ _ => trivial) rfl (fun r1 β H1 L1 p1 B1 => ?_)
  have hli1 := li_cw hli B1 p1 (by decide)
  refine lv_pop hx hb dL_law_1552 rfl (hp_n (n := 1553) rfl ?_)
  obtain ⟨hB, hG, hKx, hM, hR, hE, hRo⟩ := id hli1
  have hcs : cells + 0 ≤ 986 ∧ slots + 0 ≤ 148568 := by rcases hRo with ⟨-, h1, h2⟩ | ⟨-, h1, h2⟩ <;> omega
  refine lv_aload_n hx hb dL_law_1553 rfl (lv_at hl 2 rfl) (hp_n (n := 1554) rfl ?_)
  refine l_arg (j := 1) (nj := 1) (q0 := 0) (q3 := 3) (pc' := 1559) C hB hX hbl hbA hl rfl rfl (by decide) hi hi2 hi3 dL_law_1554 dL_law_1555 rfl dL_law_1556 dL_law_1557 dL_law_1558 rfl rfl rfl rfl rfl (fun w1 ew1 => ?_)
  refine l_arg (j := 2) (nj := 2) (q0 := 0) (q3 := 3) (pc' := 1564) C hB hX hbl hbA hl rfl rfl (by decide) hi hi2 hi3 dL_law_1559 dL_law_1560 rfl dL_law_1561 dL_law_1562 dL_law_1563 rfl rfl rfl rfl rfl (fun w2 ew2 => ?_)
  refine l_arg (j := 3) (nj := 3) (q0 := 0) (q3 := 3) (pc' := 1569) C hB hX hbl hbA hl rfl rfl (by decide) hi hi2 hi3 dL_law_1564 dL_law_1565 rfl dL_law_1566 dL_law_1567 dL_law_1568 rfl rfl rfl rfl rfl (fun w3 ew3 => ?_)
  refine l_arg (j := 4) (nj := 4) (q0 := 0) (q3 := 3) (pc' := 1574) C hB hX hbl hbA hl rfl rfl (by decide) hi hi2 hi3 dL_law_1569 dL_law_1570 rfl dL_law_1571 dL_law_1572 dL_law_1573 rfl rfl rfl rfl rfl (fun w4 ew4 => ?_)
  rw [← eu1] at ew1; have ew1 := ew1.symm; subst ew1
  rw [← eu2] at ew2; have ew2 := ew2.symm; subst ew2
  rw [← eu3] at ew3; have ew3 := ew3.symm; subst ew3
  rw [← eu4] at ew4; have ew4 := ew4.symm; subst ew4
  obtain ⟨⟨r2, τ⟩, hq, hp⟩ := ws_pr (s_tree 70000 (by decide) σ hR u1 u2 u3 u4) (z_X12_tree kq_rf)
  refine q_ci (pc' := 1577) hB (l_runV (As := [.int u1, .int u2, .int u3, .int u4]) (rest := []) C hB (m_X12_tree 70000 Γ l _ y ρ σ hM u1 u2 u3 u4 (r2, τ) hq) lb_X12_tree lv_X12_tree lk_L_174 hM.1 (Nat.le_of_ble_eq_true rfl) (Nat.le_of_ble_eq_true rfl) ⟨Nat.le_trans (Nat.add_le_add_right hcs.1 _) (Nat.le_of_ble_eq_true rfl), Nat.le_trans (Nat.add_le_add_right hcs.2 _) (Nat.le_of_ble_eq_true rfl)⟩ rfl hl.1 rfl (Nat.le_of_ble_eq_true rfl) dL_law_1574) (fun _ _ _ => trivial) rfl (fun r3 γ H2 L2 p2 B2 => ?_)
  have hli2 := li0_mo (li_0 hli1) B2 p2.2.1 p2.2.2 hp.1.1 (lx_kq hli1.2.2.2.2.2.1 p2.2.1 hp.2 hp.1.2 hp.1.1)
  refine lv_pop hx hb dL_law_1577 rfl (hp_n (n := 1578) rfl ?_)
  refine lv_goto (tgt := 2391) hx hb dL_law_1578 (by decide) ?_
  exact kk _ _ _ _ _ _ hli2
set_option maxRecDepth 100000 in
set_option maxHeartbeats 4000000 in
theorem lc_39 {p : Program} {l : Launch} {e : Env} {s : State} {m : MethodId} {below : List Frame} {meth : Method} {c : Code} {Γ : hp_G} {b Ln x y : Nat} {xs : Nat → Int32} {ρ : Nat → Nat} (C : hp_C Γ p m c cL_law 4 s #[Value.ref b] RL) (hX : va_X b Ln xs s s.heap) (hbl : b < s.heap.size) (hbA : ¬ hp_A Γ b) (hLn : Ln ≤ 3072) {α : hp_T} {σ : ms_T} {H : Heap} {L : List Loc} {cells slots : Nat} (hli : li Γ s x y ρ α σ H L cells slots) (i : Int32) (hi : 0 ≤ i.toInt) (hi2 : i.toInt + 6 ≤ (Ln : Int)) (ls : Array Slot) (hl : lv_has ls 4 [(0, .ref b), (1, .ref x), (2, .ref y), (3, .int i)]) (kk : ∀ (α : hp_T) (σ : ms_T) (H : Heap) (L : List Loc) (cells slots : Nat), li Γ s x y ρ α σ H L cells slots → W p l e room_1 s m #[Value.ref b] below meth c H L cells slots (lw_Z below #[Value.ref b] s) (F0 m 2391 ls [])) : W p l e room_1 s m #[Value.ref b] below meth c H L cells slots (lw_Z below #[Value.ref b] s) (F0 m 1581 ls []) := by
  have hx := C.1.1
  have hb := C.1.2.1
  have hi3 : (Ln : Int) ≤ 3072 := by omega
  have hcs : cells ≤ 986 ∧ slots ≤ 148568 := by rcases hli.2.2.2.2.2.2 with ⟨-, h1, h2⟩ | ⟨-, h1, h2⟩ <;> omega
  obtain ⟨hB, hG, hKx, hM, hR, hE, hRo⟩ := id hli
  refine lv_aload_n hx hb dL_law_1581 rfl (lv_at hl 1 rfl) (hp_n (n := 1582) rfl ?_)
  refine l_arg (j := 1) (nj := 1) (q0 := 0) (q3 := 3) (pc' := 1587) C hB hX hbl hbA hl rfl rfl (by decide) hi hi2 hi3 dL_law_1582 dL_law_1583 rfl dL_law_1584 dL_law_1585 dL_law_1586 rfl rfl rfl rfl rfl (fun u1 eu1 => ?_)
  refine l_arg (j := 2) (nj := 2) (q0 := 0) (q3 := 3) (pc' := 1592) C hB hX hbl hbA hl rfl rfl (by decide) hi hi2 hi3 dL_law_1587 dL_law_1588 rfl dL_law_1589 dL_law_1590 dL_law_1591 rfl rfl rfl rfl rfl (fun u2 eu2 => ?_)
  refine q_ci (pc' := 1595) hB (l_runV (As := [.int u1, .int u2]) (rest := []) C hB (t_X11_proves Γ l α hG x hKx u1 u2) lb_X11_proves lv_X11_proves lk_L_175 hKx (Nat.le_of_ble_eq_true rfl) (Nat.le_of_ble_eq_true rfl) ⟨Nat.le_trans (Nat.add_le_add_right hcs.1 _) (Nat.le_of_ble_eq_true rfl), Nat.le_trans (Nat.add_le_add_right hcs.2 _) (Nat.le_of_ble_eq_true rfl)⟩ rfl hl.1 rfl (Nat.le_of_ble_eq_true rfl) dL_law_1592) (fun _ _ _ => trivial) rfl (fun r1 β H1 L1 p1 B1 => ?_)
  have hli1 := li_cw hli B1 p1 (by decide)
  refine lv_pop hx hb dL_law_1595 rfl (hp_n (n := 1596) rfl ?_)
  obtain ⟨hB, hG, hKx, hM, hR, hE, hRo⟩ := id hli1
  have hcs : cells + 0 ≤ 986 ∧ slots + 0 ≤ 148568 := by rcases hRo with ⟨-, h1, h2⟩ | ⟨-, h1, h2⟩ <;> omega
  refine lv_aload_n hx hb dL_law_1596 rfl (lv_at hl 2 rfl) (hp_n (n := 1597) rfl ?_)
  refine l_arg (j := 1) (nj := 1) (q0 := 0) (q3 := 3) (pc' := 1602) C hB hX hbl hbA hl rfl rfl (by decide) hi hi2 hi3 dL_law_1597 dL_law_1598 rfl dL_law_1599 dL_law_1600 dL_law_1601 rfl rfl rfl rfl rfl (fun w1 ew1 => ?_)
  refine l_arg (j := 2) (nj := 2) (q0 := 0) (q3 := 3) (pc' := 1607) C hB hX hbl hbA hl rfl rfl (by decide) hi hi2 hi3 dL_law_1602 dL_law_1603 rfl dL_law_1604 dL_law_1605 dL_law_1606 rfl rfl rfl rfl rfl (fun w2 ew2 => ?_)
  rw [← eu1] at ew1; have ew1 := ew1.symm; subst ew1
  rw [← eu2] at ew2; have ew2 := ew2.symm; subst ew2
  obtain ⟨⟨r2, τ⟩, hq, hp⟩ := ws_pr (s_proves 70000 (by decide) σ hR u1 u2) (z_X12_proves kq_rf)
  refine q_ci (pc' := 1610) hB (l_runV (As := [.int u1, .int u2]) (rest := []) C hB (m_X12_proves 70000 Γ l _ y ρ σ hM u1 u2 (r2, τ) hq) lb_X12_proves lv_X12_proves lk_L_178 hM.1 (Nat.le_of_ble_eq_true rfl) (Nat.le_of_ble_eq_true rfl) ⟨Nat.le_trans (Nat.add_le_add_right hcs.1 _) (Nat.le_of_ble_eq_true rfl), Nat.le_trans (Nat.add_le_add_right hcs.2 _) (Nat.le_of_ble_eq_true rfl)⟩ rfl hl.1 rfl (Nat.le_of_ble_eq_true rfl) dL_law_1607) (fun _ _ _ => trivial) rfl (fun r3 γ H2 L2 p2 B2 => ?_)
  have hli2 := li0_mo (li_0 hli1) B2 p2.2.1 p2.2.2 hp.1.1 (lx_kq hli1.2.2.2.2.2.1 p2.2.1 hp.2 hp.1.2 hp.1.1)
  refine lv_pop hx hb dL_law_1610 rfl (hp_n (n := 1611) rfl ?_)
  refine lv_goto (tgt := 2391) hx hb dL_law_1611 (by decide) ?_
  exact kk _ _ _ _ _ _ hli2
set_option maxRecDepth 100000 in
set_option maxHeartbeats 4000000 in
theorem lc_40 {p : Program} {l : Launch} {e : Env} {s : State} {m : MethodId} {below : List Frame} {meth : Method} {c : Code} {Γ : hp_G} {b Ln x y : Nat} {xs : Nat → Int32} {ρ : Nat → Nat} (C : hp_C Γ p m c cL_law 4 s #[Value.ref b] RL) (hX : va_X b Ln xs s s.heap) (hbl : b < s.heap.size) (hbA : ¬ hp_A Γ b) (hLn : Ln ≤ 3072) {α : hp_T} {σ : ms_T} {H : Heap} {L : List Loc} {cells slots : Nat} (hli : li Γ s x y ρ α σ H L cells slots) (i : Int32) (hi : 0 ≤ i.toInt) (hi2 : i.toInt + 6 ≤ (Ln : Int)) (ls : Array Slot) (hl : lv_has ls 4 [(0, .ref b), (1, .ref x), (2, .ref y), (3, .int i)]) (kk : ∀ (α : hp_T) (σ : ms_T) (H : Heap) (L : List Loc) (cells slots : Nat), li Γ s x y ρ α σ H L cells slots → W p l e room_1 s m #[Value.ref b] below meth c H L cells slots (lw_Z below #[Value.ref b] s) (F0 m 2391 ls [])) : W p l e room_1 s m #[Value.ref b] below meth c H L cells slots (lw_Z below #[Value.ref b] s) (F0 m 1614 ls []) := by
  have hx := C.1.1
  have hb := C.1.2.1
  have hi3 : (Ln : Int) ≤ 3072 := by omega
  have hcs : cells ≤ 986 ∧ slots ≤ 148568 := by rcases hli.2.2.2.2.2.2 with ⟨-, h1, h2⟩ | ⟨-, h1, h2⟩ <;> omega
  obtain ⟨hB, hG, hKx, hM, hR, hE, hRo⟩ := id hli
  refine lv_aload_n hx hb dL_law_1614 rfl (lv_at hl 1 rfl) (hp_n (n := 1615) rfl ?_)
  refine l_arg (j := 1) (nj := 1) (q0 := 0) (q3 := 3) (pc' := 1620) C hB hX hbl hbA hl rfl rfl (by decide) hi hi2 hi3 dL_law_1615 dL_law_1616 rfl dL_law_1617 dL_law_1618 dL_law_1619 rfl rfl rfl rfl rfl (fun u1 eu1 => ?_)
  refine l_arg (j := 2) (nj := 2) (q0 := 0) (q3 := 3) (pc' := 1625) C hB hX hbl hbA hl rfl rfl (by decide) hi hi2 hi3 dL_law_1620 dL_law_1621 rfl dL_law_1622 dL_law_1623 dL_law_1624 rfl rfl rfl rfl rfl (fun u2 eu2 => ?_)
  refine q_ci (pc' := 1628) hB (l_runV (As := [.int u1, .int u2]) (rest := []) C hB (t_X11_longest Γ l α hG x hKx u1 u2) lb_X11_longest lv_X11_longest lk_L_179 hKx (Nat.le_of_ble_eq_true rfl) (Nat.le_of_ble_eq_true rfl) ⟨Nat.le_trans (Nat.add_le_add_right hcs.1 _) (Nat.le_of_ble_eq_true rfl), Nat.le_trans (Nat.add_le_add_right hcs.2 _) (Nat.le_of_ble_eq_true rfl)⟩ rfl hl.1 rfl (Nat.le_of_ble_eq_true rfl) dL_law_1625) (fun _ _ _ => trivial) rfl (fun r1 β H1 L1 p1 B1 => ?_)
  have hli1 := li_cw hli B1 p1 (by decide)
  refine lv_pop hx hb dL_law_1628 rfl (hp_n (n := 1629) rfl ?_)
  obtain ⟨hB, hG, hKx, hM, hR, hE, hRo⟩ := id hli1
  have hcs : cells + 0 ≤ 986 ∧ slots + 0 ≤ 148568 := by rcases hRo with ⟨-, h1, h2⟩ | ⟨-, h1, h2⟩ <;> omega
  refine lv_aload_n hx hb dL_law_1629 rfl (lv_at hl 2 rfl) (hp_n (n := 1630) rfl ?_)
  refine l_arg (j := 1) (nj := 1) (q0 := 0) (q3 := 3) (pc' := 1635) C hB hX hbl hbA hl rfl rfl (by decide) hi hi2 hi3 dL_law_1630 dL_law_1631 rfl dL_law_1632 dL_law_1633 dL_law_1634 rfl rfl rfl rfl rfl (fun w1 ew1 => ?_)
  refine l_arg (j := 2) (nj := 2) (q0 := 0) (q3 := 3) (pc' := 1640) C hB hX hbl hbA hl rfl rfl (by decide) hi hi2 hi3 dL_law_1635 dL_law_1636 rfl dL_law_1637 dL_law_1638 dL_law_1639 rfl rfl rfl rfl rfl (fun w2 ew2 => ?_)
  rw [← eu1] at ew1; have ew1 := ew1.symm; subst ew1
  rw [← eu2] at ew2; have ew2 := ew2.symm; subst ew2
  obtain ⟨⟨r2, τ⟩, hq, hp⟩ := ws_pr (s_longest 70000 (by decide) σ hR u1 u2) (z_X12_longest kq_rf)
  refine q_ci (pc' := 1643) hB (l_runV (As := [.int u1, .int u2]) (rest := []) C hB (m_X12_longest 70000 Γ l _ y ρ σ hM u1 u2 (r2, τ) hq) lb_X12_longest lv_X12_longest lk_L_182 hM.1 (Nat.le_of_ble_eq_true rfl) (Nat.le_of_ble_eq_true rfl) ⟨Nat.le_trans (Nat.add_le_add_right hcs.1 _) (Nat.le_of_ble_eq_true rfl), Nat.le_trans (Nat.add_le_add_right hcs.2 _) (Nat.le_of_ble_eq_true rfl)⟩ rfl hl.1 rfl (Nat.le_of_ble_eq_true rfl) dL_law_1640) (fun _ _ _ => trivial) rfl (fun r3 γ H2 L2 p2 B2 => ?_)
  have hli2 := li0_mo (li_0 hli1) B2 p2.2.1 p2.2.2 hp.1.1 (lx_kq hli1.2.2.2.2.2.1 p2.2.1 hp.2 hp.1.2 hp.1.1)
  refine lv_pop hx hb dL_law_1643 rfl (hp_n (n := 1644) rfl ?_)
  refine lv_goto (tgt := 2391) hx hb dL_law_1644 (by decide) ?_
  exact kk _ _ _ _ _ _ hli2
set_option maxRecDepth 100000 in
set_option maxHeartbeats 4000000 in
theorem lc_41 {p : Program} {l : Launch} {e : Env} {s : State} {m : MethodId} {below : List Frame} {meth : Method} {c : Code} {Γ : hp_G} {b Ln x y : Nat} {xs : Nat → Int32} {ρ : Nat → Nat} (C : hp_C Γ p m c cL_law 4 s #[Value.ref b] RL) (hX : va_X b Ln xs s s.heap) (hbl : b < s.heap.size) (hbA : ¬ hp_A Γ b) (hLn : Ln ≤ 3072) {α : hp_T} {σ : ms_T} {H : Heap} {L : List Loc} {cells slots : Nat} (hli : li Γ s x y ρ α σ H L cells slots) (i : Int32) (hi : 0 ≤ i.toInt) (hi2 : i.toInt + 6 ≤ (Ln : Int)) (ls : Array Slot) (hl : lv_has ls 4 [(0, .ref b), (1, .ref x), (2, .ref y), (3, .int i)]) (kk : ∀ (α : hp_T) (σ : ms_T) (H : Heap) (L : List Loc) (cells slots : Nat), li Γ s x y ρ α σ H L cells slots → W p l e room_1 s m #[Value.ref b] below meth c H L cells slots (lw_Z below #[Value.ref b] s) (F0 m 2391 ls [])) : W p l e room_1 s m #[Value.ref b] below meth c H L cells slots (lw_Z below #[Value.ref b] s) (F0 m 1647 ls []) := by
  have hx := C.1.1
  have hb := C.1.2.1
  have hi3 : (Ln : Int) ≤ 3072 := by omega
  have hcs : cells ≤ 986 ∧ slots ≤ 148568 := by rcases hli.2.2.2.2.2.2 with ⟨-, h1, h2⟩ | ⟨-, h1, h2⟩ <;> omega
  obtain ⟨hB, hG, hKx, hM, hR, hE, hRo⟩ := id hli
  refine lv_aload_n hx hb dL_law_1647 rfl (lv_at hl 1 rfl) (hp_n (n := 1648) rfl ?_)
  refine l_arg (j := 1) (nj := 1) (q0 := 0) (q3 := 3) (pc' := 1653) C hB hX hbl hbA hl rfl rfl (by decide) hi hi2 hi3 dL_law_1648 dL_law_1649 rfl dL_law_1650 dL_law_1651 dL_law_1652 rfl rfl rfl rfl rfl (fun u1 eu1 => ?_)
  refine l_arg (j := 2) (nj := 2) (q0 := 0) (q3 := 3) (pc' := 1658) C hB hX hbl hbA hl rfl rfl (by decide) hi hi2 hi3 dL_law_1653 dL_law_1654 rfl dL_law_1655 dL_law_1656 dL_law_1657 rfl rfl rfl rfl rfl (fun u2 eu2 => ?_)
  refine l_arg (j := 3) (nj := 3) (q0 := 0) (q3 := 3) (pc' := 1663) C hB hX hbl hbA hl rfl rfl (by decide) hi hi2 hi3 dL_law_1658 dL_law_1659 rfl dL_law_1660 dL_law_1661 dL_law_1662 rfl rfl rfl rfl rfl (fun u3 eu3 => ?_)
  refine q_ci (pc' := 1666) hB (l_runV (As := [.int u1, .int u2, .int u3]) (rest := []) C hB (t_X11_part Γ l α hG x hKx u1 u2 u3) lb_X11_part lv_X11_part lk_L_183 hKx (Nat.le_of_ble_eq_true rfl) (Nat.le_of_ble_eq_true rfl) ⟨Nat.le_trans (Nat.add_le_add_right hcs.1 _) (Nat.le_of_ble_eq_true rfl), Nat.le_trans (Nat.add_le_add_right hcs.2 _) (Nat.le_of_ble_eq_true rfl)⟩ rfl hl.1 rfl (Nat.le_of_ble_eq_true rfl) dL_law_1663) (fun _ _ _ => trivial) rfl (fun r1 β H1 L1 p1 B1 => ?_)
  have hli1 := li_cw hli B1 p1 (by decide)
  refine lv_pop hx hb dL_law_1666 rfl (hp_n (n := 1667) rfl ?_)
  obtain ⟨hB, hG, hKx, hM, hR, hE, hRo⟩ := id hli1
  have hcs : cells + 0 ≤ 986 ∧ slots + 0 ≤ 148568 := by rcases hRo with ⟨-, h1, h2⟩ | ⟨-, h1, h2⟩ <;> omega
  refine lv_aload_n hx hb dL_law_1667 rfl (lv_at hl 2 rfl) (hp_n (n := 1668) rfl ?_)
  refine l_arg (j := 1) (nj := 1) (q0 := 0) (q3 := 3) (pc' := 1673) C hB hX hbl hbA hl rfl rfl (by decide) hi hi2 hi3 dL_law_1668 dL_law_1669 rfl dL_law_1670 dL_law_1671 dL_law_1672 rfl rfl rfl rfl rfl (fun w1 ew1 => ?_)
  refine l_arg (j := 2) (nj := 2) (q0 := 0) (q3 := 3) (pc' := 1678) C hB hX hbl hbA hl rfl rfl (by decide) hi hi2 hi3 dL_law_1673 dL_law_1674 rfl dL_law_1675 dL_law_1676 dL_law_1677 rfl rfl rfl rfl rfl (fun w2 ew2 => ?_)
  refine l_arg (j := 3) (nj := 3) (q0 := 0) (q3 := 3) (pc' := 1683) C hB hX hbl hbA hl rfl rfl (by decide) hi hi2 hi3 dL_law_1678 dL_law_1679 rfl dL_law_1680 dL_law_1681 dL_law_1682 rfl rfl rfl rfl rfl (fun w3 ew3 => ?_)
  rw [← eu1] at ew1; have ew1 := ew1.symm; subst ew1
  rw [← eu2] at ew2; have ew2 := ew2.symm; subst ew2
  rw [← eu3] at ew3; have ew3 := ew3.symm; subst ew3
  obtain ⟨⟨r2, τ⟩, hq, hp⟩ := ws_pr (s_part 70000 (by decide) σ hR u1 u2 u3) (z_X12_part kq_rf)
  refine q_ci (pc' := 1686) hB (l_runV (As := [.int u1, .int u2, .int u3]) (rest := []) C hB (m_X12_part 70000 Γ l _ y ρ σ hM u1 u2 u3 (r2, τ) hq) lb_X12_part lv_X12_part lk_L_186 hM.1 (Nat.le_of_ble_eq_true rfl) (Nat.le_of_ble_eq_true rfl) ⟨Nat.le_trans (Nat.add_le_add_right hcs.1 _) (Nat.le_of_ble_eq_true rfl), Nat.le_trans (Nat.add_le_add_right hcs.2 _) (Nat.le_of_ble_eq_true rfl)⟩ rfl hl.1 rfl (Nat.le_of_ble_eq_true rfl) dL_law_1683) (fun _ _ _ => trivial) rfl (fun r3 γ H2 L2 p2 B2 => ?_)
  have hli2 := li0_mo (li_0 hli1) B2 p2.2.1 p2.2.2 hp.1.1 (lx_kq hli1.2.2.2.2.2.1 p2.2.1 hp.2 hp.1.2 hp.1.1)
  refine lv_pop hx hb dL_law_1686 rfl (hp_n (n := 1687) rfl ?_)
  refine lv_goto (tgt := 2391) hx hb dL_law_1687 (by decide) ?_
  exact kk _ _ _ _ _ _ hli2
set_option maxRecDepth 100000 in
set_option maxHeartbeats 4000000 in
theorem lc_42 {p : Program} {l : Launch} {e : Env} {s : State} {m : MethodId} {below : List Frame} {meth : Method} {c : Code} {Γ : hp_G} {b Ln x y : Nat} {xs : Nat → Int32} {ρ : Nat → Nat} (C : hp_C Γ p m c cL_law 4 s #[Value.ref b] RL) (hX : va_X b Ln xs s s.heap) (hbl : b < s.heap.size) (hbA : ¬ hp_A Γ b) (hLn : Ln ≤ 3072) {α : hp_T} {σ : ms_T} {H : Heap} {L : List Loc} {cells slots : Nat} (hli : li Γ s x y ρ α σ H L cells slots) (i : Int32) (hi : 0 ≤ i.toInt) (hi2 : i.toInt + 6 ≤ (Ln : Int)) (ls : Array Slot) (hl : lv_has ls 4 [(0, .ref b), (1, .ref x), (2, .ref y), (3, .int i)]) (kk : ∀ (α : hp_T) (σ : ms_T) (H : Heap) (L : List Loc) (cells slots : Nat), li Γ s x y ρ α σ H L cells slots → W p l e room_1 s m #[Value.ref b] below meth c H L cells slots (lw_Z below #[Value.ref b] s) (F0 m 2391 ls [])) : W p l e room_1 s m #[Value.ref b] below meth c H L cells slots (lw_Z below #[Value.ref b] s) (F0 m 1690 ls []) := by
  have hx := C.1.1
  have hb := C.1.2.1
  have hi3 : (Ln : Int) ≤ 3072 := by omega
  have hcs : cells ≤ 986 ∧ slots ≤ 148568 := by rcases hli.2.2.2.2.2.2 with ⟨-, h1, h2⟩ | ⟨-, h1, h2⟩ <;> omega
  obtain ⟨hB, hG, hKx, hM, hR, hE, hRo⟩ := id hli
  refine lv_aload_n hx hb dL_law_1690 rfl (lv_at hl 1 rfl) (hp_n (n := 1691) rfl ?_)
  refine l_arg (j := 1) (nj := 1) (q0 := 0) (q3 := 3) (pc' := 1696) C hB hX hbl hbA hl rfl rfl (by decide) hi hi2 hi3 dL_law_1691 dL_law_1692 rfl dL_law_1693 dL_law_1694 dL_law_1695 rfl rfl rfl rfl rfl (fun u1 eu1 => ?_)
  refine l_arg (j := 2) (nj := 2) (q0 := 0) (q3 := 3) (pc' := 1701) C hB hX hbl hbA hl rfl rfl (by decide) hi hi2 hi3 dL_law_1696 dL_law_1697 rfl dL_law_1698 dL_law_1699 dL_law_1700 rfl rfl rfl rfl rfl (fun u2 eu2 => ?_)
  refine q_ci (pc' := 1704) hB (l_runV (As := [.int u1, .int u2]) (rest := []) C hB (t_X11_blame Γ l α hG x hKx u1 u2) lb_X11_blame lv_X11_blame lk_L_187 hKx (Nat.le_of_ble_eq_true rfl) (Nat.le_of_ble_eq_true rfl) ⟨Nat.le_trans (Nat.add_le_add_right hcs.1 _) (Nat.le_of_ble_eq_true rfl), Nat.le_trans (Nat.add_le_add_right hcs.2 _) (Nat.le_of_ble_eq_true rfl)⟩ rfl hl.1 rfl (Nat.le_of_ble_eq_true rfl) dL_law_1701) (fun _ _ _ => trivial) rfl (fun r1 β H1 L1 p1 B1 => ?_)
  have hli1 := li_cw hli B1 p1 (by decide)
  refine lv_pop hx hb dL_law_1704 rfl (hp_n (n := 1705) rfl ?_)
  obtain ⟨hB, hG, hKx, hM, hR, hE, hRo⟩ := id hli1
  have hcs : cells + 0 ≤ 986 ∧ slots + 0 ≤ 148568 := by rcases hRo with ⟨-, h1, h2⟩ | ⟨-, h1, h2⟩ <;> omega
  refine lv_aload_n hx hb dL_law_1705 rfl (lv_at hl 2 rfl) (hp_n (n := 1706) rfl ?_)
  refine l_arg (j := 1) (nj := 1) (q0 := 0) (q3 := 3) (pc' := 1711) C hB hX hbl hbA hl rfl rfl (by decide) hi hi2 hi3 dL_law_1706 dL_law_1707 rfl dL_law_1708 dL_law_1709 dL_law_1710 rfl rfl rfl rfl rfl (fun w1 ew1 => ?_)
  refine l_arg (j := 2) (nj := 2) (q0 := 0) (q3 := 3) (pc' := 1716) C hB hX hbl hbA hl rfl rfl (by decide) hi hi2 hi3 dL_law_1711 dL_law_1712 rfl dL_law_1713 dL_law_1714 dL_law_1715 rfl rfl rfl rfl rfl (fun w2 ew2 => ?_)
  rw [← eu1] at ew1; have ew1 := ew1.symm; subst ew1
  rw [← eu2] at ew2; have ew2 := ew2.symm; subst ew2
  obtain ⟨⟨r2, τ⟩, hq, hp⟩ := ws_pr (s_blame 70000 (by decide) σ hR u1 u2) (z_X12_blame kq_rf)
  refine q_ci (pc' := 1719) hB (l_runV (As := [.int u1, .int u2]) (rest := []) C hB (m_X12_blame 70000 Γ l _ y ρ σ hM u1 u2 (r2, τ) hq) lb_X12_blame lv_X12_blame lk_L_190 hM.1 (Nat.le_of_ble_eq_true rfl) (Nat.le_of_ble_eq_true rfl) ⟨Nat.le_trans (Nat.add_le_add_right hcs.1 _) (Nat.le_of_ble_eq_true rfl), Nat.le_trans (Nat.add_le_add_right hcs.2 _) (Nat.le_of_ble_eq_true rfl)⟩ rfl hl.1 rfl (Nat.le_of_ble_eq_true rfl) dL_law_1716) (fun _ _ _ => trivial) rfl (fun r3 γ H2 L2 p2 B2 => ?_)
  have hli2 := li0_mo (li_0 hli1) B2 p2.2.1 p2.2.2 hp.1.1 (lx_kq hli1.2.2.2.2.2.1 p2.2.1 hp.2 hp.1.2 hp.1.1)
  refine lv_pop hx hb dL_law_1719 rfl (hp_n (n := 1720) rfl ?_)
  refine lv_goto (tgt := 2391) hx hb dL_law_1720 (by decide) ?_
  exact kk _ _ _ _ _ _ hli2
set_option maxRecDepth 100000 in
set_option maxHeartbeats 4000000 in
theorem lc_43 {p : Program} {l : Launch} {e : Env} {s : State} {m : MethodId} {below : List Frame} {meth : Method} {c : Code} {Γ : hp_G} {b Ln x y : Nat} {xs : Nat → Int32} {ρ : Nat → Nat} (C : hp_C Γ p m c cL_law 4 s #[Value.ref b] RL) (hX : va_X b Ln xs s s.heap) (hbl : b < s.heap.size) (hbA : ¬ hp_A Γ b) (hLn : Ln ≤ 3072) {α : hp_T} {σ : ms_T} {H : Heap} {L : List Loc} {cells slots : Nat} (hli : li Γ s x y ρ α σ H L cells slots) (i : Int32) (hi : 0 ≤ i.toInt) (hi2 : i.toInt + 6 ≤ (Ln : Int)) (ls : Array Slot) (hl : lv_has ls 4 [(0, .ref b), (1, .ref x), (2, .ref y), (3, .int i)]) (kk : ∀ (α : hp_T) (σ : ms_T) (H : Heap) (L : List Loc) (cells slots : Nat), li Γ s x y ρ α σ H L cells slots → W p l e room_1 s m #[Value.ref b] below meth c H L cells slots (lw_Z below #[Value.ref b] s) (F0 m 2391 ls [])) : W p l e room_1 s m #[Value.ref b] below meth c H L cells slots (lw_Z below #[Value.ref b] s) (F0 m 1723 ls []) := by
  have hx := C.1.1
  have hb := C.1.2.1
  have hi3 : (Ln : Int) ≤ 3072 := by omega
  have hcs : cells ≤ 986 ∧ slots ≤ 148568 := by rcases hli.2.2.2.2.2.2 with ⟨-, h1, h2⟩ | ⟨-, h1, h2⟩ <;> omega
  obtain ⟨hB, hG, hKx, hM, hR, hE, hRo⟩ := id hli
  refine lv_aload_n hx hb dL_law_1723 rfl (lv_at hl 1 rfl) (hp_n (n := 1724) rfl ?_)
  refine l_arg (j := 1) (nj := 1) (q0 := 0) (q3 := 3) (pc' := 1729) C hB hX hbl hbA hl rfl rfl (by decide) hi hi2 hi3 dL_law_1724 dL_law_1725 rfl dL_law_1726 dL_law_1727 dL_law_1728 rfl rfl rfl rfl rfl (fun u1 eu1 => ?_)
  refine l_arg (j := 2) (nj := 2) (q0 := 0) (q3 := 3) (pc' := 1734) C hB hX hbl hbA hl rfl rfl (by decide) hi hi2 hi3 dL_law_1729 dL_law_1730 rfl dL_law_1731 dL_law_1732 dL_law_1733 rfl rfl rfl rfl rfl (fun u2 eu2 => ?_)
  refine l_arg (j := 3) (nj := 3) (q0 := 0) (q3 := 3) (pc' := 1739) C hB hX hbl hbA hl rfl rfl (by decide) hi hi2 hi3 dL_law_1734 dL_law_1735 rfl dL_law_1736 dL_law_1737 dL_law_1738 rfl rfl rfl rfl rfl (fun u3 eu3 => ?_)
  refine l_arg (j := 4) (nj := 4) (q0 := 0) (q3 := 3) (pc' := 1744) C hB hX hbl hbA hl rfl rfl (by decide) hi hi2 hi3 dL_law_1739 dL_law_1740 rfl dL_law_1741 dL_law_1742 dL_law_1743 rfl rfl rfl rfl rfl (fun u4 eu4 => ?_)
  cases hN : hp_N α 618 x with
  | none =>
    refine l_ciZ (pc' := 1747) hB (l_runH (As := [.int u1, .int u2, .int u3, .int u4]) (rest := []) C hB (t_X11_weak_N Γ l α hG H x hKx u1 u2 u3 u4 hN) lb_X11_weak lv_X11_weak lk_L_191 hKx (Nat.le_of_ble_eq_true rfl) (Nat.le_of_ble_eq_true rfl) ⟨Nat.le_trans (Nat.add_le_add_right hcs.1 _) (Nat.le_of_ble_eq_true rfl), Nat.le_trans (Nat.add_le_add_right hcs.2 _) (Nat.le_of_ble_eq_true rfl)⟩ rfl hl.1 rfl (Nat.le_of_ble_eq_true rfl) dL_law_1744) rfl (fun r1 β H1 L1 p1 n1 B1 => ?_) (fun r1 β H1 L1 p1 n1 B1 => ?_)
    · have hli1 : li Γ s x y ρ β σ H1 L1 cells slots := ⟨⟨B1.1, B1.2.1, trivial⟩, p1.1, (p1.2.1 x (by rw [hKx]; decide)).trans hKx, hm_cg hM p1 (by decide), hR, LX_cg hG hKx hE p1 (by decide), Or.inl ⟨n1, by rcases hRo with h | h; exact h.2; exact absurd hN h.1⟩⟩
      refine lv_pop hx hb dL_law_1747 rfl (hp_n (n := 1748) rfl ?_)
      obtain ⟨hB, hG, hKx, hM, hR, hE, hRo⟩ := id hli1
      have hcs : cells ≤ 986 ∧ slots ≤ 148568 := by rcases hRo with ⟨-, h1, h2⟩ | ⟨-, h1, h2⟩ <;> omega
      refine lv_aload_n hx hb dL_law_1748 rfl (lv_at hl 2 rfl) (hp_n (n := 1749) rfl ?_)
      refine l_arg (j := 1) (nj := 1) (q0 := 0) (q3 := 3) (pc' := 1754) C hB hX hbl hbA hl rfl rfl (by decide) hi hi2 hi3 dL_law_1749 dL_law_1750 rfl dL_law_1751 dL_law_1752 dL_law_1753 rfl rfl rfl rfl rfl (fun w1 ew1 => ?_)
      refine l_arg (j := 2) (nj := 2) (q0 := 0) (q3 := 3) (pc' := 1759) C hB hX hbl hbA hl rfl rfl (by decide) hi hi2 hi3 dL_law_1754 dL_law_1755 rfl dL_law_1756 dL_law_1757 dL_law_1758 rfl rfl rfl rfl rfl (fun w2 ew2 => ?_)
      refine l_arg (j := 3) (nj := 3) (q0 := 0) (q3 := 3) (pc' := 1764) C hB hX hbl hbA hl rfl rfl (by decide) hi hi2 hi3 dL_law_1759 dL_law_1760 rfl dL_law_1761 dL_law_1762 dL_law_1763 rfl rfl rfl rfl rfl (fun w3 ew3 => ?_)
      refine l_arg (j := 4) (nj := 4) (q0 := 0) (q3 := 3) (pc' := 1769) C hB hX hbl hbA hl rfl rfl (by decide) hi hi2 hi3 dL_law_1764 dL_law_1765 rfl dL_law_1766 dL_law_1767 dL_law_1768 rfl rfl rfl rfl rfl (fun w4 ew4 => ?_)
      rw [← eu1] at ew1; have ew1 := ew1.symm; subst ew1
      rw [← eu2] at ew2; have ew2 := ew2.symm; subst ew2
      rw [← eu3] at ew3; have ew3 := ew3.symm; subst ew3
      rw [← eu4] at ew4; have ew4 := ew4.symm; subst ew4
      obtain ⟨⟨r2, τ⟩, hq, hp⟩ := ws_pr (s_weak 70000 (by decide) σ hR u1 u2 u3 u4) (z_X12_weak kq_rf)
      refine q_ci (pc' := 1772) hB (l_runV (As := [.int u1, .int u2, .int u3, .int u4]) (rest := []) C hB (m_X12_weak 70000 Γ l _ y ρ σ hM u1 u2 u3 u4 (r2, τ) hq) lb_X12_weak lv_X12_weak lk_L_194 hM.1 (Nat.le_of_ble_eq_true rfl) (Nat.le_of_ble_eq_true rfl) ⟨Nat.le_trans (Nat.add_le_add_right hcs.1 _) (Nat.le_of_ble_eq_true rfl), Nat.le_trans (Nat.add_le_add_right hcs.2 _) (Nat.le_of_ble_eq_true rfl)⟩ rfl hl.1 rfl (Nat.le_of_ble_eq_true rfl) dL_law_1769) (fun _ _ _ => trivial) rfl (fun r3 γ H2 L2 p2 B2 => ?_)
      have hli2 := li0_mo (li_0 hli1) B2 p2.2.1 p2.2.2 hp.1.1 (lx_kq hli1.2.2.2.2.2.1 p2.2.1 hp.2 hp.1.2 hp.1.1)
      refine lv_pop hx hb dL_law_1772 rfl (hp_n (n := 1773) rfl ?_)
      refine lv_goto (tgt := 2391) hx hb dL_law_1773 (by decide) ?_
      exact kk _ _ _ _ _ _ hli2
    · have hli1 : li Γ s x y ρ β σ H1 L1 (cells + 9) (slots + 131316) := ⟨⟨B1.1, B1.2.1, trivial⟩, p1.1, (p1.2.1 x (by rw [hKx]; decide)).trans hKx, hm_cg hM p1 (by decide), hR, LX_cg hG hKx hE p1 (by decide), Or.inr ⟨n1, by rcases hRo with h | h; omega; exact absurd hN h.1⟩⟩
      refine lv_pop hx hb dL_law_1747 rfl (hp_n (n := 1748) rfl ?_)
      obtain ⟨hB, hG, hKx, hM, hR, hE, hRo⟩ := id hli1
      have hcs : cells + 9 ≤ 986 ∧ slots + 131316 ≤ 148568 := by rcases hRo with ⟨-, h1, h2⟩ | ⟨-, h1, h2⟩ <;> omega
      refine lv_aload_n hx hb dL_law_1748 rfl (lv_at hl 2 rfl) (hp_n (n := 1749) rfl ?_)
      refine l_arg (j := 1) (nj := 1) (q0 := 0) (q3 := 3) (pc' := 1754) C hB hX hbl hbA hl rfl rfl (by decide) hi hi2 hi3 dL_law_1749 dL_law_1750 rfl dL_law_1751 dL_law_1752 dL_law_1753 rfl rfl rfl rfl rfl (fun w1 ew1 => ?_)
      refine l_arg (j := 2) (nj := 2) (q0 := 0) (q3 := 3) (pc' := 1759) C hB hX hbl hbA hl rfl rfl (by decide) hi hi2 hi3 dL_law_1754 dL_law_1755 rfl dL_law_1756 dL_law_1757 dL_law_1758 rfl rfl rfl rfl rfl (fun w2 ew2 => ?_)
      refine l_arg (j := 3) (nj := 3) (q0 := 0) (q3 := 3) (pc' := 1764) C hB hX hbl hbA hl rfl rfl (by decide) hi hi2 hi3 dL_law_1759 dL_law_1760 rfl dL_law_1761 dL_law_1762 dL_law_1763 rfl rfl rfl rfl rfl (fun w3 ew3 => ?_)
      refine l_arg (j := 4) (nj := 4) (q0 := 0) (q3 := 3) (pc' := 1769) C hB hX hbl hbA hl rfl rfl (by decide) hi hi2 hi3 dL_law_1764 dL_law_1765 rfl dL_law_1766 dL_law_1767 dL_law_1768 rfl rfl rfl rfl rfl (fun w4 ew4 => ?_)
      rw [← eu1] at ew1; have ew1 := ew1.symm; subst ew1
      rw [← eu2] at ew2; have ew2 := ew2.symm; subst ew2
      rw [← eu3] at ew3; have ew3 := ew3.symm; subst ew3
      rw [← eu4] at ew4; have ew4 := ew4.symm; subst ew4
      obtain ⟨⟨r2, τ⟩, hq, hp⟩ := ws_pr (s_weak 70000 (by decide) σ hR u1 u2 u3 u4) (z_X12_weak kq_rf)
      refine q_ci (pc' := 1772) hB (l_runV (As := [.int u1, .int u2, .int u3, .int u4]) (rest := []) C hB (m_X12_weak 70000 Γ l _ y ρ σ hM u1 u2 u3 u4 (r2, τ) hq) lb_X12_weak lv_X12_weak lk_L_194 hM.1 (Nat.le_of_ble_eq_true rfl) (Nat.le_of_ble_eq_true rfl) ⟨Nat.le_trans (Nat.add_le_add_right hcs.1 _) (Nat.le_of_ble_eq_true rfl), Nat.le_trans (Nat.add_le_add_right hcs.2 _) (Nat.le_of_ble_eq_true rfl)⟩ rfl hl.1 rfl (Nat.le_of_ble_eq_true rfl) dL_law_1769) (fun _ _ _ => trivial) rfl (fun r3 γ H2 L2 p2 B2 => ?_)
      have hli2 := li0_mo (li_0 hli1) B2 p2.2.1 p2.2.2 hp.1.1 (lx_kq hli1.2.2.2.2.2.1 p2.2.1 hp.2 hp.1.2 hp.1.1)
      refine lv_pop hx hb dL_law_1772 rfl (hp_n (n := 1773) rfl ?_)
      refine lv_goto (tgt := 2391) hx hb dL_law_1773 (by decide) ?_
      exact kk _ _ _ _ _ _ hli2
  | some b0 =>
    refine q_ci (pc' := 1747) hB (l_runV (As := [.int u1, .int u2, .int u3, .int u4]) (rest := []) C hB (t_X11_weak_S Γ l α hG x hKx u1 u2 u3 u4 b0 hN) lb_X11_weak lv_X11_weak lk_L_191 hKx (Nat.le_of_ble_eq_true rfl) (Nat.le_of_ble_eq_true rfl) ⟨Nat.le_trans (Nat.add_le_add_right hcs.1 _) (Nat.le_of_ble_eq_true rfl), Nat.le_trans (Nat.add_le_add_right hcs.2 _) (Nat.le_of_ble_eq_true rfl)⟩ rfl hl.1 rfl (Nat.le_of_ble_eq_true rfl) dL_law_1744) (fun _ _ _ => trivial) rfl (fun r1 β H1 L1 p1 B1 => ?_)
    have hli1 := li_cw hli B1 p1 (by decide)
    refine lv_pop hx hb dL_law_1747 rfl (hp_n (n := 1748) rfl ?_)
    obtain ⟨hB, hG, hKx, hM, hR, hE, hRo⟩ := id hli1
    have hcs : cells + 0 ≤ 986 ∧ slots + 0 ≤ 148568 := by rcases hRo with ⟨-, h1, h2⟩ | ⟨-, h1, h2⟩ <;> omega
    refine lv_aload_n hx hb dL_law_1748 rfl (lv_at hl 2 rfl) (hp_n (n := 1749) rfl ?_)
    refine l_arg (j := 1) (nj := 1) (q0 := 0) (q3 := 3) (pc' := 1754) C hB hX hbl hbA hl rfl rfl (by decide) hi hi2 hi3 dL_law_1749 dL_law_1750 rfl dL_law_1751 dL_law_1752 dL_law_1753 rfl rfl rfl rfl rfl (fun w1 ew1 => ?_)
    refine l_arg (j := 2) (nj := 2) (q0 := 0) (q3 := 3) (pc' := 1759) C hB hX hbl hbA hl rfl rfl (by decide) hi hi2 hi3 dL_law_1754 dL_law_1755 rfl dL_law_1756 dL_law_1757 dL_law_1758 rfl rfl rfl rfl rfl (fun w2 ew2 => ?_)
    refine l_arg (j := 3) (nj := 3) (q0 := 0) (q3 := 3) (pc' := 1764) C hB hX hbl hbA hl rfl rfl (by decide) hi hi2 hi3 dL_law_1759 dL_law_1760 rfl dL_law_1761 dL_law_1762 dL_law_1763 rfl rfl rfl rfl rfl (fun w3 ew3 => ?_)
    refine l_arg (j := 4) (nj := 4) (q0 := 0) (q3 := 3) (pc' := 1769) C hB hX hbl hbA hl rfl rfl (by decide) hi hi2 hi3 dL_law_1764 dL_law_1765 rfl dL_law_1766 dL_law_1767 dL_law_1768 rfl rfl rfl rfl rfl (fun w4 ew4 => ?_)
    rw [← eu1] at ew1; have ew1 := ew1.symm; subst ew1
    rw [← eu2] at ew2; have ew2 := ew2.symm; subst ew2
    rw [← eu3] at ew3; have ew3 := ew3.symm; subst ew3
    rw [← eu4] at ew4; have ew4 := ew4.symm; subst ew4
    obtain ⟨⟨r2, τ⟩, hq, hp⟩ := ws_pr (s_weak 70000 (by decide) σ hR u1 u2 u3 u4) (z_X12_weak kq_rf)
    refine q_ci (pc' := 1772) hB (l_runV (As := [.int u1, .int u2, .int u3, .int u4]) (rest := []) C hB (m_X12_weak 70000 Γ l _ y ρ σ hM u1 u2 u3 u4 (r2, τ) hq) lb_X12_weak lv_X12_weak lk_L_194 hM.1 (Nat.le_of_ble_eq_true rfl) (Nat.le_of_ble_eq_true rfl) ⟨Nat.le_trans (Nat.add_le_add_right hcs.1 _) (Nat.le_of_ble_eq_true rfl), Nat.le_trans (Nat.add_le_add_right hcs.2 _) (Nat.le_of_ble_eq_true rfl)⟩ rfl hl.1 rfl (Nat.le_of_ble_eq_true rfl) dL_law_1769) (fun _ _ _ => trivial) rfl (fun r3 γ H2 L2 p2 B2 => ?_)
    have hli2 := li0_mo (li_0 hli1) B2 p2.2.1 p2.2.2 hp.1.1 (lx_kq hli1.2.2.2.2.2.1 p2.2.1 hp.2 hp.1.2 hp.1.1)
    refine lv_pop hx hb dL_law_1772 rfl (hp_n (n := 1773) rfl ?_)
    refine lv_goto (tgt := 2391) hx hb dL_law_1773 (by decide) ?_
    exact kk _ _ _ _ _ _ hli2
set_option maxRecDepth 100000 in
set_option maxHeartbeats 4000000 in
theorem lc_44 {p : Program} {l : Launch} {e : Env} {s : State} {m : MethodId} {below : List Frame} {meth : Method} {c : Code} {Γ : hp_G} {b Ln x y : Nat} {xs : Nat → Int32} {ρ : Nat → Nat} (C : hp_C Γ p m c cL_law 4 s #[Value.ref b] RL) (hX : va_X b Ln xs s s.heap) (hbl : b < s.heap.size) (hbA : ¬ hp_A Γ b) (hLn : Ln ≤ 3072) {α : hp_T} {σ : ms_T} {H : Heap} {L : List Loc} {cells slots : Nat} (hli : li Γ s x y ρ α σ H L cells slots) (i : Int32) (hi : 0 ≤ i.toInt) (hi2 : i.toInt + 6 ≤ (Ln : Int)) (ls : Array Slot) (hl : lv_has ls 4 [(0, .ref b), (1, .ref x), (2, .ref y), (3, .int i)]) (kk : ∀ (α : hp_T) (σ : ms_T) (H : Heap) (L : List Loc) (cells slots : Nat), li Γ s x y ρ α σ H L cells slots → W p l e room_1 s m #[Value.ref b] below meth c H L cells slots (lw_Z below #[Value.ref b] s) (F0 m 2391 ls [])) : W p l e room_1 s m #[Value.ref b] below meth c H L cells slots (lw_Z below #[Value.ref b] s) (F0 m 1776 ls []) := by
  have hx := C.1.1
  have hb := C.1.2.1
  have hi3 : (Ln : Int) ≤ 3072 := by omega
  have hcs : cells ≤ 986 ∧ slots ≤ 148568 := by rcases hli.2.2.2.2.2.2 with ⟨-, h1, h2⟩ | ⟨-, h1, h2⟩ <;> omega
  obtain ⟨hB, hG, hKx, hM, hR, hE, hRo⟩ := id hli
  refine lv_aload_n hx hb dL_law_1776 rfl (lv_at hl 1 rfl) (hp_n (n := 1777) rfl ?_)
  refine l_arg (j := 1) (nj := 1) (q0 := 0) (q3 := 3) (pc' := 1782) C hB hX hbl hbA hl rfl rfl (by decide) hi hi2 hi3 dL_law_1777 dL_law_1778 rfl dL_law_1779 dL_law_1780 dL_law_1781 rfl rfl rfl rfl rfl (fun u1 eu1 => ?_)
  refine l_arg (j := 2) (nj := 2) (q0 := 0) (q3 := 3) (pc' := 1787) C hB hX hbl hbA hl rfl rfl (by decide) hi hi2 hi3 dL_law_1782 dL_law_1783 rfl dL_law_1784 dL_law_1785 dL_law_1786 rfl rfl rfl rfl rfl (fun u2 eu2 => ?_)
  refine l_arg (j := 3) (nj := 3) (q0 := 0) (q3 := 3) (pc' := 1792) C hB hX hbl hbA hl rfl rfl (by decide) hi hi2 hi3 dL_law_1787 dL_law_1788 rfl dL_law_1789 dL_law_1790 dL_law_1791 rfl rfl rfl rfl rfl (fun u3 eu3 => ?_)
  refine l_arg (j := 4) (nj := 4) (q0 := 0) (q3 := 3) (pc' := 1797) C hB hX hbl hbA hl rfl rfl (by decide) hi hi2 hi3 dL_law_1792 dL_law_1793 rfl dL_law_1794 dL_law_1795 dL_law_1796 rfl rfl rfl rfl rfl (fun u4 eu4 => ?_)
  refine l_arg (j := 5) (nj := 5) (q0 := 0) (q3 := 3) (pc' := 1802) C hB hX hbl hbA hl rfl rfl (by decide) hi hi2 hi3 dL_law_1797 dL_law_1798 rfl dL_law_1799 dL_law_1800 dL_law_1801 rfl rfl rfl rfl rfl (fun u5 eu5 => ?_)
  refine q_ci (pc' := 1805) hB (l_runV (As := [.int u1, .int u2, .int u3, .int u4, .int u5]) (rest := []) C hB (t_X11_clash Γ l α hG x hKx u1 u2 u3 u4 u5) lb_X11_clash lv_X11_clash lk_L_195 hKx (Nat.le_of_ble_eq_true rfl) (Nat.le_of_ble_eq_true rfl) ⟨Nat.le_trans (Nat.add_le_add_right hcs.1 _) (Nat.le_of_ble_eq_true rfl), Nat.le_trans (Nat.add_le_add_right hcs.2 _) (Nat.le_of_ble_eq_true rfl)⟩ rfl hl.1 rfl (Nat.le_of_ble_eq_true rfl) dL_law_1802) (fun _ _ _ => trivial) rfl (fun r1 β H1 L1 p1 B1 => ?_)
  have hli1 := li_cw hli B1 p1 (by decide)
  refine lv_pop hx hb dL_law_1805 rfl (hp_n (n := 1806) rfl ?_)
  obtain ⟨hB, hG, hKx, hM, hR, hE, hRo⟩ := id hli1
  have hcs : cells + 0 ≤ 986 ∧ slots + 0 ≤ 148568 := by rcases hRo with ⟨-, h1, h2⟩ | ⟨-, h1, h2⟩ <;> omega
  refine lv_aload_n hx hb dL_law_1806 rfl (lv_at hl 2 rfl) (hp_n (n := 1807) rfl ?_)
  refine l_arg (j := 1) (nj := 1) (q0 := 0) (q3 := 3) (pc' := 1812) C hB hX hbl hbA hl rfl rfl (by decide) hi hi2 hi3 dL_law_1807 dL_law_1808 rfl dL_law_1809 dL_law_1810 dL_law_1811 rfl rfl rfl rfl rfl (fun w1 ew1 => ?_)
  refine l_arg (j := 2) (nj := 2) (q0 := 0) (q3 := 3) (pc' := 1817) C hB hX hbl hbA hl rfl rfl (by decide) hi hi2 hi3 dL_law_1812 dL_law_1813 rfl dL_law_1814 dL_law_1815 dL_law_1816 rfl rfl rfl rfl rfl (fun w2 ew2 => ?_)
  refine l_arg (j := 3) (nj := 3) (q0 := 0) (q3 := 3) (pc' := 1822) C hB hX hbl hbA hl rfl rfl (by decide) hi hi2 hi3 dL_law_1817 dL_law_1818 rfl dL_law_1819 dL_law_1820 dL_law_1821 rfl rfl rfl rfl rfl (fun w3 ew3 => ?_)
  refine l_arg (j := 4) (nj := 4) (q0 := 0) (q3 := 3) (pc' := 1827) C hB hX hbl hbA hl rfl rfl (by decide) hi hi2 hi3 dL_law_1822 dL_law_1823 rfl dL_law_1824 dL_law_1825 dL_law_1826 rfl rfl rfl rfl rfl (fun w4 ew4 => ?_)
  refine l_arg (j := 5) (nj := 5) (q0 := 0) (q3 := 3) (pc' := 1832) C hB hX hbl hbA hl rfl rfl (by decide) hi hi2 hi3 dL_law_1827 dL_law_1828 rfl dL_law_1829 dL_law_1830 dL_law_1831 rfl rfl rfl rfl rfl (fun w5 ew5 => ?_)
  rw [← eu1] at ew1; have ew1 := ew1.symm; subst ew1
  rw [← eu2] at ew2; have ew2 := ew2.symm; subst ew2
  rw [← eu3] at ew3; have ew3 := ew3.symm; subst ew3
  rw [← eu4] at ew4; have ew4 := ew4.symm; subst ew4
  rw [← eu5] at ew5; have ew5 := ew5.symm; subst ew5
  obtain ⟨⟨r2, τ⟩, hq, hp⟩ := ws_pr (s_clash 70000 (by decide) σ hR u1 u2 u3 u4 u5) (z_X12_clash kq_rf)
  refine q_ci (pc' := 1835) hB (l_runV (As := [.int u1, .int u2, .int u3, .int u4, .int u5]) (rest := []) C hB (m_X12_clash 70000 Γ l _ y ρ σ hM u1 u2 u3 u4 u5 (r2, τ) hq) lb_X12_clash lv_X12_clash lk_L_198 hM.1 (Nat.le_of_ble_eq_true rfl) (Nat.le_of_ble_eq_true rfl) ⟨Nat.le_trans (Nat.add_le_add_right hcs.1 _) (Nat.le_of_ble_eq_true rfl), Nat.le_trans (Nat.add_le_add_right hcs.2 _) (Nat.le_of_ble_eq_true rfl)⟩ rfl hl.1 rfl (Nat.le_of_ble_eq_true rfl) dL_law_1832) (fun _ _ _ => trivial) rfl (fun r3 γ H2 L2 p2 B2 => ?_)
  have hli2 := li0_mo (li_0 hli1) B2 p2.2.1 p2.2.2 hp.1.1 (lx_kq hli1.2.2.2.2.2.1 p2.2.1 hp.2 hp.1.2 hp.1.1)
  refine lv_pop hx hb dL_law_1835 rfl (hp_n (n := 1836) rfl ?_)
  refine lv_goto (tgt := 2391) hx hb dL_law_1836 (by decide) ?_
  exact kk _ _ _ _ _ _ hli2
set_option maxRecDepth 100000 in
set_option maxHeartbeats 4000000 in
theorem lc_45 {p : Program} {l : Launch} {e : Env} {s : State} {m : MethodId} {below : List Frame} {meth : Method} {c : Code} {Γ : hp_G} {b Ln x y : Nat} {xs : Nat → Int32} {ρ : Nat → Nat} (C : hp_C Γ p m c cL_law 4 s #[Value.ref b] RL) (hX : va_X b Ln xs s s.heap) (hbl : b < s.heap.size) (hbA : ¬ hp_A Γ b) (hLn : Ln ≤ 3072) {α : hp_T} {σ : ms_T} {H : Heap} {L : List Loc} {cells slots : Nat} (hli : li Γ s x y ρ α σ H L cells slots) (i : Int32) (hi : 0 ≤ i.toInt) (hi2 : i.toInt + 6 ≤ (Ln : Int)) (ls : Array Slot) (hl : lv_has ls 4 [(0, .ref b), (1, .ref x), (2, .ref y), (3, .int i)]) (kk : ∀ (α : hp_T) (σ : ms_T) (H : Heap) (L : List Loc) (cells slots : Nat), li Γ s x y ρ α σ H L cells slots → W p l e room_1 s m #[Value.ref b] below meth c H L cells slots (lw_Z below #[Value.ref b] s) (F0 m 2391 ls [])) : W p l e room_1 s m #[Value.ref b] below meth c H L cells slots (lw_Z below #[Value.ref b] s) (F0 m 1839 ls []) := by
  have hx := C.1.1
  have hb := C.1.2.1
  have hi3 : (Ln : Int) ≤ 3072 := by omega
  have hcs : cells ≤ 986 ∧ slots ≤ 148568 := by rcases hli.2.2.2.2.2.2 with ⟨-, h1, h2⟩ | ⟨-, h1, h2⟩ <;> omega
  obtain ⟨hB, hG, hKx, hM, hR, hE, hRo⟩ := id hli
  refine lv_aload_n hx hb dL_law_1839 rfl (lv_at hl 1 rfl) (hp_n (n := 1840) rfl ?_)
  refine l_arg (j := 1) (nj := 1) (q0 := 0) (q3 := 3) (pc' := 1845) C hB hX hbl hbA hl rfl rfl (by decide) hi hi2 hi3 dL_law_1840 dL_law_1841 rfl dL_law_1842 dL_law_1843 dL_law_1844 rfl rfl rfl rfl rfl (fun u1 eu1 => ?_)
  refine l_arg (j := 2) (nj := 2) (q0 := 0) (q3 := 3) (pc' := 1850) C hB hX hbl hbA hl rfl rfl (by decide) hi hi2 hi3 dL_law_1845 dL_law_1846 rfl dL_law_1847 dL_law_1848 dL_law_1849 rfl rfl rfl rfl rfl (fun u2 eu2 => ?_)
  refine l_arg (j := 3) (nj := 3) (q0 := 0) (q3 := 3) (pc' := 1855) C hB hX hbl hbA hl rfl rfl (by decide) hi hi2 hi3 dL_law_1850 dL_law_1851 rfl dL_law_1852 dL_law_1853 dL_law_1854 rfl rfl rfl rfl rfl (fun u3 eu3 => ?_)
  refine l_arg (j := 4) (nj := 4) (q0 := 0) (q3 := 3) (pc' := 1860) C hB hX hbl hbA hl rfl rfl (by decide) hi hi2 hi3 dL_law_1855 dL_law_1856 rfl dL_law_1857 dL_law_1858 dL_law_1859 rfl rfl rfl rfl rfl (fun u4 eu4 => ?_)
  refine l_arg (j := 5) (nj := 5) (q0 := 0) (q3 := 3) (pc' := 1865) C hB hX hbl hbA hl rfl rfl (by decide) hi hi2 hi3 dL_law_1860 dL_law_1861 rfl dL_law_1862 dL_law_1863 dL_law_1864 rfl rfl rfl rfl rfl (fun u5 eu5 => ?_)
  cases hN : hp_N α 618 x with
  | none =>
    refine l_ciZ (pc' := 1868) hB (l_runH (As := [.int u1, .int u2, .int u3, .int u4, .int u5]) (rest := []) C hB (t_X11_forge_N Γ l α hG H x hKx u1 u2 u3 u4 u5 hN) lb_X11_forge lv_X11_forge lk_L_199 hKx (Nat.le_of_ble_eq_true rfl) (Nat.le_of_ble_eq_true rfl) ⟨Nat.le_trans (Nat.add_le_add_right hcs.1 _) (Nat.le_of_ble_eq_true rfl), Nat.le_trans (Nat.add_le_add_right hcs.2 _) (Nat.le_of_ble_eq_true rfl)⟩ rfl hl.1 rfl (Nat.le_of_ble_eq_true rfl) dL_law_1865) rfl (fun r1 β H1 L1 p1 n1 B1 => ?_) (fun r1 β H1 L1 p1 n1 B1 => ?_)
    · have hli1 : li Γ s x y ρ β σ H1 L1 cells slots := ⟨⟨B1.1, B1.2.1, trivial⟩, p1.1, (p1.2.1 x (by rw [hKx]; decide)).trans hKx, hm_cg hM p1 (by decide), hR, LX_cg hG hKx hE p1 (by decide), Or.inl ⟨n1, by rcases hRo with h | h; exact h.2; exact absurd hN h.1⟩⟩
      refine lv_pop hx hb dL_law_1868 rfl (hp_n (n := 1869) rfl ?_)
      obtain ⟨hB, hG, hKx, hM, hR, hE, hRo⟩ := id hli1
      have hcs : cells ≤ 986 ∧ slots ≤ 148568 := by rcases hRo with ⟨-, h1, h2⟩ | ⟨-, h1, h2⟩ <;> omega
      refine lv_aload_n hx hb dL_law_1869 rfl (lv_at hl 2 rfl) (hp_n (n := 1870) rfl ?_)
      refine l_arg (j := 1) (nj := 1) (q0 := 0) (q3 := 3) (pc' := 1875) C hB hX hbl hbA hl rfl rfl (by decide) hi hi2 hi3 dL_law_1870 dL_law_1871 rfl dL_law_1872 dL_law_1873 dL_law_1874 rfl rfl rfl rfl rfl (fun w1 ew1 => ?_)
      refine l_arg (j := 2) (nj := 2) (q0 := 0) (q3 := 3) (pc' := 1880) C hB hX hbl hbA hl rfl rfl (by decide) hi hi2 hi3 dL_law_1875 dL_law_1876 rfl dL_law_1877 dL_law_1878 dL_law_1879 rfl rfl rfl rfl rfl (fun w2 ew2 => ?_)
      refine l_arg (j := 3) (nj := 3) (q0 := 0) (q3 := 3) (pc' := 1885) C hB hX hbl hbA hl rfl rfl (by decide) hi hi2 hi3 dL_law_1880 dL_law_1881 rfl dL_law_1882 dL_law_1883 dL_law_1884 rfl rfl rfl rfl rfl (fun w3 ew3 => ?_)
      refine l_arg (j := 4) (nj := 4) (q0 := 0) (q3 := 3) (pc' := 1890) C hB hX hbl hbA hl rfl rfl (by decide) hi hi2 hi3 dL_law_1885 dL_law_1886 rfl dL_law_1887 dL_law_1888 dL_law_1889 rfl rfl rfl rfl rfl (fun w4 ew4 => ?_)
      refine l_arg (j := 5) (nj := 5) (q0 := 0) (q3 := 3) (pc' := 1895) C hB hX hbl hbA hl rfl rfl (by decide) hi hi2 hi3 dL_law_1890 dL_law_1891 rfl dL_law_1892 dL_law_1893 dL_law_1894 rfl rfl rfl rfl rfl (fun w5 ew5 => ?_)
      rw [← eu1] at ew1; have ew1 := ew1.symm; subst ew1
      rw [← eu2] at ew2; have ew2 := ew2.symm; subst ew2
      rw [← eu3] at ew3; have ew3 := ew3.symm; subst ew3
      rw [← eu4] at ew4; have ew4 := ew4.symm; subst ew4
      rw [← eu5] at ew5; have ew5 := ew5.symm; subst ew5
      obtain ⟨⟨r2, τ⟩, hq, hp⟩ := ws_pr (s_forge 70000 (by decide) σ hR u1 u2 u3 u4 u5) (z_X12_forge kq_rf)
      refine q_ci (pc' := 1898) hB (l_runV (As := [.int u1, .int u2, .int u3, .int u4, .int u5]) (rest := []) C hB (m_X12_forge 70000 Γ l _ y ρ σ hM u1 u2 u3 u4 u5 (r2, τ) hq) lb_X12_forge lv_X12_forge lk_L_202 hM.1 (Nat.le_of_ble_eq_true rfl) (Nat.le_of_ble_eq_true rfl) ⟨Nat.le_trans (Nat.add_le_add_right hcs.1 _) (Nat.le_of_ble_eq_true rfl), Nat.le_trans (Nat.add_le_add_right hcs.2 _) (Nat.le_of_ble_eq_true rfl)⟩ rfl hl.1 rfl (Nat.le_of_ble_eq_true rfl) dL_law_1895) (fun _ _ _ => trivial) rfl (fun r3 γ H2 L2 p2 B2 => ?_)
      have hli2 := li0_mo (li_0 hli1) B2 p2.2.1 p2.2.2 hp.1.1 (lx_kq hli1.2.2.2.2.2.1 p2.2.1 hp.2 hp.1.2 hp.1.1)
      refine lv_pop hx hb dL_law_1898 rfl (hp_n (n := 1899) rfl ?_)
      refine lv_goto (tgt := 2391) hx hb dL_law_1899 (by decide) ?_
      exact kk _ _ _ _ _ _ hli2
    · have hli1 : li Γ s x y ρ β σ H1 L1 (cells + 9) (slots + 131316) := ⟨⟨B1.1, B1.2.1, trivial⟩, p1.1, (p1.2.1 x (by rw [hKx]; decide)).trans hKx, hm_cg hM p1 (by decide), hR, LX_cg hG hKx hE p1 (by decide), Or.inr ⟨n1, by rcases hRo with h | h; omega; exact absurd hN h.1⟩⟩
      refine lv_pop hx hb dL_law_1868 rfl (hp_n (n := 1869) rfl ?_)
      obtain ⟨hB, hG, hKx, hM, hR, hE, hRo⟩ := id hli1
      have hcs : cells + 9 ≤ 986 ∧ slots + 131316 ≤ 148568 := by rcases hRo with ⟨-, h1, h2⟩ | ⟨-, h1, h2⟩ <;> omega
      refine lv_aload_n hx hb dL_law_1869 rfl (lv_at hl 2 rfl) (hp_n (n := 1870) rfl ?_)
      refine l_arg (j := 1) (nj := 1) (q0 := 0) (q3 := 3) (pc' := 1875) C hB hX hbl hbA hl rfl rfl (by decide) hi hi2 hi3 dL_law_1870 dL_law_1871 rfl dL_law_1872 dL_law_1873 dL_law_1874 rfl rfl rfl rfl rfl (fun w1 ew1 => ?_)
      refine l_arg (j := 2) (nj := 2) (q0 := 0) (q3 := 3) (pc' := 1880) C hB hX hbl hbA hl rfl rfl (by decide) hi hi2 hi3 dL_law_1875 dL_law_1876 rfl dL_law_1877 dL_law_1878 dL_law_1879 rfl rfl rfl rfl rfl (fun w2 ew2 => ?_)
      refine l_arg (j := 3) (nj := 3) (q0 := 0) (q3 := 3) (pc' := 1885) C hB hX hbl hbA hl rfl rfl (by decide) hi hi2 hi3 dL_law_1880 dL_law_1881 rfl dL_law_1882 dL_law_1883 dL_law_1884 rfl rfl rfl rfl rfl (fun w3 ew3 => ?_)
      refine l_arg (j := 4) (nj := 4) (q0 := 0) (q3 := 3) (pc' := 1890) C hB hX hbl hbA hl rfl rfl (by decide) hi hi2 hi3 dL_law_1885 dL_law_1886 rfl dL_law_1887 dL_law_1888 dL_law_1889 rfl rfl rfl rfl rfl (fun w4 ew4 => ?_)
      refine l_arg (j := 5) (nj := 5) (q0 := 0) (q3 := 3) (pc' := 1895) C hB hX hbl hbA hl rfl rfl (by decide) hi hi2 hi3 dL_law_1890 dL_law_1891 rfl dL_law_1892 dL_law_1893 dL_law_1894 rfl rfl rfl rfl rfl (fun w5 ew5 => ?_)
      rw [← eu1] at ew1; have ew1 := ew1.symm; subst ew1
      rw [← eu2] at ew2; have ew2 := ew2.symm; subst ew2
      rw [← eu3] at ew3; have ew3 := ew3.symm; subst ew3
      rw [← eu4] at ew4; have ew4 := ew4.symm; subst ew4
      rw [← eu5] at ew5; have ew5 := ew5.symm; subst ew5
      obtain ⟨⟨r2, τ⟩, hq, hp⟩ := ws_pr (s_forge 70000 (by decide) σ hR u1 u2 u3 u4 u5) (z_X12_forge kq_rf)
      refine q_ci (pc' := 1898) hB (l_runV (As := [.int u1, .int u2, .int u3, .int u4, .int u5]) (rest := []) C hB (m_X12_forge 70000 Γ l _ y ρ σ hM u1 u2 u3 u4 u5 (r2, τ) hq) lb_X12_forge lv_X12_forge lk_L_202 hM.1 (Nat.le_of_ble_eq_true rfl) (Nat.le_of_ble_eq_true rfl) ⟨Nat.le_trans (Nat.add_le_add_right hcs.1 _) (Nat.le_of_ble_eq_true rfl), Nat.le_trans (Nat.add_le_add_right hcs.2 _) (Nat.le_of_ble_eq_true rfl)⟩ rfl hl.1 rfl (Nat.le_of_ble_eq_true rfl) dL_law_1895) (fun _ _ _ => trivial) rfl (fun r3 γ H2 L2 p2 B2 => ?_)
      have hli2 := li0_mo (li_0 hli1) B2 p2.2.1 p2.2.2 hp.1.1 (lx_kq hli1.2.2.2.2.2.1 p2.2.1 hp.2 hp.1.2 hp.1.1)
      refine lv_pop hx hb dL_law_1898 rfl (hp_n (n := 1899) rfl ?_)
      refine lv_goto (tgt := 2391) hx hb dL_law_1899 (by decide) ?_
      exact kk _ _ _ _ _ _ hli2
  | some b0 =>
    refine q_ci (pc' := 1868) hB (l_runV (As := [.int u1, .int u2, .int u3, .int u4, .int u5]) (rest := []) C hB (t_X11_forge_S Γ l α hG x hKx u1 u2 u3 u4 u5 b0 hN) lb_X11_forge lv_X11_forge lk_L_199 hKx (Nat.le_of_ble_eq_true rfl) (Nat.le_of_ble_eq_true rfl) ⟨Nat.le_trans (Nat.add_le_add_right hcs.1 _) (Nat.le_of_ble_eq_true rfl), Nat.le_trans (Nat.add_le_add_right hcs.2 _) (Nat.le_of_ble_eq_true rfl)⟩ rfl hl.1 rfl (Nat.le_of_ble_eq_true rfl) dL_law_1865) (fun _ _ _ => trivial) rfl (fun r1 β H1 L1 p1 B1 => ?_)
    have hli1 := li_cw hli B1 p1 (by decide)
    refine lv_pop hx hb dL_law_1868 rfl (hp_n (n := 1869) rfl ?_)
    obtain ⟨hB, hG, hKx, hM, hR, hE, hRo⟩ := id hli1
    have hcs : cells + 0 ≤ 986 ∧ slots + 0 ≤ 148568 := by rcases hRo with ⟨-, h1, h2⟩ | ⟨-, h1, h2⟩ <;> omega
    refine lv_aload_n hx hb dL_law_1869 rfl (lv_at hl 2 rfl) (hp_n (n := 1870) rfl ?_)
    refine l_arg (j := 1) (nj := 1) (q0 := 0) (q3 := 3) (pc' := 1875) C hB hX hbl hbA hl rfl rfl (by decide) hi hi2 hi3 dL_law_1870 dL_law_1871 rfl dL_law_1872 dL_law_1873 dL_law_1874 rfl rfl rfl rfl rfl (fun w1 ew1 => ?_)
    refine l_arg (j := 2) (nj := 2) (q0 := 0) (q3 := 3) (pc' := 1880) C hB hX hbl hbA hl rfl rfl (by decide) hi hi2 hi3 dL_law_1875 dL_law_1876 rfl dL_law_1877 dL_law_1878 dL_law_1879 rfl rfl rfl rfl rfl (fun w2 ew2 => ?_)
    refine l_arg (j := 3) (nj := 3) (q0 := 0) (q3 := 3) (pc' := 1885) C hB hX hbl hbA hl rfl rfl (by decide) hi hi2 hi3 dL_law_1880 dL_law_1881 rfl dL_law_1882 dL_law_1883 dL_law_1884 rfl rfl rfl rfl rfl (fun w3 ew3 => ?_)
    refine l_arg (j := 4) (nj := 4) (q0 := 0) (q3 := 3) (pc' := 1890) C hB hX hbl hbA hl rfl rfl (by decide) hi hi2 hi3 dL_law_1885 dL_law_1886 rfl dL_law_1887 dL_law_1888 dL_law_1889 rfl rfl rfl rfl rfl (fun w4 ew4 => ?_)
    refine l_arg (j := 5) (nj := 5) (q0 := 0) (q3 := 3) (pc' := 1895) C hB hX hbl hbA hl rfl rfl (by decide) hi hi2 hi3 dL_law_1890 dL_law_1891 rfl dL_law_1892 dL_law_1893 dL_law_1894 rfl rfl rfl rfl rfl (fun w5 ew5 => ?_)
    rw [← eu1] at ew1; have ew1 := ew1.symm; subst ew1
    rw [← eu2] at ew2; have ew2 := ew2.symm; subst ew2
    rw [← eu3] at ew3; have ew3 := ew3.symm; subst ew3
    rw [← eu4] at ew4; have ew4 := ew4.symm; subst ew4
    rw [← eu5] at ew5; have ew5 := ew5.symm; subst ew5
    obtain ⟨⟨r2, τ⟩, hq, hp⟩ := ws_pr (s_forge 70000 (by decide) σ hR u1 u2 u3 u4 u5) (z_X12_forge kq_rf)
    refine q_ci (pc' := 1898) hB (l_runV (As := [.int u1, .int u2, .int u3, .int u4, .int u5]) (rest := []) C hB (m_X12_forge 70000 Γ l _ y ρ σ hM u1 u2 u3 u4 u5 (r2, τ) hq) lb_X12_forge lv_X12_forge lk_L_202 hM.1 (Nat.le_of_ble_eq_true rfl) (Nat.le_of_ble_eq_true rfl) ⟨Nat.le_trans (Nat.add_le_add_right hcs.1 _) (Nat.le_of_ble_eq_true rfl), Nat.le_trans (Nat.add_le_add_right hcs.2 _) (Nat.le_of_ble_eq_true rfl)⟩ rfl hl.1 rfl (Nat.le_of_ble_eq_true rfl) dL_law_1895) (fun _ _ _ => trivial) rfl (fun r3 γ H2 L2 p2 B2 => ?_)
    have hli2 := li0_mo (li_0 hli1) B2 p2.2.1 p2.2.2 hp.1.1 (lx_kq hli1.2.2.2.2.2.1 p2.2.1 hp.2 hp.1.2 hp.1.1)
    refine lv_pop hx hb dL_law_1898 rfl (hp_n (n := 1899) rfl ?_)
    refine lv_goto (tgt := 2391) hx hb dL_law_1899 (by decide) ?_
    exact kk _ _ _ _ _ _ hli2
set_option maxRecDepth 100000 in
set_option maxHeartbeats 4000000 in
theorem lc_46 {p : Program} {l : Launch} {e : Env} {s : State} {m : MethodId} {below : List Frame} {meth : Method} {c : Code} {Γ : hp_G} {b Ln x y : Nat} {xs : Nat → Int32} {ρ : Nat → Nat} (C : hp_C Γ p m c cL_law 4 s #[Value.ref b] RL) (hX : va_X b Ln xs s s.heap) (hbl : b < s.heap.size) (hbA : ¬ hp_A Γ b) (hLn : Ln ≤ 3072) {α : hp_T} {σ : ms_T} {H : Heap} {L : List Loc} {cells slots : Nat} (hli : li Γ s x y ρ α σ H L cells slots) (i : Int32) (hi : 0 ≤ i.toInt) (hi2 : i.toInt + 6 ≤ (Ln : Int)) (ls : Array Slot) (hl : lv_has ls 4 [(0, .ref b), (1, .ref x), (2, .ref y), (3, .int i)]) (kk : ∀ (α : hp_T) (σ : ms_T) (H : Heap) (L : List Loc) (cells slots : Nat), li Γ s x y ρ α σ H L cells slots → W p l e room_1 s m #[Value.ref b] below meth c H L cells slots (lw_Z below #[Value.ref b] s) (F0 m 2391 ls [])) : W p l e room_1 s m #[Value.ref b] below meth c H L cells slots (lw_Z below #[Value.ref b] s) (F0 m 1902 ls []) := by
  have hx := C.1.1
  have hb := C.1.2.1
  have hi3 : (Ln : Int) ≤ 3072 := by omega
  have hcs : cells ≤ 986 ∧ slots ≤ 148568 := by rcases hli.2.2.2.2.2.2 with ⟨-, h1, h2⟩ | ⟨-, h1, h2⟩ <;> omega
  obtain ⟨hB, hG, hKx, hM, hR, hE, hRo⟩ := id hli
  refine lv_aload_n hx hb dL_law_1902 rfl (lv_at hl 1 rfl) (hp_n (n := 1903) rfl ?_)
  refine l_arg (j := 1) (nj := 1) (q0 := 0) (q3 := 3) (pc' := 1908) C hB hX hbl hbA hl rfl rfl (by decide) hi hi2 hi3 dL_law_1903 dL_law_1904 rfl dL_law_1905 dL_law_1906 dL_law_1907 rfl rfl rfl rfl rfl (fun u1 eu1 => ?_)
  refine l_arg (j := 2) (nj := 2) (q0 := 0) (q3 := 3) (pc' := 1913) C hB hX hbl hbA hl rfl rfl (by decide) hi hi2 hi3 dL_law_1908 dL_law_1909 rfl dL_law_1910 dL_law_1911 dL_law_1912 rfl rfl rfl rfl rfl (fun u2 eu2 => ?_)
  refine l_arg (j := 3) (nj := 3) (q0 := 0) (q3 := 3) (pc' := 1918) C hB hX hbl hbA hl rfl rfl (by decide) hi hi2 hi3 dL_law_1913 dL_law_1914 rfl dL_law_1915 dL_law_1916 dL_law_1917 rfl rfl rfl rfl rfl (fun u3 eu3 => ?_)
  refine l_arg (j := 4) (nj := 4) (q0 := 0) (q3 := 3) (pc' := 1923) C hB hX hbl hbA hl rfl rfl (by decide) hi hi2 hi3 dL_law_1918 dL_law_1919 rfl dL_law_1920 dL_law_1921 dL_law_1922 rfl rfl rfl rfl rfl (fun u4 eu4 => ?_)
  refine q_ci (pc' := 1926) hB (l_runV (As := [.int u1, .int u2, .int u3, .int u4]) (rest := []) C hB (t_X11_trace Γ l α hG x hKx u1 u2 u3 u4) lb_X11_trace lv_X11_trace lk_L_203 hKx (Nat.le_of_ble_eq_true rfl) (Nat.le_of_ble_eq_true rfl) ⟨Nat.le_trans (Nat.add_le_add_right hcs.1 _) (Nat.le_of_ble_eq_true rfl), Nat.le_trans (Nat.add_le_add_right hcs.2 _) (Nat.le_of_ble_eq_true rfl)⟩ rfl hl.1 rfl (Nat.le_of_ble_eq_true rfl) dL_law_1923) (fun _ _ _ => trivial) rfl (fun r1 β H1 L1 p1 B1 => ?_)
  have hli1 := li_cw hli B1 p1 (by decide)
  refine lv_pop hx hb dL_law_1926 rfl (hp_n (n := 1927) rfl ?_)
  obtain ⟨hB, hG, hKx, hM, hR, hE, hRo⟩ := id hli1
  have hcs : cells + 0 ≤ 986 ∧ slots + 0 ≤ 148568 := by rcases hRo with ⟨-, h1, h2⟩ | ⟨-, h1, h2⟩ <;> omega
  refine lv_aload_n hx hb dL_law_1927 rfl (lv_at hl 2 rfl) (hp_n (n := 1928) rfl ?_)
  refine l_arg (j := 1) (nj := 1) (q0 := 0) (q3 := 3) (pc' := 1933) C hB hX hbl hbA hl rfl rfl (by decide) hi hi2 hi3 dL_law_1928 dL_law_1929 rfl dL_law_1930 dL_law_1931 dL_law_1932 rfl rfl rfl rfl rfl (fun w1 ew1 => ?_)
  refine l_arg (j := 2) (nj := 2) (q0 := 0) (q3 := 3) (pc' := 1938) C hB hX hbl hbA hl rfl rfl (by decide) hi hi2 hi3 dL_law_1933 dL_law_1934 rfl dL_law_1935 dL_law_1936 dL_law_1937 rfl rfl rfl rfl rfl (fun w2 ew2 => ?_)
  refine l_arg (j := 3) (nj := 3) (q0 := 0) (q3 := 3) (pc' := 1943) C hB hX hbl hbA hl rfl rfl (by decide) hi hi2 hi3 dL_law_1938 dL_law_1939 rfl dL_law_1940 dL_law_1941 dL_law_1942 rfl rfl rfl rfl rfl (fun w3 ew3 => ?_)
  refine l_arg (j := 4) (nj := 4) (q0 := 0) (q3 := 3) (pc' := 1948) C hB hX hbl hbA hl rfl rfl (by decide) hi hi2 hi3 dL_law_1943 dL_law_1944 rfl dL_law_1945 dL_law_1946 dL_law_1947 rfl rfl rfl rfl rfl (fun w4 ew4 => ?_)
  rw [← eu1] at ew1; have ew1 := ew1.symm; subst ew1
  rw [← eu2] at ew2; have ew2 := ew2.symm; subst ew2
  rw [← eu3] at ew3; have ew3 := ew3.symm; subst ew3
  rw [← eu4] at ew4; have ew4 := ew4.symm; subst ew4
  obtain ⟨⟨r2, τ⟩, hq, hp⟩ := ws_pr (s_trace 70000 (by decide) σ hR u1 u2 u3 u4) (z_X12_trace kq_rf)
  refine q_ci (pc' := 1951) hB (l_runV (As := [.int u1, .int u2, .int u3, .int u4]) (rest := []) C hB (m_X12_trace 70000 Γ l _ y ρ σ hM u1 u2 u3 u4 (r2, τ) hq) lb_X12_trace lv_X12_trace lk_L_206 hM.1 (Nat.le_of_ble_eq_true rfl) (Nat.le_of_ble_eq_true rfl) ⟨Nat.le_trans (Nat.add_le_add_right hcs.1 _) (Nat.le_of_ble_eq_true rfl), Nat.le_trans (Nat.add_le_add_right hcs.2 _) (Nat.le_of_ble_eq_true rfl)⟩ rfl hl.1 rfl (Nat.le_of_ble_eq_true rfl) dL_law_1948) (fun _ _ _ => trivial) rfl (fun r3 γ H2 L2 p2 B2 => ?_)
  have hli2 := li0_mo (li_0 hli1) B2 p2.2.1 p2.2.2 hp.1.1 (lx_kq hli1.2.2.2.2.2.1 p2.2.1 hp.2 hp.1.2 hp.1.1)
  refine lv_pop hx hb dL_law_1951 rfl (hp_n (n := 1952) rfl ?_)
  refine lv_goto (tgt := 2391) hx hb dL_law_1952 (by decide) ?_
  exact kk _ _ _ _ _ _ hli2
set_option maxRecDepth 100000 in
set_option maxHeartbeats 4000000 in
theorem lc_47 {p : Program} {l : Launch} {e : Env} {s : State} {m : MethodId} {below : List Frame} {meth : Method} {c : Code} {Γ : hp_G} {b Ln x y : Nat} {xs : Nat → Int32} {ρ : Nat → Nat} (C : hp_C Γ p m c cL_law 4 s #[Value.ref b] RL) (hX : va_X b Ln xs s s.heap) (hbl : b < s.heap.size) (hbA : ¬ hp_A Γ b) (hLn : Ln ≤ 3072) {α : hp_T} {σ : ms_T} {H : Heap} {L : List Loc} {cells slots : Nat} (hli : li Γ s x y ρ α σ H L cells slots) (i : Int32) (hi : 0 ≤ i.toInt) (hi2 : i.toInt + 6 ≤ (Ln : Int)) (ls : Array Slot) (hl : lv_has ls 4 [(0, .ref b), (1, .ref x), (2, .ref y), (3, .int i)]) (kk : ∀ (α : hp_T) (σ : ms_T) (H : Heap) (L : List Loc) (cells slots : Nat), li Γ s x y ρ α σ H L cells slots → W p l e room_1 s m #[Value.ref b] below meth c H L cells slots (lw_Z below #[Value.ref b] s) (F0 m 2391 ls [])) : W p l e room_1 s m #[Value.ref b] below meth c H L cells slots (lw_Z below #[Value.ref b] s) (F0 m 1955 ls []) := by
  have hx := C.1.1
  have hb := C.1.2.1
  have hi3 : (Ln : Int) ≤ 3072 := by omega
  have hcs : cells ≤ 986 ∧ slots ≤ 148568 := by rcases hli.2.2.2.2.2.2 with ⟨-, h1, h2⟩ | ⟨-, h1, h2⟩ <;> omega
  obtain ⟨hB, hG, hKx, hM, hR, hE, hRo⟩ := id hli
  refine lv_aload_n hx hb dL_law_1955 rfl (lv_at hl 1 rfl) (hp_n (n := 1956) rfl ?_)
  refine l_arg (j := 1) (nj := 1) (q0 := 0) (q3 := 3) (pc' := 1961) C hB hX hbl hbA hl rfl rfl (by decide) hi hi2 hi3 dL_law_1956 dL_law_1957 rfl dL_law_1958 dL_law_1959 dL_law_1960 rfl rfl rfl rfl rfl (fun u1 eu1 => ?_)
  refine l_arg (j := 2) (nj := 2) (q0 := 0) (q3 := 3) (pc' := 1966) C hB hX hbl hbA hl rfl rfl (by decide) hi hi2 hi3 dL_law_1961 dL_law_1962 rfl dL_law_1963 dL_law_1964 dL_law_1965 rfl rfl rfl rfl rfl (fun u2 eu2 => ?_)
  refine l_arg (j := 3) (nj := 3) (q0 := 0) (q3 := 3) (pc' := 1971) C hB hX hbl hbA hl rfl rfl (by decide) hi hi2 hi3 dL_law_1966 dL_law_1967 rfl dL_law_1968 dL_law_1969 dL_law_1970 rfl rfl rfl rfl rfl (fun u3 eu3 => ?_)
  refine l_arg (j := 4) (nj := 4) (q0 := 0) (q3 := 3) (pc' := 1976) C hB hX hbl hbA hl rfl rfl (by decide) hi hi2 hi3 dL_law_1971 dL_law_1972 rfl dL_law_1973 dL_law_1974 dL_law_1975 rfl rfl rfl rfl rfl (fun u4 eu4 => ?_)
  refine q_ci (pc' := 1979) hB (l_runV (As := [.int u1, .int u2, .int u3, .int u4]) (rest := []) C hB (t_X11_span Γ l α hG x hKx u1 u2 u3 u4) lb_X11_span lv_X11_span lk_L_207 hKx (Nat.le_of_ble_eq_true rfl) (Nat.le_of_ble_eq_true rfl) ⟨Nat.le_trans (Nat.add_le_add_right hcs.1 _) (Nat.le_of_ble_eq_true rfl), Nat.le_trans (Nat.add_le_add_right hcs.2 _) (Nat.le_of_ble_eq_true rfl)⟩ rfl hl.1 rfl (Nat.le_of_ble_eq_true rfl) dL_law_1976) (fun _ _ _ => trivial) rfl (fun r1 β H1 L1 p1 B1 => ?_)
  have hli1 := li_cw hli B1 p1 (by decide)
  refine lv_pop hx hb dL_law_1979 rfl (hp_n (n := 1980) rfl ?_)
  obtain ⟨hB, hG, hKx, hM, hR, hE, hRo⟩ := id hli1
  have hcs : cells + 0 ≤ 986 ∧ slots + 0 ≤ 148568 := by rcases hRo with ⟨-, h1, h2⟩ | ⟨-, h1, h2⟩ <;> omega
  refine lv_aload_n hx hb dL_law_1980 rfl (lv_at hl 2 rfl) (hp_n (n := 1981) rfl ?_)
  refine l_arg (j := 1) (nj := 1) (q0 := 0) (q3 := 3) (pc' := 1986) C hB hX hbl hbA hl rfl rfl (by decide) hi hi2 hi3 dL_law_1981 dL_law_1982 rfl dL_law_1983 dL_law_1984 dL_law_1985 rfl rfl rfl rfl rfl (fun w1 ew1 => ?_)
  refine l_arg (j := 2) (nj := 2) (q0 := 0) (q3 := 3) (pc' := 1991) C hB hX hbl hbA hl rfl rfl (by decide) hi hi2 hi3 dL_law_1986 dL_law_1987 rfl dL_law_1988 dL_law_1989 dL_law_1990 rfl rfl rfl rfl rfl (fun w2 ew2 => ?_)
  refine l_arg (j := 3) (nj := 3) (q0 := 0) (q3 := 3) (pc' := 1996) C hB hX hbl hbA hl rfl rfl (by decide) hi hi2 hi3 dL_law_1991 dL_law_1992 rfl dL_law_1993 dL_law_1994 dL_law_1995 rfl rfl rfl rfl rfl (fun w3 ew3 => ?_)
  refine l_arg (j := 4) (nj := 4) (q0 := 0) (q3 := 3) (pc' := 2001) C hB hX hbl hbA hl rfl rfl (by decide) hi hi2 hi3 dL_law_1996 dL_law_1997 rfl dL_law_1998 dL_law_1999 dL_law_2000 rfl rfl rfl rfl rfl (fun w4 ew4 => ?_)
  rw [← eu1] at ew1; have ew1 := ew1.symm; subst ew1
  rw [← eu2] at ew2; have ew2 := ew2.symm; subst ew2
  rw [← eu3] at ew3; have ew3 := ew3.symm; subst ew3
  rw [← eu4] at ew4; have ew4 := ew4.symm; subst ew4
  obtain ⟨⟨r2, τ⟩, hq, hp⟩ := ws_pr (s_span 70000 (by decide) σ hR u1 u2 u3 u4) (z_X12_span kq_rf)
  refine q_ci (pc' := 2004) hB (l_runV (As := [.int u1, .int u2, .int u3, .int u4]) (rest := []) C hB (m_X12_span 70000 Γ l _ y ρ σ hM u1 u2 u3 u4 (r2, τ) hq) lb_X12_span lv_X12_span lk_L_210 hM.1 (Nat.le_of_ble_eq_true rfl) (Nat.le_of_ble_eq_true rfl) ⟨Nat.le_trans (Nat.add_le_add_right hcs.1 _) (Nat.le_of_ble_eq_true rfl), Nat.le_trans (Nat.add_le_add_right hcs.2 _) (Nat.le_of_ble_eq_true rfl)⟩ rfl hl.1 rfl (Nat.le_of_ble_eq_true rfl) dL_law_2001) (fun _ _ _ => trivial) rfl (fun r3 γ H2 L2 p2 B2 => ?_)
  have hli2 := li0_mo (li_0 hli1) B2 p2.2.1 p2.2.2 hp.1.1 (lx_kq hli1.2.2.2.2.2.1 p2.2.1 hp.2 hp.1.2 hp.1.1)
  refine lv_pop hx hb dL_law_2004 rfl (hp_n (n := 2005) rfl ?_)
  refine lv_goto (tgt := 2391) hx hb dL_law_2005 (by decide) ?_
  exact kk _ _ _ _ _ _ hli2
set_option maxRecDepth 100000 in
set_option maxHeartbeats 4000000 in
theorem lc_48 {p : Program} {l : Launch} {e : Env} {s : State} {m : MethodId} {below : List Frame} {meth : Method} {c : Code} {Γ : hp_G} {b Ln x y : Nat} {xs : Nat → Int32} {ρ : Nat → Nat} (C : hp_C Γ p m c cL_law 4 s #[Value.ref b] RL) (hX : va_X b Ln xs s s.heap) (hbl : b < s.heap.size) (hbA : ¬ hp_A Γ b) (hLn : Ln ≤ 3072) {α : hp_T} {σ : ms_T} {H : Heap} {L : List Loc} {cells slots : Nat} (hli : li Γ s x y ρ α σ H L cells slots) (i : Int32) (hi : 0 ≤ i.toInt) (hi2 : i.toInt + 6 ≤ (Ln : Int)) (ls : Array Slot) (hl : lv_has ls 4 [(0, .ref b), (1, .ref x), (2, .ref y), (3, .int i)]) (kk : ∀ (α : hp_T) (σ : ms_T) (H : Heap) (L : List Loc) (cells slots : Nat), li Γ s x y ρ α σ H L cells slots → W p l e room_1 s m #[Value.ref b] below meth c H L cells slots (lw_Z below #[Value.ref b] s) (F0 m 2391 ls [])) : W p l e room_1 s m #[Value.ref b] below meth c H L cells slots (lw_Z below #[Value.ref b] s) (F0 m 2008 ls []) := by
  have hx := C.1.1
  have hb := C.1.2.1
  have hi3 : (Ln : Int) ≤ 3072 := by omega
  have hcs : cells ≤ 986 ∧ slots ≤ 148568 := by rcases hli.2.2.2.2.2.2 with ⟨-, h1, h2⟩ | ⟨-, h1, h2⟩ <;> omega
  obtain ⟨hB, hG, hKx, hM, hR, hE, hRo⟩ := id hli
  refine lv_aload_n hx hb dL_law_2008 rfl (lv_at hl 1 rfl) (hp_n (n := 2009) rfl ?_)
  refine l_arg (j := 1) (nj := 1) (q0 := 0) (q3 := 3) (pc' := 2014) C hB hX hbl hbA hl rfl rfl (by decide) hi hi2 hi3 dL_law_2009 dL_law_2010 rfl dL_law_2011 dL_law_2012 dL_law_2013 rfl rfl rfl rfl rfl (fun u1 eu1 => ?_)
  refine l_arg (j := 2) (nj := 2) (q0 := 0) (q3 := 3) (pc' := 2019) C hB hX hbl hbA hl rfl rfl (by decide) hi hi2 hi3 dL_law_2014 dL_law_2015 rfl dL_law_2016 dL_law_2017 dL_law_2018 rfl rfl rfl rfl rfl (fun u2 eu2 => ?_)
  refine l_arg (j := 3) (nj := 3) (q0 := 0) (q3 := 3) (pc' := 2024) C hB hX hbl hbA hl rfl rfl (by decide) hi hi2 hi3 dL_law_2019 dL_law_2020 rfl dL_law_2021 dL_law_2022 dL_law_2023 rfl rfl rfl rfl rfl (fun u3 eu3 => ?_)
  refine l_arg (j := 4) (nj := 4) (q0 := 0) (q3 := 3) (pc' := 2029) C hB hX hbl hbA hl rfl rfl (by decide) hi hi2 hi3 dL_law_2024 dL_law_2025 rfl dL_law_2026 dL_law_2027 dL_law_2028 rfl rfl rfl rfl rfl (fun u4 eu4 => ?_)
  refine q_ci (pc' := 2032) hB (l_runV (As := [.int u1, .int u2, .int u3, .int u4]) (rest := []) C hB (t_X11_rise Γ l α hG x hKx u1 u2 u3 u4) lb_X11_rise lv_X11_rise lk_L_211 hKx (Nat.le_of_ble_eq_true rfl) (Nat.le_of_ble_eq_true rfl) ⟨Nat.le_trans (Nat.add_le_add_right hcs.1 _) (Nat.le_of_ble_eq_true rfl), Nat.le_trans (Nat.add_le_add_right hcs.2 _) (Nat.le_of_ble_eq_true rfl)⟩ rfl hl.1 rfl (Nat.le_of_ble_eq_true rfl) dL_law_2029) (fun _ _ _ => trivial) rfl (fun r1 β H1 L1 p1 B1 => ?_)
  have hli1 := li_cw hli B1 p1 (by decide)
  refine lv_pop hx hb dL_law_2032 rfl (hp_n (n := 2033) rfl ?_)
  obtain ⟨hB, hG, hKx, hM, hR, hE, hRo⟩ := id hli1
  have hcs : cells + 0 ≤ 986 ∧ slots + 0 ≤ 148568 := by rcases hRo with ⟨-, h1, h2⟩ | ⟨-, h1, h2⟩ <;> omega
  refine lv_aload_n hx hb dL_law_2033 rfl (lv_at hl 2 rfl) (hp_n (n := 2034) rfl ?_)
  refine l_arg (j := 1) (nj := 1) (q0 := 0) (q3 := 3) (pc' := 2039) C hB hX hbl hbA hl rfl rfl (by decide) hi hi2 hi3 dL_law_2034 dL_law_2035 rfl dL_law_2036 dL_law_2037 dL_law_2038 rfl rfl rfl rfl rfl (fun w1 ew1 => ?_)
  refine l_arg (j := 2) (nj := 2) (q0 := 0) (q3 := 3) (pc' := 2044) C hB hX hbl hbA hl rfl rfl (by decide) hi hi2 hi3 dL_law_2039 dL_law_2040 rfl dL_law_2041 dL_law_2042 dL_law_2043 rfl rfl rfl rfl rfl (fun w2 ew2 => ?_)
  refine l_arg (j := 3) (nj := 3) (q0 := 0) (q3 := 3) (pc' := 2049) C hB hX hbl hbA hl rfl rfl (by decide) hi hi2 hi3 dL_law_2044 dL_law_2045 rfl dL_law_2046 dL_law_2047 dL_law_2048 rfl rfl rfl rfl rfl (fun w3 ew3 => ?_)
  refine l_arg (j := 4) (nj := 4) (q0 := 0) (q3 := 3) (pc' := 2054) C hB hX hbl hbA hl rfl rfl (by decide) hi hi2 hi3 dL_law_2049 dL_law_2050 rfl dL_law_2051 dL_law_2052 dL_law_2053 rfl rfl rfl rfl rfl (fun w4 ew4 => ?_)
  rw [← eu1] at ew1; have ew1 := ew1.symm; subst ew1
  rw [← eu2] at ew2; have ew2 := ew2.symm; subst ew2
  rw [← eu3] at ew3; have ew3 := ew3.symm; subst ew3
  rw [← eu4] at ew4; have ew4 := ew4.symm; subst ew4
  obtain ⟨⟨r2, τ⟩, hq, hp⟩ := ws_pr (s_rise 70000 (by decide) σ hR u1 u2 u3 u4) (z_X12_rise kq_rf)
  refine q_ci (pc' := 2057) hB (l_runV (As := [.int u1, .int u2, .int u3, .int u4]) (rest := []) C hB (m_X12_rise 70000 Γ l _ y ρ σ hM u1 u2 u3 u4 (r2, τ) hq) lb_X12_rise lv_X12_rise lk_L_214 hM.1 (Nat.le_of_ble_eq_true rfl) (Nat.le_of_ble_eq_true rfl) ⟨Nat.le_trans (Nat.add_le_add_right hcs.1 _) (Nat.le_of_ble_eq_true rfl), Nat.le_trans (Nat.add_le_add_right hcs.2 _) (Nat.le_of_ble_eq_true rfl)⟩ rfl hl.1 rfl (Nat.le_of_ble_eq_true rfl) dL_law_2054) (fun _ _ _ => trivial) rfl (fun r3 γ H2 L2 p2 B2 => ?_)
  have hli2 := li0_mo (li_0 hli1) B2 p2.2.1 p2.2.2 hp.1.1 (lx_kq hli1.2.2.2.2.2.1 p2.2.1 hp.2 hp.1.2 hp.1.1)
  refine lv_pop hx hb dL_law_2057 rfl (hp_n (n := 2058) rfl ?_)
  refine lv_goto (tgt := 2391) hx hb dL_law_2058 (by decide) ?_
  exact kk _ _ _ _ _ _ hli2
set_option maxRecDepth 100000 in
set_option maxHeartbeats 4000000 in
theorem lc_49 {p : Program} {l : Launch} {e : Env} {s : State} {m : MethodId} {below : List Frame} {meth : Method} {c : Code} {Γ : hp_G} {b Ln x y : Nat} {xs : Nat → Int32} {ρ : Nat → Nat} (C : hp_C Γ p m c cL_law 4 s #[Value.ref b] RL) (hX : va_X b Ln xs s s.heap) (hbl : b < s.heap.size) (hbA : ¬ hp_A Γ b) (hLn : Ln ≤ 3072) {α : hp_T} {σ : ms_T} {H : Heap} {L : List Loc} {cells slots : Nat} (hli : li Γ s x y ρ α σ H L cells slots) (i : Int32) (hi : 0 ≤ i.toInt) (hi2 : i.toInt + 6 ≤ (Ln : Int)) (ls : Array Slot) (hl : lv_has ls 4 [(0, .ref b), (1, .ref x), (2, .ref y), (3, .int i)]) (kk : ∀ (α : hp_T) (σ : ms_T) (H : Heap) (L : List Loc) (cells slots : Nat), li Γ s x y ρ α σ H L cells slots → W p l e room_1 s m #[Value.ref b] below meth c H L cells slots (lw_Z below #[Value.ref b] s) (F0 m 2391 ls [])) : W p l e room_1 s m #[Value.ref b] below meth c H L cells slots (lw_Z below #[Value.ref b] s) (F0 m 2061 ls []) := by
  have hx := C.1.1
  have hb := C.1.2.1
  have hi3 : (Ln : Int) ≤ 3072 := by omega
  have hcs : cells ≤ 986 ∧ slots ≤ 148568 := by rcases hli.2.2.2.2.2.2 with ⟨-, h1, h2⟩ | ⟨-, h1, h2⟩ <;> omega
  obtain ⟨hB, hG, hKx, hM, hR, hE, hRo⟩ := id hli
  refine lv_aload_n hx hb dL_law_2061 rfl (lv_at hl 1 rfl) (hp_n (n := 2062) rfl ?_)
  refine l_arg (j := 1) (nj := 1) (q0 := 0) (q3 := 3) (pc' := 2067) C hB hX hbl hbA hl rfl rfl (by decide) hi hi2 hi3 dL_law_2062 dL_law_2063 rfl dL_law_2064 dL_law_2065 dL_law_2066 rfl rfl rfl rfl rfl (fun u1 eu1 => ?_)
  refine l_arg (j := 2) (nj := 2) (q0 := 0) (q3 := 3) (pc' := 2072) C hB hX hbl hbA hl rfl rfl (by decide) hi hi2 hi3 dL_law_2067 dL_law_2068 rfl dL_law_2069 dL_law_2070 dL_law_2071 rfl rfl rfl rfl rfl (fun u2 eu2 => ?_)
  refine l_arg (j := 3) (nj := 3) (q0 := 0) (q3 := 3) (pc' := 2077) C hB hX hbl hbA hl rfl rfl (by decide) hi hi2 hi3 dL_law_2072 dL_law_2073 rfl dL_law_2074 dL_law_2075 dL_law_2076 rfl rfl rfl rfl rfl (fun u3 eu3 => ?_)
  refine q_ci (pc' := 2080) hB (l_runV (As := [.int u1, .int u2, .int u3]) (rest := []) C hB (t_X11_kept Γ l α hG x hKx u1 u2 u3) lb_X11_kept lv_X11_kept lk_L_215 hKx (Nat.le_of_ble_eq_true rfl) (Nat.le_of_ble_eq_true rfl) ⟨Nat.le_trans (Nat.add_le_add_right hcs.1 _) (Nat.le_of_ble_eq_true rfl), Nat.le_trans (Nat.add_le_add_right hcs.2 _) (Nat.le_of_ble_eq_true rfl)⟩ rfl hl.1 rfl (Nat.le_of_ble_eq_true rfl) dL_law_2077) (fun _ _ _ => trivial) rfl (fun r1 β H1 L1 p1 B1 => ?_)
  have hli1 := li_cw hli B1 p1 (by decide)
  refine lv_pop hx hb dL_law_2080 rfl (hp_n (n := 2081) rfl ?_)
  obtain ⟨hB, hG, hKx, hM, hR, hE, hRo⟩ := id hli1
  have hcs : cells + 0 ≤ 986 ∧ slots + 0 ≤ 148568 := by rcases hRo with ⟨-, h1, h2⟩ | ⟨-, h1, h2⟩ <;> omega
  refine lv_aload_n hx hb dL_law_2081 rfl (lv_at hl 2 rfl) (hp_n (n := 2082) rfl ?_)
  refine l_arg (j := 1) (nj := 1) (q0 := 0) (q3 := 3) (pc' := 2087) C hB hX hbl hbA hl rfl rfl (by decide) hi hi2 hi3 dL_law_2082 dL_law_2083 rfl dL_law_2084 dL_law_2085 dL_law_2086 rfl rfl rfl rfl rfl (fun w1 ew1 => ?_)
  refine l_arg (j := 2) (nj := 2) (q0 := 0) (q3 := 3) (pc' := 2092) C hB hX hbl hbA hl rfl rfl (by decide) hi hi2 hi3 dL_law_2087 dL_law_2088 rfl dL_law_2089 dL_law_2090 dL_law_2091 rfl rfl rfl rfl rfl (fun w2 ew2 => ?_)
  refine l_arg (j := 3) (nj := 3) (q0 := 0) (q3 := 3) (pc' := 2097) C hB hX hbl hbA hl rfl rfl (by decide) hi hi2 hi3 dL_law_2092 dL_law_2093 rfl dL_law_2094 dL_law_2095 dL_law_2096 rfl rfl rfl rfl rfl (fun w3 ew3 => ?_)
  rw [← eu1] at ew1; have ew1 := ew1.symm; subst ew1
  rw [← eu2] at ew2; have ew2 := ew2.symm; subst ew2
  rw [← eu3] at ew3; have ew3 := ew3.symm; subst ew3
  obtain ⟨⟨r2, τ⟩, hq, hp⟩ := ws_pr (s_kept 70000 (by decide) σ hR u1 u2 u3) (z_X12_kept kq_rf)
  refine q_ci (pc' := 2100) hB (l_runV (As := [.int u1, .int u2, .int u3]) (rest := []) C hB (m_X12_kept 70000 Γ l _ y ρ σ hM u1 u2 u3 (r2, τ) hq) lb_X12_kept lv_X12_kept lk_L_218 hM.1 (Nat.le_of_ble_eq_true rfl) (Nat.le_of_ble_eq_true rfl) ⟨Nat.le_trans (Nat.add_le_add_right hcs.1 _) (Nat.le_of_ble_eq_true rfl), Nat.le_trans (Nat.add_le_add_right hcs.2 _) (Nat.le_of_ble_eq_true rfl)⟩ rfl hl.1 rfl (Nat.le_of_ble_eq_true rfl) dL_law_2097) (fun _ _ _ => trivial) rfl (fun r3 γ H2 L2 p2 B2 => ?_)
  have hli2 := li0_mo (li_0 hli1) B2 p2.2.1 p2.2.2 hp.1.1 (lx_kq hli1.2.2.2.2.2.1 p2.2.1 hp.2 hp.1.2 hp.1.1)
  refine lv_pop hx hb dL_law_2100 rfl (hp_n (n := 2101) rfl ?_)
  refine lv_goto (tgt := 2391) hx hb dL_law_2101 (by decide) ?_
  exact kk _ _ _ _ _ _ hli2
set_option maxRecDepth 100000 in
set_option maxHeartbeats 4000000 in
theorem lc_50 {p : Program} {l : Launch} {e : Env} {s : State} {m : MethodId} {below : List Frame} {meth : Method} {c : Code} {Γ : hp_G} {b Ln x y : Nat} {xs : Nat → Int32} {ρ : Nat → Nat} (C : hp_C Γ p m c cL_law 4 s #[Value.ref b] RL) (hX : va_X b Ln xs s s.heap) (hbl : b < s.heap.size) (hbA : ¬ hp_A Γ b) (hLn : Ln ≤ 3072) {α : hp_T} {σ : ms_T} {H : Heap} {L : List Loc} {cells slots : Nat} (hli : li Γ s x y ρ α σ H L cells slots) (i : Int32) (hi : 0 ≤ i.toInt) (hi2 : i.toInt + 6 ≤ (Ln : Int)) (ls : Array Slot) (hl : lv_has ls 4 [(0, .ref b), (1, .ref x), (2, .ref y), (3, .int i)]) (kk : ∀ (α : hp_T) (σ : ms_T) (H : Heap) (L : List Loc) (cells slots : Nat), li Γ s x y ρ α σ H L cells slots → W p l e room_1 s m #[Value.ref b] below meth c H L cells slots (lw_Z below #[Value.ref b] s) (F0 m 2391 ls [])) : W p l e room_1 s m #[Value.ref b] below meth c H L cells slots (lw_Z below #[Value.ref b] s) (F0 m 2104 ls []) := by
  have hx := C.1.1
  have hb := C.1.2.1
  have hi3 : (Ln : Int) ≤ 3072 := by omega
  have hcs : cells ≤ 986 ∧ slots ≤ 148568 := by rcases hli.2.2.2.2.2.2 with ⟨-, h1, h2⟩ | ⟨-, h1, h2⟩ <;> omega
  obtain ⟨hB, hG, hKx, hM, hR, hE, hRo⟩ := id hli
  refine lv_aload_n hx hb dL_law_2104 rfl (lv_at hl 1 rfl) (hp_n (n := 2105) rfl ?_)
  refine l_arg (j := 1) (nj := 1) (q0 := 0) (q3 := 3) (pc' := 2110) C hB hX hbl hbA hl rfl rfl (by decide) hi hi2 hi3 dL_law_2105 dL_law_2106 rfl dL_law_2107 dL_law_2108 dL_law_2109 rfl rfl rfl rfl rfl (fun u1 eu1 => ?_)
  refine q_ci (pc' := 2113) hB (l_runV (As := [.int u1]) (rest := []) C hB (t_X11_sick Γ l α hG x hKx u1) lb_X11_sick lv_X11_sick lk_L_219 hKx (Nat.le_of_ble_eq_true rfl) (Nat.le_of_ble_eq_true rfl) ⟨Nat.le_trans (Nat.add_le_add_right hcs.1 _) (Nat.le_of_ble_eq_true rfl), Nat.le_trans (Nat.add_le_add_right hcs.2 _) (Nat.le_of_ble_eq_true rfl)⟩ rfl hl.1 rfl (Nat.le_of_ble_eq_true rfl) dL_law_2110) (fun _ _ _ => trivial) rfl (fun r1 β H1 L1 p1 B1 => ?_)
  have hli1 := li_cw hli B1 p1 (by decide)
  refine lv_pop hx hb dL_law_2113 rfl (hp_n (n := 2114) rfl ?_)
  obtain ⟨hB, hG, hKx, hM, hR, hE, hRo⟩ := id hli1
  have hcs : cells + 0 ≤ 986 ∧ slots + 0 ≤ 148568 := by rcases hRo with ⟨-, h1, h2⟩ | ⟨-, h1, h2⟩ <;> omega
  refine lv_aload_n hx hb dL_law_2114 rfl (lv_at hl 2 rfl) (hp_n (n := 2115) rfl ?_)
  refine l_arg (j := 1) (nj := 1) (q0 := 0) (q3 := 3) (pc' := 2120) C hB hX hbl hbA hl rfl rfl (by decide) hi hi2 hi3 dL_law_2115 dL_law_2116 rfl dL_law_2117 dL_law_2118 dL_law_2119 rfl rfl rfl rfl rfl (fun w1 ew1 => ?_)
  rw [← eu1] at ew1; have ew1 := ew1.symm; subst ew1
  obtain ⟨⟨r2, τ⟩, hq, hp⟩ := ws_pr (s_sick 70000 (by decide) σ hR u1) (z_X12_sick kq_rf)
  refine q_ci (pc' := 2123) hB (l_runV (As := [.int u1]) (rest := []) C hB (m_X12_sick 70000 Γ l _ y ρ σ hM u1 (r2, τ) hq) lb_X12_sick lv_X12_sick lk_L_222 hM.1 (Nat.le_of_ble_eq_true rfl) (Nat.le_of_ble_eq_true rfl) ⟨Nat.le_trans (Nat.add_le_add_right hcs.1 _) (Nat.le_of_ble_eq_true rfl), Nat.le_trans (Nat.add_le_add_right hcs.2 _) (Nat.le_of_ble_eq_true rfl)⟩ rfl hl.1 rfl (Nat.le_of_ble_eq_true rfl) dL_law_2120) (fun _ _ _ => trivial) rfl (fun r3 γ H2 L2 p2 B2 => ?_)
  have hli2 := li0_mo (li_0 hli1) B2 p2.2.1 p2.2.2 hp.1.1 (lx_kq hli1.2.2.2.2.2.1 p2.2.1 hp.2 hp.1.2 hp.1.1)
  refine lv_pop hx hb dL_law_2123 rfl (hp_n (n := 2124) rfl ?_)
  refine lv_goto (tgt := 2391) hx hb dL_law_2124 (by decide) ?_
  exact kk _ _ _ _ _ _ hli2
set_option maxRecDepth 100000 in
set_option maxHeartbeats 4000000 in
theorem lc_51 {p : Program} {l : Launch} {e : Env} {s : State} {m : MethodId} {below : List Frame} {meth : Method} {c : Code} {Γ : hp_G} {b Ln x y : Nat} {xs : Nat → Int32} {ρ : Nat → Nat} (C : hp_C Γ p m c cL_law 4 s #[Value.ref b] RL) (hX : va_X b Ln xs s s.heap) (hbl : b < s.heap.size) (hbA : ¬ hp_A Γ b) (hLn : Ln ≤ 3072) {α : hp_T} {σ : ms_T} {H : Heap} {L : List Loc} {cells slots : Nat} (hli : li Γ s x y ρ α σ H L cells slots) (i : Int32) (hi : 0 ≤ i.toInt) (hi2 : i.toInt + 6 ≤ (Ln : Int)) (ls : Array Slot) (hl : lv_has ls 4 [(0, .ref b), (1, .ref x), (2, .ref y), (3, .int i)]) (kk : ∀ (α : hp_T) (σ : ms_T) (H : Heap) (L : List Loc) (cells slots : Nat), li Γ s x y ρ α σ H L cells slots → W p l e room_1 s m #[Value.ref b] below meth c H L cells slots (lw_Z below #[Value.ref b] s) (F0 m 2391 ls [])) : W p l e room_1 s m #[Value.ref b] below meth c H L cells slots (lw_Z below #[Value.ref b] s) (F0 m 2127 ls []) := by
  have hx := C.1.1
  have hb := C.1.2.1
  have hi3 : (Ln : Int) ≤ 3072 := by omega
  have hcs : cells ≤ 986 ∧ slots ≤ 148568 := by rcases hli.2.2.2.2.2.2 with ⟨-, h1, h2⟩ | ⟨-, h1, h2⟩ <;> omega
  obtain ⟨hB, hG, hKx, hM, hR, hE, hRo⟩ := id hli
  refine lv_aload_n hx hb dL_law_2127 rfl (lv_at hl 1 rfl) (hp_n (n := 2128) rfl ?_)
  refine l_arg (j := 1) (nj := 1) (q0 := 0) (q3 := 3) (pc' := 2133) C hB hX hbl hbA hl rfl rfl (by decide) hi hi2 hi3 dL_law_2128 dL_law_2129 rfl dL_law_2130 dL_law_2131 dL_law_2132 rfl rfl rfl rfl rfl (fun u1 eu1 => ?_)
  refine l_arg (j := 2) (nj := 2) (q0 := 0) (q3 := 3) (pc' := 2138) C hB hX hbl hbA hl rfl rfl (by decide) hi hi2 hi3 dL_law_2133 dL_law_2134 rfl dL_law_2135 dL_law_2136 dL_law_2137 rfl rfl rfl rfl rfl (fun u2 eu2 => ?_)
  refine q_ci (pc' := 2141) hB (l_runV (As := [.int u1, .int u2]) (rest := []) C hB (t_X11_chain Γ l α hG x hKx u1 u2) lb_X11_chain lv_X11_chain lk_L_223 hKx (Nat.le_of_ble_eq_true rfl) (Nat.le_of_ble_eq_true rfl) ⟨Nat.le_trans (Nat.add_le_add_right hcs.1 _) (Nat.le_of_ble_eq_true rfl), Nat.le_trans (Nat.add_le_add_right hcs.2 _) (Nat.le_of_ble_eq_true rfl)⟩ rfl hl.1 rfl (Nat.le_of_ble_eq_true rfl) dL_law_2138) (fun _ _ _ => trivial) rfl (fun r1 β H1 L1 p1 B1 => ?_)
  have hli1 := li_cw hli B1 p1 (by decide)
  refine lv_pop hx hb dL_law_2141 rfl (hp_n (n := 2142) rfl ?_)
  obtain ⟨hB, hG, hKx, hM, hR, hE, hRo⟩ := id hli1
  have hcs : cells + 0 ≤ 986 ∧ slots + 0 ≤ 148568 := by rcases hRo with ⟨-, h1, h2⟩ | ⟨-, h1, h2⟩ <;> omega
  refine lv_aload_n hx hb dL_law_2142 rfl (lv_at hl 2 rfl) (hp_n (n := 2143) rfl ?_)
  refine l_arg (j := 1) (nj := 1) (q0 := 0) (q3 := 3) (pc' := 2148) C hB hX hbl hbA hl rfl rfl (by decide) hi hi2 hi3 dL_law_2143 dL_law_2144 rfl dL_law_2145 dL_law_2146 dL_law_2147 rfl rfl rfl rfl rfl (fun w1 ew1 => ?_)
  refine l_arg (j := 2) (nj := 2) (q0 := 0) (q3 := 3) (pc' := 2153) C hB hX hbl hbA hl rfl rfl (by decide) hi hi2 hi3 dL_law_2148 dL_law_2149 rfl dL_law_2150 dL_law_2151 dL_law_2152 rfl rfl rfl rfl rfl (fun w2 ew2 => ?_)
  rw [← eu1] at ew1; have ew1 := ew1.symm; subst ew1
  rw [← eu2] at ew2; have ew2 := ew2.symm; subst ew2
  obtain ⟨⟨r2, τ⟩, hq, hp⟩ := ws_pr (s_chain 70000 (by decide) σ hR u1 u2) (z_X12_chain kq_rf)
  refine q_ci (pc' := 2156) hB (l_runV (As := [.int u1, .int u2]) (rest := []) C hB (m_X12_chain 70000 Γ l _ y ρ σ hM u1 u2 (r2, τ) hq) lb_X12_chain lv_X12_chain lk_L_226 hM.1 (Nat.le_of_ble_eq_true rfl) (Nat.le_of_ble_eq_true rfl) ⟨Nat.le_trans (Nat.add_le_add_right hcs.1 _) (Nat.le_of_ble_eq_true rfl), Nat.le_trans (Nat.add_le_add_right hcs.2 _) (Nat.le_of_ble_eq_true rfl)⟩ rfl hl.1 rfl (Nat.le_of_ble_eq_true rfl) dL_law_2153) (fun _ _ _ => trivial) rfl (fun r3 γ H2 L2 p2 B2 => ?_)
  have hli2 := li0_mo (li_0 hli1) B2 p2.2.1 p2.2.2 hp.1.1 (lx_kq hli1.2.2.2.2.2.1 p2.2.1 hp.2 hp.1.2 hp.1.1)
  refine lv_pop hx hb dL_law_2156 rfl (hp_n (n := 2157) rfl ?_)
  refine lv_goto (tgt := 2391) hx hb dL_law_2157 (by decide) ?_
  exact kk _ _ _ _ _ _ hli2
set_option maxRecDepth 100000 in
set_option maxHeartbeats 4000000 in
theorem lc_52 {p : Program} {l : Launch} {e : Env} {s : State} {m : MethodId} {below : List Frame} {meth : Method} {c : Code} {Γ : hp_G} {b Ln x y : Nat} {xs : Nat → Int32} {ρ : Nat → Nat} (C : hp_C Γ p m c cL_law 4 s #[Value.ref b] RL) (hX : va_X b Ln xs s s.heap) (hbl : b < s.heap.size) (hbA : ¬ hp_A Γ b) (hLn : Ln ≤ 3072) {α : hp_T} {σ : ms_T} {H : Heap} {L : List Loc} {cells slots : Nat} (hli : li Γ s x y ρ α σ H L cells slots) (i : Int32) (hi : 0 ≤ i.toInt) (hi2 : i.toInt + 6 ≤ (Ln : Int)) (ls : Array Slot) (hl : lv_has ls 4 [(0, .ref b), (1, .ref x), (2, .ref y), (3, .int i)]) (kk : ∀ (α : hp_T) (σ : ms_T) (H : Heap) (L : List Loc) (cells slots : Nat), li Γ s x y ρ α σ H L cells slots → W p l e room_1 s m #[Value.ref b] below meth c H L cells slots (lw_Z below #[Value.ref b] s) (F0 m 2391 ls [])) : W p l e room_1 s m #[Value.ref b] below meth c H L cells slots (lw_Z below #[Value.ref b] s) (F0 m 2160 ls []) := by
  have hx := C.1.1
  have hb := C.1.2.1
  have hi3 : (Ln : Int) ≤ 3072 := by omega
  have hcs : cells ≤ 986 ∧ slots ≤ 148568 := by rcases hli.2.2.2.2.2.2 with ⟨-, h1, h2⟩ | ⟨-, h1, h2⟩ <;> omega
  obtain ⟨hB, hG, hKx, hM, hR, hE, hRo⟩ := id hli
  refine lv_aload_n hx hb dL_law_2160 rfl (lv_at hl 1 rfl) (hp_n (n := 2161) rfl ?_)
  refine l_arg (j := 1) (nj := 1) (q0 := 0) (q3 := 3) (pc' := 2166) C hB hX hbl hbA hl rfl rfl (by decide) hi hi2 hi3 dL_law_2161 dL_law_2162 rfl dL_law_2163 dL_law_2164 dL_law_2165 rfl rfl rfl rfl rfl (fun u1 eu1 => ?_)
  refine q_ci (pc' := 2169) hB (l_runV (As := [.int u1]) (rest := []) C hB (t_X11_split Γ l α hG x hKx u1) lb_X11_split lv_X11_split lk_L_227 hKx (Nat.le_of_ble_eq_true rfl) (Nat.le_of_ble_eq_true rfl) ⟨Nat.le_trans (Nat.add_le_add_right hcs.1 _) (Nat.le_of_ble_eq_true rfl), Nat.le_trans (Nat.add_le_add_right hcs.2 _) (Nat.le_of_ble_eq_true rfl)⟩ rfl hl.1 rfl (Nat.le_of_ble_eq_true rfl) dL_law_2166) (fun _ _ _ => trivial) rfl (fun r1 β H1 L1 p1 B1 => ?_)
  have hli1 := li_cw hli B1 p1 (by decide)
  refine lv_pop hx hb dL_law_2169 rfl (hp_n (n := 2170) rfl ?_)
  obtain ⟨hB, hG, hKx, hM, hR, hE, hRo⟩ := id hli1
  have hcs : cells + 0 ≤ 986 ∧ slots + 0 ≤ 148568 := by rcases hRo with ⟨-, h1, h2⟩ | ⟨-, h1, h2⟩ <;> omega
  refine lv_aload_n hx hb dL_law_2170 rfl (lv_at hl 2 rfl) (hp_n (n := 2171) rfl ?_)
  refine l_arg (j := 1) (nj := 1) (q0 := 0) (q3 := 3) (pc' := 2176) C hB hX hbl hbA hl rfl rfl (by decide) hi hi2 hi3 dL_law_2171 dL_law_2172 rfl dL_law_2173 dL_law_2174 dL_law_2175 rfl rfl rfl rfl rfl (fun w1 ew1 => ?_)
  rw [← eu1] at ew1; have ew1 := ew1.symm; subst ew1
  obtain ⟨⟨r2, τ⟩, hq, hp⟩ := ws_pr (s_split 70000 (by decide) σ hR u1) (z_X12_split kq_rf)
  refine q_ci (pc' := 2179) hB (l_runV (As := [.int u1]) (rest := []) C hB (m_X12_split 70000 Γ l _ y ρ σ hM u1 (r2, τ) hq) lb_X12_split lv_X12_split lk_L_230 hM.1 (Nat.le_of_ble_eq_true rfl) (Nat.le_of_ble_eq_true rfl) ⟨Nat.le_trans (Nat.add_le_add_right hcs.1 _) (Nat.le_of_ble_eq_true rfl), Nat.le_trans (Nat.add_le_add_right hcs.2 _) (Nat.le_of_ble_eq_true rfl)⟩ rfl hl.1 rfl (Nat.le_of_ble_eq_true rfl) dL_law_2176) (fun _ _ _ => trivial) rfl (fun r3 γ H2 L2 p2 B2 => ?_)
  have hli2 := li0_mo (li_0 hli1) B2 p2.2.1 p2.2.2 hp.1.1 (lx_kq hli1.2.2.2.2.2.1 p2.2.1 hp.2 hp.1.2 hp.1.1)
  refine lv_pop hx hb dL_law_2179 rfl (hp_n (n := 2180) rfl ?_)
  refine lv_goto (tgt := 2391) hx hb dL_law_2180 (by decide) ?_
  exact kk _ _ _ _ _ _ hli2
set_option maxRecDepth 100000 in
set_option maxHeartbeats 4000000 in
theorem lc_53 {p : Program} {l : Launch} {e : Env} {s : State} {m : MethodId} {below : List Frame} {meth : Method} {c : Code} {Γ : hp_G} {b Ln x y : Nat} {xs : Nat → Int32} {ρ : Nat → Nat} (C : hp_C Γ p m c cL_law 4 s #[Value.ref b] RL) (hX : va_X b Ln xs s s.heap) (hbl : b < s.heap.size) (hbA : ¬ hp_A Γ b) (hLn : Ln ≤ 3072) {α : hp_T} {σ : ms_T} {H : Heap} {L : List Loc} {cells slots : Nat} (hli : li Γ s x y ρ α σ H L cells slots) (i : Int32) (hi : 0 ≤ i.toInt) (hi2 : i.toInt + 6 ≤ (Ln : Int)) (ls : Array Slot) (hl : lv_has ls 4 [(0, .ref b), (1, .ref x), (2, .ref y), (3, .int i)]) (kk : ∀ (α : hp_T) (σ : ms_T) (H : Heap) (L : List Loc) (cells slots : Nat), li Γ s x y ρ α σ H L cells slots → W p l e room_1 s m #[Value.ref b] below meth c H L cells slots (lw_Z below #[Value.ref b] s) (F0 m 2391 ls [])) : W p l e room_1 s m #[Value.ref b] below meth c H L cells slots (lw_Z below #[Value.ref b] s) (F0 m 2183 ls []) := by
  have hx := C.1.1
  have hb := C.1.2.1
  have hi3 : (Ln : Int) ≤ 3072 := by omega
  have hcs : cells ≤ 986 ∧ slots ≤ 148568 := by rcases hli.2.2.2.2.2.2 with ⟨-, h1, h2⟩ | ⟨-, h1, h2⟩ <;> omega
  obtain ⟨hB, hG, hKx, hM, hR, hE, hRo⟩ := id hli
  refine lv_aload_n hx hb dL_law_2183 rfl (lv_at hl 1 rfl) (hp_n (n := 2184) rfl ?_)
  refine l_arg (j := 1) (nj := 1) (q0 := 0) (q3 := 3) (pc' := 2189) C hB hX hbl hbA hl rfl rfl (by decide) hi hi2 hi3 dL_law_2184 dL_law_2185 rfl dL_law_2186 dL_law_2187 dL_law_2188 rfl rfl rfl rfl rfl (fun u1 eu1 => ?_)
  refine l_arg (j := 2) (nj := 2) (q0 := 0) (q3 := 3) (pc' := 2194) C hB hX hbl hbA hl rfl rfl (by decide) hi hi2 hi3 dL_law_2189 dL_law_2190 rfl dL_law_2191 dL_law_2192 dL_law_2193 rfl rfl rfl rfl rfl (fun u2 eu2 => ?_)
  refine l_arg (j := 3) (nj := 3) (q0 := 0) (q3 := 3) (pc' := 2199) C hB hX hbl hbA hl rfl rfl (by decide) hi hi2 hi3 dL_law_2194 dL_law_2195 rfl dL_law_2196 dL_law_2197 dL_law_2198 rfl rfl rfl rfl rfl (fun u3 eu3 => ?_)
  refine q_ci (pc' := 2202) hB (l_runV (As := [.int u1, .int u2, .int u3]) (rest := []) C hB (t_X11_tell Γ l α hG x hKx u1 u2 u3) lb_X11_tell lv_X11_tell lk_L_231 hKx (Nat.le_of_ble_eq_true rfl) (Nat.le_of_ble_eq_true rfl) ⟨Nat.le_trans (Nat.add_le_add_right hcs.1 _) (Nat.le_of_ble_eq_true rfl), Nat.le_trans (Nat.add_le_add_right hcs.2 _) (Nat.le_of_ble_eq_true rfl)⟩ rfl hl.1 rfl (Nat.le_of_ble_eq_true rfl) dL_law_2199) (fun _ _ _ => trivial) rfl (fun r1 β H1 L1 p1 B1 => ?_)
  have hli1 := li_cw hli B1 p1 (by decide)
  refine lv_pop hx hb dL_law_2202 rfl (hp_n (n := 2203) rfl ?_)
  obtain ⟨hB, hG, hKx, hM, hR, hE, hRo⟩ := id hli1
  have hcs : cells + 0 ≤ 986 ∧ slots + 0 ≤ 148568 := by rcases hRo with ⟨-, h1, h2⟩ | ⟨-, h1, h2⟩ <;> omega
  refine lv_aload_n hx hb dL_law_2203 rfl (lv_at hl 2 rfl) (hp_n (n := 2204) rfl ?_)
  refine l_arg (j := 1) (nj := 1) (q0 := 0) (q3 := 3) (pc' := 2209) C hB hX hbl hbA hl rfl rfl (by decide) hi hi2 hi3 dL_law_2204 dL_law_2205 rfl dL_law_2206 dL_law_2207 dL_law_2208 rfl rfl rfl rfl rfl (fun w1 ew1 => ?_)
  refine l_arg (j := 2) (nj := 2) (q0 := 0) (q3 := 3) (pc' := 2214) C hB hX hbl hbA hl rfl rfl (by decide) hi hi2 hi3 dL_law_2209 dL_law_2210 rfl dL_law_2211 dL_law_2212 dL_law_2213 rfl rfl rfl rfl rfl (fun w2 ew2 => ?_)
  refine l_arg (j := 3) (nj := 3) (q0 := 0) (q3 := 3) (pc' := 2219) C hB hX hbl hbA hl rfl rfl (by decide) hi hi2 hi3 dL_law_2214 dL_law_2215 rfl dL_law_2216 dL_law_2217 dL_law_2218 rfl rfl rfl rfl rfl (fun w3 ew3 => ?_)
  rw [← eu1] at ew1; have ew1 := ew1.symm; subst ew1
  rw [← eu2] at ew2; have ew2 := ew2.symm; subst ew2
  rw [← eu3] at ew3; have ew3 := ew3.symm; subst ew3
  obtain ⟨⟨r2, τ⟩, hq, hp⟩ := ws_pr (s_tell 70000 (by decide) σ hR u1 u2 u3) (z_X12_tell kq_rf)
  refine q_ci (pc' := 2222) hB (l_runV (As := [.int u1, .int u2, .int u3]) (rest := []) C hB (m_X12_tell 70000 Γ l _ y ρ σ hM u1 u2 u3 (r2, τ) hq) lb_X12_tell lv_X12_tell lk_L_234 hM.1 (Nat.le_of_ble_eq_true rfl) (Nat.le_of_ble_eq_true rfl) ⟨Nat.le_trans (Nat.add_le_add_right hcs.1 _) (Nat.le_of_ble_eq_true rfl), Nat.le_trans (Nat.add_le_add_right hcs.2 _) (Nat.le_of_ble_eq_true rfl)⟩ rfl hl.1 rfl (Nat.le_of_ble_eq_true rfl) dL_law_2219) (fun _ _ _ => trivial) rfl (fun r3 γ H2 L2 p2 B2 => ?_)
  have hli2 := li0_mo (li_0 hli1) B2 p2.2.1 p2.2.2 hp.1.1 (lx_kq hli1.2.2.2.2.2.1 p2.2.1 hp.2 hp.1.2 hp.1.1)
  refine lv_pop hx hb dL_law_2222 rfl (hp_n (n := 2223) rfl ?_)
  refine lv_goto (tgt := 2391) hx hb dL_law_2223 (by decide) ?_
  exact kk _ _ _ _ _ _ hli2
set_option maxRecDepth 100000 in
set_option maxHeartbeats 4000000 in
theorem lc_54 {p : Program} {l : Launch} {e : Env} {s : State} {m : MethodId} {below : List Frame} {meth : Method} {c : Code} {Γ : hp_G} {b Ln x y : Nat} {xs : Nat → Int32} {ρ : Nat → Nat} (C : hp_C Γ p m c cL_law 4 s #[Value.ref b] RL) (hX : va_X b Ln xs s s.heap) (hbl : b < s.heap.size) (hbA : ¬ hp_A Γ b) (hLn : Ln ≤ 3072) {α : hp_T} {σ : ms_T} {H : Heap} {L : List Loc} {cells slots : Nat} (hli : li Γ s x y ρ α σ H L cells slots) (i : Int32) (hi : 0 ≤ i.toInt) (hi2 : i.toInt + 6 ≤ (Ln : Int)) (ls : Array Slot) (hl : lv_has ls 4 [(0, .ref b), (1, .ref x), (2, .ref y), (3, .int i)]) (kk : ∀ (α : hp_T) (σ : ms_T) (H : Heap) (L : List Loc) (cells slots : Nat), li Γ s x y ρ α σ H L cells slots → W p l e room_1 s m #[Value.ref b] below meth c H L cells slots (lw_Z below #[Value.ref b] s) (F0 m 2391 ls [])) : W p l e room_1 s m #[Value.ref b] below meth c H L cells slots (lw_Z below #[Value.ref b] s) (F0 m 2226 ls []) := by
  have hx := C.1.1
  have hb := C.1.2.1
  have hi3 : (Ln : Int) ≤ 3072 := by omega
  have hcs : cells ≤ 986 ∧ slots ≤ 148568 := by rcases hli.2.2.2.2.2.2 with ⟨-, h1, h2⟩ | ⟨-, h1, h2⟩ <;> omega
  obtain ⟨hB, hG, hKx, hM, hR, hE, hRo⟩ := id hli
  refine lv_aload_n hx hb dL_law_2226 rfl (lv_at hl 1 rfl) (hp_n (n := 2227) rfl ?_)
  refine l_arg (j := 1) (nj := 1) (q0 := 0) (q3 := 3) (pc' := 2232) C hB hX hbl hbA hl rfl rfl (by decide) hi hi2 hi3 dL_law_2227 dL_law_2228 rfl dL_law_2229 dL_law_2230 dL_law_2231 rfl rfl rfl rfl rfl (fun u1 eu1 => ?_)
  refine l_arg (j := 2) (nj := 2) (q0 := 0) (q3 := 3) (pc' := 2237) C hB hX hbl hbA hl rfl rfl (by decide) hi hi2 hi3 dL_law_2232 dL_law_2233 rfl dL_law_2234 dL_law_2235 dL_law_2236 rfl rfl rfl rfl rfl (fun u2 eu2 => ?_)
  refine l_arg (j := 3) (nj := 3) (q0 := 0) (q3 := 3) (pc' := 2242) C hB hX hbl hbA hl rfl rfl (by decide) hi hi2 hi3 dL_law_2237 dL_law_2238 rfl dL_law_2239 dL_law_2240 dL_law_2241 rfl rfl rfl rfl rfl (fun u3 eu3 => ?_)
  refine q_ci (pc' := 2245) hB (l_runV (As := [.int u1, .int u2, .int u3]) (rest := []) C hB (t_X11_tellGrowth Γ l α hG x hKx u1 u2 u3) lb_X11_tellGrowth lv_X11_tellGrowth lk_L_235 hKx (Nat.le_of_ble_eq_true rfl) (Nat.le_of_ble_eq_true rfl) ⟨Nat.le_trans (Nat.add_le_add_right hcs.1 _) (Nat.le_of_ble_eq_true rfl), Nat.le_trans (Nat.add_le_add_right hcs.2 _) (Nat.le_of_ble_eq_true rfl)⟩ rfl hl.1 rfl (Nat.le_of_ble_eq_true rfl) dL_law_2242) (fun _ _ _ => trivial) rfl (fun r1 β H1 L1 p1 B1 => ?_)
  have hli1 := li_cw hli B1 p1 (by decide)
  refine lv_pop hx hb dL_law_2245 rfl (hp_n (n := 2246) rfl ?_)
  obtain ⟨hB, hG, hKx, hM, hR, hE, hRo⟩ := id hli1
  have hcs : cells + 0 ≤ 986 ∧ slots + 0 ≤ 148568 := by rcases hRo with ⟨-, h1, h2⟩ | ⟨-, h1, h2⟩ <;> omega
  refine lv_aload_n hx hb dL_law_2246 rfl (lv_at hl 2 rfl) (hp_n (n := 2247) rfl ?_)
  refine l_arg (j := 1) (nj := 1) (q0 := 0) (q3 := 3) (pc' := 2252) C hB hX hbl hbA hl rfl rfl (by decide) hi hi2 hi3 dL_law_2247 dL_law_2248 rfl dL_law_2249 dL_law_2250 dL_law_2251 rfl rfl rfl rfl rfl (fun w1 ew1 => ?_)
  refine l_arg (j := 2) (nj := 2) (q0 := 0) (q3 := 3) (pc' := 2257) C hB hX hbl hbA hl rfl rfl (by decide) hi hi2 hi3 dL_law_2252 dL_law_2253 rfl dL_law_2254 dL_law_2255 dL_law_2256 rfl rfl rfl rfl rfl (fun w2 ew2 => ?_)
  refine l_arg (j := 3) (nj := 3) (q0 := 0) (q3 := 3) (pc' := 2262) C hB hX hbl hbA hl rfl rfl (by decide) hi hi2 hi3 dL_law_2257 dL_law_2258 rfl dL_law_2259 dL_law_2260 dL_law_2261 rfl rfl rfl rfl rfl (fun w3 ew3 => ?_)
  rw [← eu1] at ew1; have ew1 := ew1.symm; subst ew1
  rw [← eu2] at ew2; have ew2 := ew2.symm; subst ew2
  rw [← eu3] at ew3; have ew3 := ew3.symm; subst ew3
  obtain ⟨⟨r2, τ⟩, hq, hp⟩ := ws_pr (s_tellGrowth 70000 (by decide) σ hR u1 u2 u3) (z_X12_tellGrowth kq_rf)
  refine q_ci (pc' := 2265) hB (l_runV (As := [.int u1, .int u2, .int u3]) (rest := []) C hB (m_X12_tellGrowth 70000 Γ l _ y ρ σ hM u1 u2 u3 (r2, τ) hq) lb_X12_tellGrowth lv_X12_tellGrowth lk_L_238 hM.1 (Nat.le_of_ble_eq_true rfl) (Nat.le_of_ble_eq_true rfl) ⟨Nat.le_trans (Nat.add_le_add_right hcs.1 _) (Nat.le_of_ble_eq_true rfl), Nat.le_trans (Nat.add_le_add_right hcs.2 _) (Nat.le_of_ble_eq_true rfl)⟩ rfl hl.1 rfl (Nat.le_of_ble_eq_true rfl) dL_law_2262) (fun _ _ _ => trivial) rfl (fun r3 γ H2 L2 p2 B2 => ?_)
  have hli2 := li0_mo (li_0 hli1) B2 p2.2.1 p2.2.2 hp.1.1 (lx_kq hli1.2.2.2.2.2.1 p2.2.1 hp.2 hp.1.2 hp.1.1)
  refine lv_pop hx hb dL_law_2265 rfl (hp_n (n := 2266) rfl ?_)
  refine lv_goto (tgt := 2391) hx hb dL_law_2266 (by decide) ?_
  exact kk _ _ _ _ _ _ hli2
set_option maxRecDepth 100000 in
set_option maxHeartbeats 4000000 in
theorem lc_55 {p : Program} {l : Launch} {e : Env} {s : State} {m : MethodId} {below : List Frame} {meth : Method} {c : Code} {Γ : hp_G} {b Ln x y : Nat} {xs : Nat → Int32} {ρ : Nat → Nat} (C : hp_C Γ p m c cL_law 4 s #[Value.ref b] RL) (hX : va_X b Ln xs s s.heap) (hbl : b < s.heap.size) (hbA : ¬ hp_A Γ b) (hLn : Ln ≤ 3072) {α : hp_T} {σ : ms_T} {H : Heap} {L : List Loc} {cells slots : Nat} (hli : li Γ s x y ρ α σ H L cells slots) (i : Int32) (hi : 0 ≤ i.toInt) (hi2 : i.toInt + 6 ≤ (Ln : Int)) (ls : Array Slot) (hl : lv_has ls 4 [(0, .ref b), (1, .ref x), (2, .ref y), (3, .int i)]) (kk : ∀ (α : hp_T) (σ : ms_T) (H : Heap) (L : List Loc) (cells slots : Nat), li Γ s x y ρ α σ H L cells slots → W p l e room_1 s m #[Value.ref b] below meth c H L cells slots (lw_Z below #[Value.ref b] s) (F0 m 2391 ls [])) : W p l e room_1 s m #[Value.ref b] below meth c H L cells slots (lw_Z below #[Value.ref b] s) (F0 m 2269 ls []) := by
  have hx := C.1.1
  have hb := C.1.2.1
  have hi3 : (Ln : Int) ≤ 3072 := by omega
  have hcs : cells ≤ 986 ∧ slots ≤ 148568 := by rcases hli.2.2.2.2.2.2 with ⟨-, h1, h2⟩ | ⟨-, h1, h2⟩ <;> omega
  obtain ⟨hB, hG, hKx, hM, hR, hE, hRo⟩ := id hli
  refine lv_aload_n hx hb dL_law_2269 rfl (lv_at hl 1 rfl) (hp_n (n := 2270) rfl ?_)
  refine l_arg (j := 1) (nj := 1) (q0 := 0) (q3 := 3) (pc' := 2275) C hB hX hbl hbA hl rfl rfl (by decide) hi hi2 hi3 dL_law_2270 dL_law_2271 rfl dL_law_2272 dL_law_2273 dL_law_2274 rfl rfl rfl rfl rfl (fun u1 eu1 => ?_)
  refine q_ci (pc' := 2278) hB (l_runV (As := [.int u1]) (rest := []) C hB (t_X11_out Γ l α hG x hKx u1) lb_X11_out lv_X11_out lk_L_239 hKx (Nat.le_of_ble_eq_true rfl) (Nat.le_of_ble_eq_true rfl) ⟨Nat.le_trans (Nat.add_le_add_right hcs.1 _) (Nat.le_of_ble_eq_true rfl), Nat.le_trans (Nat.add_le_add_right hcs.2 _) (Nat.le_of_ble_eq_true rfl)⟩ rfl hl.1 rfl (Nat.le_of_ble_eq_true rfl) dL_law_2275) (fun _ _ _ => trivial) rfl (fun r1 β H1 L1 p1 B1 => ?_)
  have hli1 := li_cw hli B1 p1 (by decide)
  refine lv_pop hx hb dL_law_2278 rfl (hp_n (n := 2279) rfl ?_)
  obtain ⟨hB, hG, hKx, hM, hR, hE, hRo⟩ := id hli1
  have hcs : cells + 0 ≤ 986 ∧ slots + 0 ≤ 148568 := by rcases hRo with ⟨-, h1, h2⟩ | ⟨-, h1, h2⟩ <;> omega
  refine lv_aload_n hx hb dL_law_2279 rfl (lv_at hl 2 rfl) (hp_n (n := 2280) rfl ?_)
  refine l_arg (j := 1) (nj := 1) (q0 := 0) (q3 := 3) (pc' := 2285) C hB hX hbl hbA hl rfl rfl (by decide) hi hi2 hi3 dL_law_2280 dL_law_2281 rfl dL_law_2282 dL_law_2283 dL_law_2284 rfl rfl rfl rfl rfl (fun w1 ew1 => ?_)
  rw [← eu1] at ew1; have ew1 := ew1.symm; subst ew1
  obtain ⟨⟨r2, τ⟩, hq, hp⟩ := ws_pr (s_out 70000 (by decide) σ hR u1) (z_X12_out kq_rf)
  refine q_ci (pc' := 2288) hB (l_runV (As := [.int u1]) (rest := []) C hB (m_X12_out 70000 Γ l _ y ρ σ hM u1 (r2, τ) hq) lb_X12_out lv_X12_out lk_L_242 hM.1 (Nat.le_of_ble_eq_true rfl) (Nat.le_of_ble_eq_true rfl) ⟨Nat.le_trans (Nat.add_le_add_right hcs.1 _) (Nat.le_of_ble_eq_true rfl), Nat.le_trans (Nat.add_le_add_right hcs.2 _) (Nat.le_of_ble_eq_true rfl)⟩ rfl hl.1 rfl (Nat.le_of_ble_eq_true rfl) dL_law_2285) (fun _ _ _ => trivial) rfl (fun r3 γ H2 L2 p2 B2 => ?_)
  have hli2 := li0_mo (li_0 hli1) B2 p2.2.1 p2.2.2 hp.1.1 (lx_kq hli1.2.2.2.2.2.1 p2.2.1 hp.2 hp.1.2 hp.1.1)
  refine lv_pop hx hb dL_law_2288 rfl (hp_n (n := 2289) rfl ?_)
  refine lv_goto (tgt := 2391) hx hb dL_law_2289 (by decide) ?_
  exact kk _ _ _ _ _ _ hli2
set_option maxRecDepth 100000 in
set_option maxHeartbeats 4000000 in
theorem lc_56 {p : Program} {l : Launch} {e : Env} {s : State} {m : MethodId} {below : List Frame} {meth : Method} {c : Code} {Γ : hp_G} {b Ln x y : Nat} {xs : Nat → Int32} {ρ : Nat → Nat} (C : hp_C Γ p m c cL_law 4 s #[Value.ref b] RL) (hX : va_X b Ln xs s s.heap) (hbl : b < s.heap.size) (hbA : ¬ hp_A Γ b) (hLn : Ln ≤ 3072) {α : hp_T} {σ : ms_T} {H : Heap} {L : List Loc} {cells slots : Nat} (hli : li Γ s x y ρ α σ H L cells slots) (i : Int32) (hi : 0 ≤ i.toInt) (hi2 : i.toInt + 6 ≤ (Ln : Int)) (ls : Array Slot) (hl : lv_has ls 4 [(0, .ref b), (1, .ref x), (2, .ref y), (3, .int i)]) (kk : ∀ (α : hp_T) (σ : ms_T) (H : Heap) (L : List Loc) (cells slots : Nat), li Γ s x y ρ α σ H L cells slots → W p l e room_1 s m #[Value.ref b] below meth c H L cells slots (lw_Z below #[Value.ref b] s) (F0 m 2391 ls [])) : W p l e room_1 s m #[Value.ref b] below meth c H L cells slots (lw_Z below #[Value.ref b] s) (F0 m 2292 ls []) := by
  have hx := C.1.1
  have hb := C.1.2.1
  have hi3 : (Ln : Int) ≤ 3072 := by omega
  have hcs : cells ≤ 986 ∧ slots ≤ 148568 := by rcases hli.2.2.2.2.2.2 with ⟨-, h1, h2⟩ | ⟨-, h1, h2⟩ <;> omega
  obtain ⟨hB, hG, hKx, hM, hR, hE, hRo⟩ := id hli
  refine lv_aload_n hx hb dL_law_2292 rfl (lv_at hl 1 rfl) (hp_n (n := 2293) rfl ?_)
  refine l_arg (j := 1) (nj := 1) (q0 := 0) (q3 := 3) (pc' := 2298) C hB hX hbl hbA hl rfl rfl (by decide) hi hi2 hi3 dL_law_2293 dL_law_2294 rfl dL_law_2295 dL_law_2296 dL_law_2297 rfl rfl rfl rfl rfl (fun u1 eu1 => ?_)
  refine l_arg (j := 2) (nj := 2) (q0 := 0) (q3 := 3) (pc' := 2303) C hB hX hbl hbA hl rfl rfl (by decide) hi hi2 hi3 dL_law_2298 dL_law_2299 rfl dL_law_2300 dL_law_2301 dL_law_2302 rfl rfl rfl rfl rfl (fun u2 eu2 => ?_)
  refine q_ci (pc' := 2306) hB (l_runV (As := [.int u1, .int u2]) (rest := []) C hB (t_X11_trusted Γ l α hG x hKx u1 u2) lb_X11_trusted lv_X11_trusted lk_L_243 hKx (Nat.le_of_ble_eq_true rfl) (Nat.le_of_ble_eq_true rfl) ⟨Nat.le_trans (Nat.add_le_add_right hcs.1 _) (Nat.le_of_ble_eq_true rfl), Nat.le_trans (Nat.add_le_add_right hcs.2 _) (Nat.le_of_ble_eq_true rfl)⟩ rfl hl.1 rfl (Nat.le_of_ble_eq_true rfl) dL_law_2303) (fun _ _ _ => trivial) rfl (fun r1 β H1 L1 p1 B1 => ?_)
  have hli1 := li_cw hli B1 p1 (by decide)
  refine lv_pop hx hb dL_law_2306 rfl (hp_n (n := 2307) rfl ?_)
  obtain ⟨hB, hG, hKx, hM, hR, hE, hRo⟩ := id hli1
  have hcs : cells + 0 ≤ 986 ∧ slots + 0 ≤ 148568 := by rcases hRo with ⟨-, h1, h2⟩ | ⟨-, h1, h2⟩ <;> omega
  refine lv_aload_n hx hb dL_law_2307 rfl (lv_at hl 2 rfl) (hp_n (n := 2308) rfl ?_)
  refine l_arg (j := 1) (nj := 1) (q0 := 0) (q3 := 3) (pc' := 2313) C hB hX hbl hbA hl rfl rfl (by decide) hi hi2 hi3 dL_law_2308 dL_law_2309 rfl dL_law_2310 dL_law_2311 dL_law_2312 rfl rfl rfl rfl rfl (fun w1 ew1 => ?_)
  refine l_arg (j := 2) (nj := 2) (q0 := 0) (q3 := 3) (pc' := 2318) C hB hX hbl hbA hl rfl rfl (by decide) hi hi2 hi3 dL_law_2313 dL_law_2314 rfl dL_law_2315 dL_law_2316 dL_law_2317 rfl rfl rfl rfl rfl (fun w2 ew2 => ?_)
  rw [← eu1] at ew1; have ew1 := ew1.symm; subst ew1
  rw [← eu2] at ew2; have ew2 := ew2.symm; subst ew2
  obtain ⟨⟨r2, τ⟩, hq, hp⟩ := ws_pr (s_trusted 70000 (by decide) σ hR u1 u2) (z_X12_trusted kq_rf)
  refine q_ci (pc' := 2321) hB (l_runV (As := [.int u1, .int u2]) (rest := []) C hB (m_X12_trusted 70000 Γ l _ y ρ σ hM u1 u2 (r2, τ) hq) lb_X12_trusted lv_X12_trusted lk_L_246 hM.1 (Nat.le_of_ble_eq_true rfl) (Nat.le_of_ble_eq_true rfl) ⟨Nat.le_trans (Nat.add_le_add_right hcs.1 _) (Nat.le_of_ble_eq_true rfl), Nat.le_trans (Nat.add_le_add_right hcs.2 _) (Nat.le_of_ble_eq_true rfl)⟩ rfl hl.1 rfl (Nat.le_of_ble_eq_true rfl) dL_law_2318) (fun _ _ _ => trivial) rfl (fun r3 γ H2 L2 p2 B2 => ?_)
  have hli2 := li0_mo (li_0 hli1) B2 p2.2.1 p2.2.2 hp.1.1 (lx_kq hli1.2.2.2.2.2.1 p2.2.1 hp.2 hp.1.2 hp.1.1)
  refine lv_pop hx hb dL_law_2321 rfl (hp_n (n := 2322) rfl ?_)
  refine lv_goto (tgt := 2391) hx hb dL_law_2322 (by decide) ?_
  exact kk _ _ _ _ _ _ hli2
set_option maxRecDepth 100000 in
set_option maxHeartbeats 4000000 in
theorem lc_57 {p : Program} {l : Launch} {e : Env} {s : State} {m : MethodId} {below : List Frame} {meth : Method} {c : Code} {Γ : hp_G} {b Ln x y : Nat} {xs : Nat → Int32} {ρ : Nat → Nat} (C : hp_C Γ p m c cL_law 4 s #[Value.ref b] RL) (hX : va_X b Ln xs s s.heap) (hbl : b < s.heap.size) (hbA : ¬ hp_A Γ b) (hLn : Ln ≤ 3072) {α : hp_T} {σ : ms_T} {H : Heap} {L : List Loc} {cells slots : Nat} (hli : li Γ s x y ρ α σ H L cells slots) (i : Int32) (hi : 0 ≤ i.toInt) (hi2 : i.toInt + 6 ≤ (Ln : Int)) (ls : Array Slot) (hl : lv_has ls 4 [(0, .ref b), (1, .ref x), (2, .ref y), (3, .int i)]) (kk : ∀ (α : hp_T) (σ : ms_T) (H : Heap) (L : List Loc) (cells slots : Nat), li Γ s x y ρ α σ H L cells slots → W p l e room_1 s m #[Value.ref b] below meth c H L cells slots (lw_Z below #[Value.ref b] s) (F0 m 2391 ls [])) : W p l e room_1 s m #[Value.ref b] below meth c H L cells slots (lw_Z below #[Value.ref b] s) (F0 m 2325 ls []) := by
  have hx := C.1.1
  have hb := C.1.2.1
  have hi3 : (Ln : Int) ≤ 3072 := by omega
  have hcs : cells ≤ 986 ∧ slots ≤ 148568 := by rcases hli.2.2.2.2.2.2 with ⟨-, h1, h2⟩ | ⟨-, h1, h2⟩ <;> omega
  obtain ⟨hB, hG, hKx, hM, hR, hE, hRo⟩ := id hli
  refine lv_aload_n hx hb dL_law_2325 rfl (lv_at hl 1 rfl) (hp_n (n := 2326) rfl ?_)
  refine l_arg (j := 1) (nj := 1) (q0 := 0) (q3 := 3) (pc' := 2331) C hB hX hbl hbA hl rfl rfl (by decide) hi hi2 hi3 dL_law_2326 dL_law_2327 rfl dL_law_2328 dL_law_2329 dL_law_2330 rfl rfl rfl rfl rfl (fun u1 eu1 => ?_)
  refine l_arg (j := 2) (nj := 2) (q0 := 0) (q3 := 3) (pc' := 2336) C hB hX hbl hbA hl rfl rfl (by decide) hi hi2 hi3 dL_law_2331 dL_law_2332 rfl dL_law_2333 dL_law_2334 dL_law_2335 rfl rfl rfl rfl rfl (fun u2 eu2 => ?_)
  refine q_ci (pc' := 2339) hB (l_runV (As := [.int u1, .int u2]) (rest := []) C hB (t_X11_saves Γ l α hG x hKx u1 u2) lb_X11_saves lv_X11_saves lk_L_247 hKx (Nat.le_of_ble_eq_true rfl) (Nat.le_of_ble_eq_true rfl) ⟨Nat.le_trans (Nat.add_le_add_right hcs.1 _) (Nat.le_of_ble_eq_true rfl), Nat.le_trans (Nat.add_le_add_right hcs.2 _) (Nat.le_of_ble_eq_true rfl)⟩ rfl hl.1 rfl (Nat.le_of_ble_eq_true rfl) dL_law_2336) (fun _ _ _ => trivial) rfl (fun r1 β H1 L1 p1 B1 => ?_)
  have hli1 := li_cw hli B1 p1 (by decide)
  refine lv_pop hx hb dL_law_2339 rfl (hp_n (n := 2340) rfl ?_)
  obtain ⟨hB, hG, hKx, hM, hR, hE, hRo⟩ := id hli1
  have hcs : cells + 0 ≤ 986 ∧ slots + 0 ≤ 148568 := by rcases hRo with ⟨-, h1, h2⟩ | ⟨-, h1, h2⟩ <;> omega
  refine lv_aload_n hx hb dL_law_2340 rfl (lv_at hl 2 rfl) (hp_n (n := 2341) rfl ?_)
  refine l_arg (j := 1) (nj := 1) (q0 := 0) (q3 := 3) (pc' := 2346) C hB hX hbl hbA hl rfl rfl (by decide) hi hi2 hi3 dL_law_2341 dL_law_2342 rfl dL_law_2343 dL_law_2344 dL_law_2345 rfl rfl rfl rfl rfl (fun w1 ew1 => ?_)
  refine l_arg (j := 2) (nj := 2) (q0 := 0) (q3 := 3) (pc' := 2351) C hB hX hbl hbA hl rfl rfl (by decide) hi hi2 hi3 dL_law_2346 dL_law_2347 rfl dL_law_2348 dL_law_2349 dL_law_2350 rfl rfl rfl rfl rfl (fun w2 ew2 => ?_)
  rw [← eu1] at ew1; have ew1 := ew1.symm; subst ew1
  rw [← eu2] at ew2; have ew2 := ew2.symm; subst ew2
  obtain ⟨⟨r2, τ⟩, hq, hp⟩ := ws_pr (s_saves 70000 (by decide) σ hR u1 u2) (z_X12_saves kq_rf)
  refine q_ci (pc' := 2354) hB (l_runV (As := [.int u1, .int u2]) (rest := []) C hB (m_X12_saves 70000 Γ l _ y ρ σ hM u1 u2 (r2, τ) hq) lb_X12_saves lv_X12_saves lk_L_250 hM.1 (Nat.le_of_ble_eq_true rfl) (Nat.le_of_ble_eq_true rfl) ⟨Nat.le_trans (Nat.add_le_add_right hcs.1 _) (Nat.le_of_ble_eq_true rfl), Nat.le_trans (Nat.add_le_add_right hcs.2 _) (Nat.le_of_ble_eq_true rfl)⟩ rfl hl.1 rfl (Nat.le_of_ble_eq_true rfl) dL_law_2351) (fun _ _ _ => trivial) rfl (fun r3 γ H2 L2 p2 B2 => ?_)
  have hli2 := li0_mo (li_0 hli1) B2 p2.2.1 p2.2.2 hp.1.1 (lx_kq hli1.2.2.2.2.2.1 p2.2.1 hp.2 hp.1.2 hp.1.1)
  refine lv_pop hx hb dL_law_2354 rfl (hp_n (n := 2355) rfl ?_)
  refine lv_goto (tgt := 2391) hx hb dL_law_2355 (by decide) ?_
  exact kk _ _ _ _ _ _ hli2
set_option maxRecDepth 100000 in
set_option maxHeartbeats 4000000 in
theorem lc_58 {p : Program} {l : Launch} {e : Env} {s : State} {m : MethodId} {below : List Frame} {meth : Method} {c : Code} {Γ : hp_G} {b Ln x y : Nat} {xs : Nat → Int32} {ρ : Nat → Nat} (C : hp_C Γ p m c cL_law 4 s #[Value.ref b] RL) (hX : va_X b Ln xs s s.heap) (hbl : b < s.heap.size) (hbA : ¬ hp_A Γ b) (hLn : Ln ≤ 3072) {α : hp_T} {σ : ms_T} {H : Heap} {L : List Loc} {cells slots : Nat} (hli : li Γ s x y ρ α σ H L cells slots) (i : Int32) (hi : 0 ≤ i.toInt) (hi2 : i.toInt + 6 ≤ (Ln : Int)) (ls : Array Slot) (hl : lv_has ls 4 [(0, .ref b), (1, .ref x), (2, .ref y), (3, .int i)]) (kk : ∀ (α : hp_T) (σ : ms_T) (H : Heap) (L : List Loc) (cells slots : Nat), li Γ s x y ρ α σ H L cells slots → W p l e room_1 s m #[Value.ref b] below meth c H L cells slots (lw_Z below #[Value.ref b] s) (F0 m 2391 ls [])) : W p l e room_1 s m #[Value.ref b] below meth c H L cells slots (lw_Z below #[Value.ref b] s) (F0 m 2358 ls []) := by
  have hx := C.1.1
  have hb := C.1.2.1
  have hi3 : (Ln : Int) ≤ 3072 := by omega
  have hcs : cells ≤ 986 ∧ slots ≤ 148568 := by rcases hli.2.2.2.2.2.2 with ⟨-, h1, h2⟩ | ⟨-, h1, h2⟩ <;> omega
  obtain ⟨hB, hG, hKx, hM, hR, hE, hRo⟩ := id hli
  refine lv_aload_n hx hb dL_law_2358 rfl (lv_at hl 1 rfl) (hp_n (n := 2359) rfl ?_)
  refine l_arg (j := 1) (nj := 1) (q0 := 0) (q3 := 3) (pc' := 2364) C hB hX hbl hbA hl rfl rfl (by decide) hi hi2 hi3 dL_law_2359 dL_law_2360 rfl dL_law_2361 dL_law_2362 dL_law_2363 rfl rfl rfl rfl rfl (fun u1 eu1 => ?_)
  refine l_arg (j := 2) (nj := 2) (q0 := 0) (q3 := 3) (pc' := 2369) C hB hX hbl hbA hl rfl rfl (by decide) hi hi2 hi3 dL_law_2364 dL_law_2365 rfl dL_law_2366 dL_law_2367 dL_law_2368 rfl rfl rfl rfl rfl (fun u2 eu2 => ?_)
  refine q_ci (pc' := 2372) hB (l_runV (As := [.int u1, .int u2]) (rest := []) C hB (t_X11_who Γ l α hG x hKx u1 u2) lb_X11_who lv_X11_who lk_L_251 hKx (Nat.le_of_ble_eq_true rfl) (Nat.le_of_ble_eq_true rfl) ⟨Nat.le_trans (Nat.add_le_add_right hcs.1 _) (Nat.le_of_ble_eq_true rfl), Nat.le_trans (Nat.add_le_add_right hcs.2 _) (Nat.le_of_ble_eq_true rfl)⟩ rfl hl.1 rfl (Nat.le_of_ble_eq_true rfl) dL_law_2369) (fun _ _ _ => trivial) rfl (fun r1 β H1 L1 p1 B1 => ?_)
  have hli1 := li_cw hli B1 p1 (by decide)
  refine lv_pop hx hb dL_law_2372 rfl (hp_n (n := 2373) rfl ?_)
  obtain ⟨hB, hG, hKx, hM, hR, hE, hRo⟩ := id hli1
  have hcs : cells + 0 ≤ 986 ∧ slots + 0 ≤ 148568 := by rcases hRo with ⟨-, h1, h2⟩ | ⟨-, h1, h2⟩ <;> omega
  refine lv_aload_n hx hb dL_law_2373 rfl (lv_at hl 2 rfl) (hp_n (n := 2374) rfl ?_)
  refine l_arg (j := 1) (nj := 1) (q0 := 0) (q3 := 3) (pc' := 2379) C hB hX hbl hbA hl rfl rfl (by decide) hi hi2 hi3 dL_law_2374 dL_law_2375 rfl dL_law_2376 dL_law_2377 dL_law_2378 rfl rfl rfl rfl rfl (fun w1 ew1 => ?_)
  refine l_arg (j := 2) (nj := 2) (q0 := 0) (q3 := 3) (pc' := 2384) C hB hX hbl hbA hl rfl rfl (by decide) hi hi2 hi3 dL_law_2379 dL_law_2380 rfl dL_law_2381 dL_law_2382 dL_law_2383 rfl rfl rfl rfl rfl (fun w2 ew2 => ?_)
  rw [← eu1] at ew1; have ew1 := ew1.symm; subst ew1
  rw [← eu2] at ew2; have ew2 := ew2.symm; subst ew2
  obtain ⟨⟨r2, τ⟩, hq, hp⟩ := ws_pr (s_who 70000 (by decide) σ hR u1 u2) (z_X12_who kq_rf)
  refine q_ci (pc' := 2387) hB (l_runV (As := [.int u1, .int u2]) (rest := []) C hB (m_X12_who 70000 Γ l _ y ρ σ hM u1 u2 (r2, τ) hq) lb_X12_who lv_X12_who lk_L_254 hM.1 (Nat.le_of_ble_eq_true rfl) (Nat.le_of_ble_eq_true rfl) ⟨Nat.le_trans (Nat.add_le_add_right hcs.1 _) (Nat.le_of_ble_eq_true rfl), Nat.le_trans (Nat.add_le_add_right hcs.2 _) (Nat.le_of_ble_eq_true rfl)⟩ rfl hl.1 rfl (Nat.le_of_ble_eq_true rfl) dL_law_2384) (fun _ _ _ => trivial) rfl (fun r3 γ H2 L2 p2 B2 => ?_)
  have hli2 := li0_mo (li_0 hli1) B2 p2.2.1 p2.2.2 hp.1.1 (lx_kq hli1.2.2.2.2.2.1 p2.2.1 hp.2 hp.1.2 hp.1.1)
  refine lv_pop hx hb dL_law_2387 rfl (hp_n (n := 2388) rfl ?_)
  refine lv_goto (tgt := 2391) hx hb dL_law_2388 (by decide) ?_
  exact kk _ _ _ _ _ _ hli2
end JN11_3
section JN11_4
set_option maxRecDepth 100000 in
set_option maxHeartbeats 4000000 in
theorem l_loop {p : Program} {l : Launch} {e : Env} {s : State} {m : MethodId} {below : List Frame} {meth : Method} {c : Code} {Γ : hp_G} {b Ln x y : Nat} {xs : Nat → Int32} {ρ : Nat → Nat} (C : hp_C Γ p m c cL_law 4 s #[Value.ref b] RL) (hX : va_X b Ln xs s s.heap) (hbl : b < s.heap.size) (hbA : ¬ hp_A Γ b) (hLn : Ln ≤ 3072) (hAs : ∀ q, hp_A Γ q → s.heap.size ≤ q) (hr : meth.sig.returnType = ret) (hlk : meth.locks = false) : ∀ (nq : Nat) (α : hp_T) (σ : ms_T) (H : Heap) (L : List Loc) (cells slots : Nat) (hli : li Γ s x y ρ α σ H L cells slots) (i : Int32) (hi : 0 ≤ i.toInt) (hiL : i.toInt ≤ (Ln : Int) + 6) (hmu : ((Ln : Int) + 6 - i.toInt).toNat = nq) (ls : Array Slot) (hl : lv_has ls 4 [(0, .ref b), (1, .ref x), (2, .ref y), (3, .int i)]), W p l e room_1 s m #[Value.ref b] below meth c H L cells slots (lw_Z below #[Value.ref b] s) (F0 m 18 ls []) := by
  intro nq
  induction nq using Nat.strongRecOn with
  | ind nq ih =>
  intro α σ H L cells slots hli i hi hiL hmu ls hl
  have hx := C.1.1
  have hb := C.1.2.1
  have hcs : cells ≤ 986 ∧ slots ≤ 148568 := by rcases hli.2.2.2.2.2.2 with ⟨-, h1, h2⟩ | ⟨-, h1, h2⟩ <;> omega
  have hB := hli.1
  have l6 : (6 : Int32).toInt = 6 := by decide
  have lN : (Int32.ofNat Ln).toInt = (Ln : Int) := by rw [Int32.toInt_ofNat_of_lt (by omega)]
  have lN6 : (Int32.ofNat Ln - 6).toInt = (Ln : Int) - 6 := by rw [ii_sub (by omega) (by omega), lN, l6]
  refine lv_iload_n hx hb dL_law_18 rfl (lv_at hl 3 rfl) (hp_n (n := 19) rfl ?_)
  refine lv_aload_n hx hb dL_law_19 rfl (lv_at hl 0 rfl) (hp_n (n := 20) rfl ?_)
  refine va_slen hx hb hX hbl hbA hB.2.1 dL_law_20 (hp_n (n := 21) rfl ?_)
  refine lv_bipush (v := 6) hx hb dL_law_21 (by decide) (hp_n (n := 23) rfl ?_)
  refine lv_isub hx hb dL_law_23 (hp_n (n := 24) rfl ?_)
  refine lv_icmp_gt (tgt := 2397) hx hb dL_law_24 (by decide) (fun cq => ?_) (fun cq => hp_n (n := 27) rfl ?_)
  · refine lv_iconst (v := 1) hx hb dL_law_2397 (by decide) (hp_n (n := 2398) rfl ?_)
    refine va_forget (fun q hq => by have := hB.2.1.2.2 q hq; exact hAs _ this) ?_
    refine W.widen (k := 600000) (n := 7302250) (by omega) (by omega) ?_
    exact lw_ret hx hb hr hlk dL_law_2398
  have cq := il_nlt cq
  rw [lN6] at cq
  have kk : ∀ (α : hp_T) (σ : ms_T) (H : Heap) (L : List Loc) (cells slots : Nat), li Γ s x y ρ α σ H L cells slots → W p l e room_1 s m #[Value.ref b] below meth c H L cells slots (lw_Z below #[Value.ref b] s) (F0 m 2391 ls []) := by
    intro α σ H L cells slots h2
    obtain ⟨v, ev⟩ : ∃ v : Int32, v = i + 6 := ⟨_, rfl⟩
    have qv : v.toInt = i.toInt + 6 := by rw [ev, ii_add (by omega) (by omega), l6]
    refine lv_iinc (v := v) (lv' := [(3, .int v), (0, .ref b), (1, .ref x), (2, .ref y)]) hx hb dL_law_2391 hl (k := 3) rfl (by rw [ev]; rfl) (by decide) rfl (fun ls hl => hp_n (n := 2394) rfl ?_)
    refine lv_goto (tgt := 18) hx hb dL_law_2394 (by decide) ?_
    exact ih _ (by omega) α σ H L cells slots h2 v (by omega) (by omega) rfl ls (lv_sub hl [1, 2, 3, 0] rfl)
  refine lv_aload_n hx hb dL_law_27 rfl (lv_at hl 0 rfl) (hp_n (n := 28) rfl ?_)
  refine lv_iload_n hx hb dL_law_28 rfl (lv_at hl 3 rfl) (hp_n (n := 29) rfl ?_)
  refine va_sld hx hb hX hbl hbA hB.2.1 (vi_of hi (by omega)) dL_law_29 (hp_n (n := 30) rfl ?_)
  refine lv_bipush (v := 63) hx hb dL_law_30 (by decide) (hp_n (n := 32) rfl ?_)
  refine lv_iand hx hb dL_law_32 (hp_n (n := 33) rfl (lv_topi (fun z ez => ?_)))
  by_cases c0 : z = 0
  · refine lv_tableIn (off := 251) (tgt := 284) hx hb dL_law_33 (by rw [c0]; decide) (by rw [c0]; decide) (by rw [c0]; rfl) (by decide) ?_
    exact lc_0 C hX hbl hbA hLn hli i hi (by omega) ls hl kk
  by_cases c1 : z = 1
  · refine lv_tableIn (off := 264) (tgt := 297) hx hb dL_law_33 (by rw [c1]; decide) (by rw [c1]; decide) (by rw [c1]; rfl) (by decide) ?_
    exact lc_1 C hX hbl hbA hLn hli i hi (by omega) ls hl kk
  by_cases c2 : z = 2
  · refine lv_tableIn (off := 327) (tgt := 360) hx hb dL_law_33 (by rw [c2]; decide) (by rw [c2]; decide) (by rw [c2]; rfl) (by decide) ?_
    exact lc_2 C hX hbl hbA hLn hli i hi (by omega) ls hl kk
  by_cases c3 : z = 3
  · refine lv_tableIn (off := 350) (tgt := 383) hx hb dL_law_33 (by rw [c3]; decide) (by rw [c3]; decide) (by rw [c3]; rfl) (by decide) ?_
    exact lc_3 C hX hbl hbA hLn hli i hi (by omega) ls hl kk
  by_cases c4 : z = 4
  · refine lv_tableIn (off := 373) (tgt := 406) hx hb dL_law_33 (by rw [c4]; decide) (by rw [c4]; decide) (by rw [c4]; rfl) (by decide) ?_
    exact lc_4 C hX hbl hbA hLn hli i hi (by omega) ls hl kk
  by_cases c5 : z = 5
  · refine lv_tableIn (off := 396) (tgt := 429) hx hb dL_law_33 (by rw [c5]; decide) (by rw [c5]; decide) (by rw [c5]; rfl) (by decide) ?_
    exact lc_5 C hX hbl hbA hLn hli i hi (by omega) ls hl kk
  by_cases c6 : z = 6
  · refine lv_tableIn (off := 419) (tgt := 452) hx hb dL_law_33 (by rw [c6]; decide) (by rw [c6]; decide) (by rw [c6]; rfl) (by decide) ?_
    exact lc_6 C hX hbl hbA hLn hli i hi (by omega) ls hl kk
  by_cases c7 : z = 7
  · refine lv_tableIn (off := 452) (tgt := 485) hx hb dL_law_33 (by rw [c7]; decide) (by rw [c7]; decide) (by rw [c7]; rfl) (by decide) ?_
    exact lc_7 C hX hbl hbA hLn hli i hi (by omega) ls hl kk
  by_cases c8 : z = 8
  · refine lv_tableIn (off := 475) (tgt := 508) hx hb dL_law_33 (by rw [c8]; decide) (by rw [c8]; decide) (by rw [c8]; rfl) (by decide) ?_
    exact lc_8 C hX hbl hbA hLn hli i hi (by omega) ls hl kk
  by_cases c9 : z = 9
  · refine lv_tableIn (off := 498) (tgt := 531) hx hb dL_law_33 (by rw [c9]; decide) (by rw [c9]; decide) (by rw [c9]; rfl) (by decide) ?_
    exact lc_9 C hX hbl hbA hLn hli i hi (by omega) ls hl kk
  by_cases c10 : z = 10
  · refine lv_tableIn (off := 541) (tgt := 574) hx hb dL_law_33 (by rw [c10]; decide) (by rw [c10]; decide) (by rw [c10]; rfl) (by decide) ?_
    exact lc_10 C hX hbl hbA hLn hli i hi (by omega) ls hl kk
  by_cases c11 : z = 11
  · refine lv_tableIn (off := 574) (tgt := 607) hx hb dL_law_33 (by rw [c11]; decide) (by rw [c11]; decide) (by rw [c11]; rfl) (by decide) ?_
    exact lc_11 C hX hbl hbA hLn hli i hi (by omega) ls hl kk
  by_cases c12 : z = 12
  · refine lv_tableIn (off := 607) (tgt := 640) hx hb dL_law_33 (by rw [c12]; decide) (by rw [c12]; decide) (by rw [c12]; rfl) (by decide) ?_
    exact lc_12 C hX hbl hbA hLn hli i hi (by omega) ls hl kk
  by_cases c13 : z = 13
  · refine lv_tableIn (off := 620) (tgt := 653) hx hb dL_law_33 (by rw [c13]; decide) (by rw [c13]; decide) (by rw [c13]; rfl) (by decide) ?_
    exact lc_13 C hX hbl hbA hLn hli i hi (by omega) ls hl kk
  by_cases c14 : z = 14
  · refine lv_tableIn (off := 653) (tgt := 686) hx hb dL_law_33 (by rw [c14]; decide) (by rw [c14]; decide) (by rw [c14]; rfl) (by decide) ?_
    exact lc_14 C hX hbl hbA hLn hli i hi (by omega) ls hl kk
  by_cases c15 : z = 15
  · refine lv_tableIn (off := 686) (tgt := 719) hx hb dL_law_33 (by rw [c15]; decide) (by rw [c15]; decide) (by rw [c15]; rfl) (by decide) ?_
    exact lc_15 C hX hbl hbA hLn hli i hi (by omega) ls hl kk
  by_cases c16 : z = 16
  · refine lv_tableIn (off := 709) (tgt := 742) hx hb dL_law_33 (by rw [c16]; decide) (by rw [c16]; decide) (by rw [c16]; rfl) (by decide) ?_
    exact lc_16 C hX hbl hbA hLn hli i hi (by omega) ls hl kk
  by_cases c17 : z = 17
  · refine lv_tableIn (off := 742) (tgt := 775) hx hb dL_law_33 (by rw [c17]; decide) (by rw [c17]; decide) (by rw [c17]; rfl) (by decide) ?_
    exact lc_17 C hX hbl hbA hLn hli i hi (by omega) ls hl kk
  by_cases c18 : z = 18
  · refine lv_tableIn (off := 765) (tgt := 798) hx hb dL_law_33 (by rw [c18]; decide) (by rw [c18]; decide) (by rw [c18]; rfl) (by decide) ?_
    exact lc_18 C hX hbl hbA hLn hli i hi (by omega) ls hl kk
  by_cases c19 : z = 19
  · refine lv_tableIn (off := 808) (tgt := 841) hx hb dL_law_33 (by rw [c19]; decide) (by rw [c19]; decide) (by rw [c19]; rfl) (by decide) ?_
    exact lc_19 C hX hbl hbA hLn hli i hi (by omega) ls hl kk
  by_cases c20 : z = 20
  · refine lv_tableIn (off := 851) (tgt := 884) hx hb dL_law_33 (by rw [c20]; decide) (by rw [c20]; decide) (by rw [c20]; rfl) (by decide) ?_
    exact lc_20 C hX hbl hbA hLn hli i hi (by omega) ls hl kk
  by_cases c21 : z = 21
  · refine lv_tableIn (off := 904) (tgt := 937) hx hb dL_law_33 (by rw [c21]; decide) (by rw [c21]; decide) (by rw [c21]; rfl) (by decide) ?_
    exact lc_21 C hX hbl hbA hLn hli i hi (by omega) ls hl kk
  by_cases c22 : z = 22
  · refine lv_tableIn (off := 927) (tgt := 960) hx hb dL_law_33 (by rw [c22]; decide) (by rw [c22]; decide) (by rw [c22]; rfl) (by decide) ?_
    exact lc_22 C hX hbl hbA hLn hli i hi (by omega) ls hl kk
  by_cases c23 : z = 23
  · refine lv_tableIn (off := 960) (tgt := 993) hx hb dL_law_33 (by rw [c23]; decide) (by rw [c23]; decide) (by rw [c23]; rfl) (by decide) ?_
    exact lc_23 C hX hbl hbA hLn hli i hi (by omega) ls hl kk
  by_cases c24 : z = 24
  · refine lv_tableIn (off := 983) (tgt := 1016) hx hb dL_law_33 (by rw [c24]; decide) (by rw [c24]; decide) (by rw [c24]; rfl) (by decide) ?_
    exact lc_24 C hX hbl hbA hLn hli i hi (by omega) ls hl kk
  by_cases c25 : z = 25
  · refine lv_tableIn (off := 1006) (tgt := 1039) hx hb dL_law_33 (by rw [c25]; decide) (by rw [c25]; decide) (by rw [c25]; rfl) (by decide) ?_
    exact lc_25 C hX hbl hbA hLn hli i hi (by omega) ls hl kk
  by_cases c26 : z = 26
  · refine lv_tableIn (off := 1049) (tgt := 1082) hx hb dL_law_33 (by rw [c26]; decide) (by rw [c26]; decide) (by rw [c26]; rfl) (by decide) ?_
    exact lc_26 C hX hbl hbA hLn hli i hi (by omega) ls hl kk
  by_cases c27 : z = 27
  · refine lv_tableIn (off := 1092) (tgt := 1125) hx hb dL_law_33 (by rw [c27]; decide) (by rw [c27]; decide) (by rw [c27]; rfl) (by decide) ?_
    exact lc_27 C hX hbl hbA hLn hli i hi (by omega) ls hl kk
  by_cases c28 : z = 28
  · refine lv_tableIn (off := 1135) (tgt := 1168) hx hb dL_law_33 (by rw [c28]; decide) (by rw [c28]; decide) (by rw [c28]; rfl) (by decide) ?_
    exact lc_28 C hX hbl hbA hLn hli i hi (by omega) ls hl kk
  by_cases c29 : z = 29
  · refine lv_tableIn (off := 1168) (tgt := 1201) hx hb dL_law_33 (by rw [c29]; decide) (by rw [c29]; decide) (by rw [c29]; rfl) (by decide) ?_
    exact lc_29 C hX hbl hbA hLn hli i hi (by omega) ls hl kk
  by_cases c30 : z = 30
  · refine lv_tableIn (off := 1201) (tgt := 1234) hx hb dL_law_33 (by rw [c30]; decide) (by rw [c30]; decide) (by rw [c30]; rfl) (by decide) ?_
    exact lc_30 C hX hbl hbA hLn hli i hi (by omega) ls hl kk
  by_cases c31 : z = 31
  · refine lv_tableIn (off := 1254) (tgt := 1287) hx hb dL_law_33 (by rw [c31]; decide) (by rw [c31]; decide) (by rw [c31]; rfl) (by decide) ?_
    exact lc_31 C hX hbl hbA hLn hli i hi (by omega) ls hl kk
  by_cases c32 : z = 32
  · refine lv_tableIn (off := 1307) (tgt := 1340) hx hb dL_law_33 (by rw [c32]; decide) (by rw [c32]; decide) (by rw [c32]; rfl) (by decide) ?_
    exact lc_32 C hX hbl hbA hLn hli i hi (by omega) ls hl kk
  by_cases c33 : z = 33
  · refine lv_tableIn (off := 1350) (tgt := 1383) hx hb dL_law_33 (by rw [c33]; decide) (by rw [c33]; decide) (by rw [c33]; rfl) (by decide) ?_
    exact lc_33 C hX hbl hbA hLn hli i hi (by omega) ls hl kk
  by_cases c34 : z = 34
  · refine lv_tableIn (off := 1363) (tgt := 1396) hx hb dL_law_33 (by rw [c34]; decide) (by rw [c34]; decide) (by rw [c34]; rfl) (by decide) ?_
    exact lc_34 C hX hbl hbA hLn hli i hi (by omega) ls hl kk
  by_cases c35 : z = 35
  · refine lv_tableIn (off := 1396) (tgt := 1429) hx hb dL_law_33 (by rw [c35]; decide) (by rw [c35]; decide) (by rw [c35]; rfl) (by decide) ?_
    exact lc_35 C hX hbl hbA hLn hli i hi (by omega) ls hl kk
  by_cases c36 : z = 36
  · refine lv_tableIn (off := 1429) (tgt := 1462) hx hb dL_law_33 (by rw [c36]; decide) (by rw [c36]; decide) (by rw [c36]; rfl) (by decide) ?_
    exact lc_36 C hX hbl hbA hLn hli i hi (by omega) ls hl kk
  by_cases c37 : z = 37
  · refine lv_tableIn (off := 1462) (tgt := 1495) hx hb dL_law_33 (by rw [c37]; decide) (by rw [c37]; decide) (by rw [c37]; rfl) (by decide) ?_
    exact lc_37 C hX hbl hbA hLn hli i hi (by omega) ls hl kk
  by_cases c38 : z = 38
  · refine lv_tableIn (off := 1495) (tgt := 1528) hx hb dL_law_33 (by rw [c38]; decide) (by rw [c38]; decide) (by rw [c38]; rfl) (by decide) ?_
    exact lc_38 C hX hbl hbA hLn hli i hi (by omega) ls hl kk
  by_cases c39 : z = 39
  · refine lv_tableIn (off := 1548) (tgt := 1581) hx hb dL_law_33 (by rw [c39]; decide) (by rw [c39]; decide) (by rw [c39]; rfl) (by decide) ?_
    exact lc_39 C hX hbl hbA hLn hli i hi (by omega) ls hl kk
  by_cases c40 : z = 40
  · refine lv_tableIn (off := 1581) (tgt := 1614) hx hb dL_law_33 (by rw [c40]; decide) (by rw [c40]; decide) (by rw [c40]; rfl) (by decide) ?_
    exact lc_40 C hX hbl hbA hLn hli i hi (by omega) ls hl kk
  by_cases c41 : z = 41
  · refine lv_tableIn (off := 1614) (tgt := 1647) hx hb dL_law_33 (by rw [c41]; decide) (by rw [c41]; decide) (by rw [c41]; rfl) (by decide) ?_
    exact lc_41 C hX hbl hbA hLn hli i hi (by omega) ls hl kk
  by_cases c42 : z = 42
  · refine lv_tableIn (off := 1657) (tgt := 1690) hx hb dL_law_33 (by rw [c42]; decide) (by rw [c42]; decide) (by rw [c42]; rfl) (by decide) ?_
    exact lc_42 C hX hbl hbA hLn hli i hi (by omega) ls hl kk
  by_cases c43 : z = 43
  · refine lv_tableIn (off := 1690) (tgt := 1723) hx hb dL_law_33 (by rw [c43]; decide) (by rw [c43]; decide) (by rw [c43]; rfl) (by decide) ?_
    exact lc_43 C hX hbl hbA hLn hli i hi (by omega) ls hl kk
  by_cases c44 : z = 44
  · refine lv_tableIn (off := 1743) (tgt := 1776) hx hb dL_law_33 (by rw [c44]; decide) (by rw [c44]; decide) (by rw [c44]; rfl) (by decide) ?_
    exact lc_44 C hX hbl hbA hLn hli i hi (by omega) ls hl kk
  by_cases c45 : z = 45
  · refine lv_tableIn (off := 1806) (tgt := 1839) hx hb dL_law_33 (by rw [c45]; decide) (by rw [c45]; decide) (by rw [c45]; rfl) (by decide) ?_
    exact lc_45 C hX hbl hbA hLn hli i hi (by omega) ls hl kk
  by_cases c46 : z = 46
  · refine lv_tableIn (off := 1869) (tgt := 1902) hx hb dL_law_33 (by rw [c46]; decide) (by rw [c46]; decide) (by rw [c46]; rfl) (by decide) ?_
    exact lc_46 C hX hbl hbA hLn hli i hi (by omega) ls hl kk
  by_cases c47 : z = 47
  · refine lv_tableIn (off := 1922) (tgt := 1955) hx hb dL_law_33 (by rw [c47]; decide) (by rw [c47]; decide) (by rw [c47]; rfl) (by decide) ?_
    exact lc_47 C hX hbl hbA hLn hli i hi (by omega) ls hl kk
  by_cases c48 : z = 48
  · refine lv_tableIn (off := 1975) (tgt := 2008) hx hb dL_law_33 (by rw [c48]; decide) (by rw [c48]; decide) (by rw [c48]; rfl) (by decide) ?_
    exact lc_48 C hX hbl hbA hLn hli i hi (by omega) ls hl kk
  by_cases c49 : z = 49
  · refine lv_tableIn (off := 2028) (tgt := 2061) hx hb dL_law_33 (by rw [c49]; decide) (by rw [c49]; decide) (by rw [c49]; rfl) (by decide) ?_
    exact lc_49 C hX hbl hbA hLn hli i hi (by omega) ls hl kk
  by_cases c50 : z = 50
  · refine lv_tableIn (off := 2071) (tgt := 2104) hx hb dL_law_33 (by rw [c50]; decide) (by rw [c50]; decide) (by rw [c50]; rfl) (by decide) ?_
    exact lc_50 C hX hbl hbA hLn hli i hi (by omega) ls hl kk
  by_cases c51 : z = 51
  · refine lv_tableIn (off := 2094) (tgt := 2127) hx hb dL_law_33 (by rw [c51]; decide) (by rw [c51]; decide) (by rw [c51]; rfl) (by decide) ?_
    exact lc_51 C hX hbl hbA hLn hli i hi (by omega) ls hl kk
  by_cases c52 : z = 52
  · refine lv_tableIn (off := 2127) (tgt := 2160) hx hb dL_law_33 (by rw [c52]; decide) (by rw [c52]; decide) (by rw [c52]; rfl) (by decide) ?_
    exact lc_52 C hX hbl hbA hLn hli i hi (by omega) ls hl kk
  by_cases c53 : z = 53
  · refine lv_tableIn (off := 2150) (tgt := 2183) hx hb dL_law_33 (by rw [c53]; decide) (by rw [c53]; decide) (by rw [c53]; rfl) (by decide) ?_
    exact lc_53 C hX hbl hbA hLn hli i hi (by omega) ls hl kk
  by_cases c54 : z = 54
  · refine lv_tableIn (off := 2193) (tgt := 2226) hx hb dL_law_33 (by rw [c54]; decide) (by rw [c54]; decide) (by rw [c54]; rfl) (by decide) ?_
    exact lc_54 C hX hbl hbA hLn hli i hi (by omega) ls hl kk
  by_cases c55 : z = 55
  · refine lv_tableIn (off := 2236) (tgt := 2269) hx hb dL_law_33 (by rw [c55]; decide) (by rw [c55]; decide) (by rw [c55]; rfl) (by decide) ?_
    exact lc_55 C hX hbl hbA hLn hli i hi (by omega) ls hl kk
  by_cases c56 : z = 56
  · refine lv_tableIn (off := 2259) (tgt := 2292) hx hb dL_law_33 (by rw [c56]; decide) (by rw [c56]; decide) (by rw [c56]; rfl) (by decide) ?_
    exact lc_56 C hX hbl hbA hLn hli i hi (by omega) ls hl kk
  by_cases c57 : z = 57
  · refine lv_tableIn (off := 2292) (tgt := 2325) hx hb dL_law_33 (by rw [c57]; decide) (by rw [c57]; decide) (by rw [c57]; rfl) (by decide) ?_
    exact lc_57 C hX hbl hbA hLn hli i hi (by omega) ls hl kk
  by_cases c58 : z = 58
  · refine lv_tableIn (off := 2325) (tgt := 2358) hx hb dL_law_33 (by rw [c58]; decide) (by rw [c58]; decide) (by rw [c58]; rfl) (by decide) ?_
    exact lc_58 C hX hbl hbA hLn hli i hi (by omega) ls hl kk
  have zr : ∀ k : Int, 0 ≤ k → k ≤ 58 → ¬ z.toInt = k := by
    intro k h0 h1 hk
    have hz : z = Int32.ofInt k := by rw [← hk]; exact (Int32.ofInt_toInt z).symm
    have : k = 0 ∨ k = 1 ∨ k = 2 ∨ k = 3 ∨ k = 4 ∨ k = 5 ∨ k = 6 ∨ k = 7 ∨ k = 8 ∨ k = 9 ∨ k = 10 ∨ k = 11 ∨ k = 12 ∨ k = 13 ∨ k = 14 ∨ k = 15 ∨ k = 16 ∨ k = 17 ∨ k = 18 ∨ k = 19 ∨ k = 20 ∨ k = 21 ∨ k = 22 ∨ k = 23 ∨ k = 24 ∨ k = 25 ∨ k = 26 ∨ k = 27 ∨ k = 28 ∨ k = 29 ∨ k = 30 ∨ k = 31 ∨ k = 32 ∨ k = 33 ∨ k = 34 ∨ k = 35 ∨ k = 36 ∨ k = 37 ∨ k = 38 ∨ k = 39 ∨ k = 40 ∨ k = 41 ∨ k = 42 ∨ k = 43 ∨ k = 44 ∨ k = 45 ∨ k = 46 ∨ k = 47 ∨ k = 48 ∨ k = 49 ∨ k = 50 ∨ k = 51 ∨ k = 52 ∨ k = 53 ∨ k = 54 ∨ k = 55 ∨ k = 56 ∨ k = 57 ∨ k = 58 := by omega
    rcases this with rfl | rfl | rfl | rfl | rfl | rfl | rfl | rfl | rfl | rfl | rfl | rfl | rfl | rfl | rfl | rfl | rfl | rfl | rfl | rfl | rfl | rfl | rfl | rfl | rfl | rfl | rfl | rfl | rfl | rfl | rfl | rfl | rfl | rfl | rfl | rfl | rfl | rfl | rfl | rfl | rfl | rfl | rfl | rfl | rfl | rfl | rfl | rfl | rfl | rfl | rfl | rfl | rfl | rfl | rfl | rfl | rfl | rfl | rfl
    · exact c0 hz
    · exact c1 hz
    · exact c2 hz
    · exact c3 hz
    · exact c4 hz
    · exact c5 hz
    · exact c6 hz
    · exact c7 hz
    · exact c8 hz
    · exact c9 hz
    · exact c10 hz
    · exact c11 hz
    · exact c12 hz
    · exact c13 hz
    · exact c14 hz
    · exact c15 hz
    · exact c16 hz
    · exact c17 hz
    · exact c18 hz
    · exact c19 hz
    · exact c20 hz
    · exact c21 hz
    · exact c22 hz
    · exact c23 hz
    · exact c24 hz
    · exact c25 hz
    · exact c26 hz
    · exact c27 hz
    · exact c28 hz
    · exact c29 hz
    · exact c30 hz
    · exact c31 hz
    · exact c32 hz
    · exact c33 hz
    · exact c34 hz
    · exact c35 hz
    · exact c36 hz
    · exact c37 hz
    · exact c38 hz
    · exact c39 hz
    · exact c40 hz
    · exact c41 hz
    · exact c42 hz
    · exact c43 hz
    · exact c44 hz
    · exact c45 hz
    · exact c46 hz
    · exact c47 hz
    · exact c48 hz
    · exact c49 hz
    · exact c50 hz
    · exact c51 hz
    · exact c52 hz
    · exact c53 hz
    · exact c54 hz
    · exact c55 hz
    · exact c56 hz
    · exact c57 hz
    · exact c58 hz
  refine lv_tableOut (tgt := 2391) hx hb dL_law_33 (by by_cases h : z.toInt < 0; exact Or.inl h; by_cases h2 : 58 < z.toInt; exact Or.inr h2; exact absurd rfl (zr z.toInt (by omega) (by omega))) (by decide) ?_
  exact kk _ _ _ _ _ _ hli
end JN11_4
section JN11_5
/-! ===== the law from its entry ===== -/
section LN
variable {p : Program} {l : Launch} {e : Env} {R : Room} {s : State} {m : MethodId} {args : Array Value} {below : List Frame} {meth : Method} {c : Code} {H : Heap} {locs : List Loc} {cells slots : Nat} {Q : State → Prop} {cc bytes : ByteArray} {nL maxL : Nat} {own : String} {Γ : hp_G} {α0 α : hp_T} {Iv : hp_T → hp_T → Prop} {pc pc' : Nat} {ls : Array Slot} {rest st : List Value} {κ index N b n d' mc ms : Nat} {y : MethodName} {As : List Value}
theorem l_newZ (C : hp_C Γ p m c cc nL s args own) (B : hp_B Γ Iv s α0 α H locs) (hcl : Cond.classLink own index (hp_q κ).1 ∈ lw_u) (hit : Cond.instantiable (hp_q κ).1 (hp_q κ).2.2 ∈ lw_u) (hiz : Cond.initialized (hp_q κ).1 ∈ lw_u) (hq : vwCl[κ - 1]? = some (hp_q κ)) (hin : ∀ w ∈ u_ws (hp_q κ).1 (hp_q κ).2.1 (hp_q κ).2.2, w ∈ lw_u) (hty : ∀ j, j < (hp_q κ).2.2 → parseFieldDescriptor ((hp_q κ).2.1 j).2.2.1 = some (hp_ty κ j)) (hdf : ∀ j, j < (hp_q κ).2.2 → defaultValue (hp_ty κ j) = vp_V ((hp_tg (100 + κ)).map hp_dv) j) (hκ : 1 ≤ κ) (hic : hp_isC (100 + κ) = true) (hN : (hp_q κ).2.2 = N) (hcc : cells + 1 ≤ R.cells) (hss : slots + N ≤ R.slots) (hdg : decode cc pc = .ok (.new index, 3)) (hpc : pc + 3 = pc') (hiv : ∀ h, hp_K α h = 0 → Iv α0 (hp_nw α h (100 + κ)))
    (kk : ∀ (β : hp_T) (h : Nat) (H1 : Heap), hp_K α h = 0 → h = H.size → H1.size = H.size + 1 → β = hp_nw α h (100 + κ) → hp_B Γ Iv s α0 β H1 locs → W p l e R s m args below meth c H1 locs (cells + 1) (slots + N) Q (F0 m pc' ls (.ref h :: rest))) : W p l e R s m args below meth c H locs cells slots Q (F0 m pc ls rest) := by
  obtain ⟨⟨hx, hb, hml, hown, hts⟩, hK, -⟩ := C
  subst hpc; subst hN
  have hKn := hK.1 _ _ hq
  refine W.newcK hx hb hown (hts _ hcl) (hts _ hit) (hts _ hiz) rfl hdg hcc hss hKn.2.1 rfl fun H1 kC hkC e1 z1 o1 => ?_
  refine kk _ H.size H1 B.1.fresh rfl z1 rfl ⟨B.1.nw z1 o1 ?_, B.2.1.grow z1 o1, hiv _ B.1.fresh⟩
  rw [hp_ce_c hic, hp_b_100, nw_fv _ _ (tg_no1 hκ)]
  exact ⟨_, hq, (u_born (hp_ty κ) hts hin hKn hkC e1 hty).to hdf⟩
theorem l_runIZ {Qc : Array Value → State → Outcome → State → Prop} (C : hp_C Γ p m c cc nL s args own) (B : hp_B Γ Iv s α0 α H locs) (hM : Met l y (hp_ws y bytes maxL none) (hp_rm d' mc ms) (hp_PcH Γ α H (.ref b :: As)) Qc mc ms (hp_A Γ)) (hB : hp_LB y bytes maxL none n) (hy : y.name = "<init>") (hI : Cond.instanceMethod y ∈ lw_u) (hL : hp_LK own index y) (hRf : d' + 1 ≤ R.frames) (hRl : 8 + (maxL + 11) + 45 * d' ≤ R.locals) (hff : cells + mc ≤ R.cells ∧ slots + ms ≤ R.slots) (hlen : As.length = n) (hsz : ls.size = nL) (hst : st = As.reverse ++ .ref b :: rest) (hcat : (rest.map fun v => v.category).sum ≤ 8) (hdg : decode cc pc = .ok (.invokespecial index, 3)) :
    va_Run p l e R s m args below meth c H locs cells slots mc ms (F0 m pc ls st) rest (Qc (Value.ref b :: As).toArray) (hp_A Γ) := by
  obtain ⟨h1, h2, h3, h4⟩ := hB
  have hts := C.1.2.2.2.2
  have hp : PreS s H (hp_PcH Γ α H (.ref b :: As)) (.ref b :: As) := ⟨hp_blindH Γ α H _, fun U hU hW => ⟨rfl, hU, by rw [hU]; exact B.1, C.2.warm hW⟩⟩
  have hRR : (hp_rm d' mc ms).frames + 1 ≤ R.frames ∧ 8 + (maxL + 11) + (hp_rm d' mc ms).locals ≤ R.locals := ⟨hRf, hRl⟩
  rcases hL with hL | ⟨host, hL⟩
  · exact va_runI (As := As) (rest := rest) (n := n) C.1 hM ⟨callB_of n hts (hp_gs h1) rfl rfl rfl (hts _ h2) (hts _ hL) h4 hRR, hy, hts _ hI⟩ hp rfl hlen hsz hst (lv_room (m := m) (pc := pc) (ls := ls) (rest := st) hcat) hdg hff
  · exact va_runIN (As := As) (rest := rest) (n := n) C.1 hM ⟨va_cnB n hts (hp_gs h1) rfl rfl rfl (C.2.2.1 _ hL) (hts _ h2) h4 hRR, hy, hts _ hI⟩ hp rfl hlen hsz hst (lv_room (m := m) (pc := pc) (ls := ls) (rest := st) hcat) hdg hff
theorem l_runI {Qc : Array Value → State → Outcome → State → Prop} (C : hp_C Γ p m c cc nL s args own) (B : hp_B Γ Iv s α0 α H locs) (hM : Met l y (hp_ws y bytes maxL none) (hp_rm d' mc ms) (hp_Pc Γ α (.ref b :: As)) Qc mc ms (hp_A Γ)) (hB : hp_LB y bytes maxL none n) (hy : y.name = "<init>") (hI : Cond.instanceMethod y ∈ lw_u) (hL : hp_LK own index y) (hRf : d' + 1 ≤ R.frames) (hRl : 8 + (maxL + 11) + 45 * d' ≤ R.locals) (hff : cells + mc ≤ R.cells ∧ slots + ms ≤ R.slots) (hlen : As.length = n) (hsz : ls.size = nL) (hst : st = As.reverse ++ .ref b :: rest) (hcat : (rest.map fun v => v.category).sum ≤ 8) (hdg : decode cc pc = .ok (.invokespecial index, 3)) :
    va_Run p l e R s m args below meth c H locs cells slots mc ms (F0 m pc ls st) rest (Qc (Value.ref b :: As).toArray) (hp_A Γ) := by
  obtain ⟨h1, h2, h3, h4⟩ := hB
  have hts := C.1.2.2.2.2
  have hp : PreS s H (hp_Pc Γ α (.ref b :: As)) (.ref b :: As) := ⟨hp_blind Γ α _, fun U hU hW => ⟨rfl, by rw [hU]; exact B.1, C.2.warm hW⟩⟩
  have hRR : (hp_rm d' mc ms).frames + 1 ≤ R.frames ∧ 8 + (maxL + 11) + (hp_rm d' mc ms).locals ≤ R.locals := ⟨hRf, hRl⟩
  rcases hL with hL | ⟨host, hL⟩
  · exact va_runI (As := As) (rest := rest) (n := n) C.1 hM ⟨callB_of n hts (hp_gs h1) rfl rfl rfl (hts _ h2) (hts _ hL) h4 hRR, hy, hts _ hI⟩ hp rfl hlen hsz hst (lv_room (m := m) (pc := pc) (ls := ls) (rest := st) hcat) hdg hff
  · exact va_runIN (As := As) (rest := rest) (n := n) C.1 hM ⟨va_cnB n hts (hp_gs h1) rfl rfl rfl (C.2.2.1 _ hL) (hts _ h2) h4 hRR, hy, hts _ hI⟩ hp rfl hlen hsz hst (lv_room (m := m) (pc := pc) (ls := ls) (rest := st) hcat) hdg hff
end LN
def a_0 : hp_T := (fun _ => 0, fun _ _ => 0, fun _ _ => 0, fun _ _ => 0, fun _ _ => none, fun _ _ _ => 0, fun _ _ _ => 0, fun _ _ _ => none)
theorem gc_rt_1 : ∀ q ∈ gc_rt, 1 ≤ q.1 / 50 := by decide +kernel
theorem gc_0 : GC a_0 := by
  refine ⟨fun φ a => gc_i0 φ, fun φ a h hr => ?_, fun a b h => ?_, fun κ a j b h hq hb => ?_⟩
  · have h1 := gc_rt_1 _ (gc_rk_mem hr)
    have h2 : (0 : Nat) = φ / 50 := h
    simp only at h1
    omega
  · have h2 : (0 : Nat) = 12 := h
    omega
  · have h2 : (none : Option Nat) = some b := hb
    cases h2
set_option maxRecDepth 100000 in
set_option maxHeartbeats 4000000 in
theorem whole_start {p : Program} {e : Env} {s : State} {m : MethodId} {below : List Frame} {meth : Method} {c : Code} (l : Launch) (hflags : l.flags = flags0) {b L : Nat} {xs : Nat → Int32} (hL : L ≤ 3072) (C0 : lw_At p s m meth c b L xs) : W p l e room_1 s m #[Value.ref b] below meth c s.heap [] 0 0 (lw_Z below #[Value.ref b] s) (entryFrame m ([Value.ref b] : List Value).toArray 4) := by
  obtain ⟨hx, hb, hr, hml, hown, hts, hX, hbl, hlocks, hgv⟩ := id C0
  obtain ⟨Γ, hΓ, hKK⟩ := st_KK hts hgv
  have C : hp_C Γ p m c cL_law 4 s #[Value.ref b] RL := ⟨⟨hx, hb, hml, hown, (st_tab hts).1⟩, hKK⟩
  have hbA : ¬ hp_A Γ b := by show ¬ Γ.1.size ≤ b; rw [hΓ]; omega
  have hAs : ∀ q, hp_A Γ q → s.heap.size ≤ q := fun q h => by have h2 : Γ.1.size ≤ q := h; rw [hΓ] at h2; exact h2
  have hl := lv_entry ([.ref b]) (n := 4) (Nat.le_of_ble_eq_true rfl)
  rw [lg_entry_eq]
  generalize (lg_sl ([.ref b]) ++ List.replicate (4 - (lg_sl ([.ref b])).length) Slot.unset).toArray = ls at hl ⊢
  have hl : lv_has ls 4 [(0, .ref b)] := hl
  have B : hp_B Γ (fun _ _ => True) s a_0 a_0 s.heap [] := ⟨⟨by rw [hΓ]; exact Nat.le_refl _, fun q _ => by rw [hΓ], fun a h => absurd rfl h⟩, va_S.rf, trivial⟩
  refine l_newZ (κ := 12) (N := 19) (pc' := 3) C B cl_L_7 it_X11 iz_X11 rfl in_12 tyX11_ok df_12 (by decide) rfl rfl (Nat.le_of_ble_eq_true rfl) (Nat.le_of_ble_eq_true rfl) dL_law_0 rfl (fun _ _ => trivial) (fun β1 x H1 f1 y1 w1 e1 B1 => ?_)
  have g1 : GC β1 := by rw [e1]; exact gc_nw gc_0 f1 (by decide)
  have k1 : hp_K β1 x = 112 := by rw [e1]; exact nw_k
  have z1 : ∀ φ, hp_I β1 φ x = 0 := fun φ => by rw [e1]; exact nw_i
  refine lv_dup hx hb dL_law_3 rfl (hp_n (n := 4) rfl ?_)
  refine q_cvZ (pc' := 7) B1 (l_runIZ (As := []) (rest := [.ref x]) C B1 (u_X11_init Γ l β1 g1 H1 x k1 z1) lb_X11_init rfl li_X11_init lk_L_9 (Nat.le_of_ble_eq_true rfl) (Nat.le_of_ble_eq_true rfl) ⟨Nat.le_of_ble_eq_true rfl, Nat.le_of_ble_eq_true rfl⟩ rfl hl.1 rfl (Nat.le_of_ble_eq_true rfl) dL_law_4) (fun _ _ => trivial) rfl (fun β2 H2 L2 w2 pp2 B2 => ?_)
  have p2 := pp2.1
  have hF : β2 = F_X11_init β1 (x + 1) x := by rw [pp2.2, w1, ← y1]
  refine lv_astore_n (lv' := [(1, .ref x), (0, .ref b)]) hx hb dL_law_7 rfl hl (by decide) rfl (fun ls hl => hp_n (n := 8) rfl ?_)
  refine l_newZ (κ := 13) (N := 48) (pc' := 11) C B2 cl_L_10 it_X12 iz_X12 rfl in_13 tyX12_ok df_13 (by decide) rfl rfl (Nat.le_of_ble_eq_true rfl) (Nat.le_of_ble_eq_true rfl) dL_law_8 rfl (fun _ _ => trivial) (fun β3 y H3 f3 y3 w3 e3 B3 => ?_)
  have g3 : GC β3 := by rw [e3]; exact gc_nw p2.1.1 f3 (by decide)
  have k3 : hp_K β3 y = 113 := by rw [e3]; exact nw_k
  have z3 : ∀ φ, hp_I β3 φ y = 0 := fun φ => by rw [e3]; exact nw_i
  have hxy : x ≠ y := fun q => by rw [← q, p2.2.1] at f3; cases f3
  have s3 : sa β2 β3 x := by rw [e3]; exact sa_nw hxy
  have kx3 : hp_K β3 x = 12 := s3.1.trans p2.2.1
  refine lv_dup hx hb dL_law_11 rfl (hp_n (n := 12) rfl ?_)
  refine q_cv (pc' := 15) B3 (l_runI (As := []) (rest := [.ref y]) C B3 (u_X12_init Γ l β3 g3 y k3 z3) lb_X12_init rfl li_X12_init lk_L_12 (Nat.le_of_ble_eq_true rfl) (Nat.le_of_ble_eq_true rfl) ⟨Nat.le_of_ble_eq_true rfl, Nat.le_of_ble_eq_true rfl⟩ rfl hl.1 rfl (Nat.le_of_ble_eq_true rfl) dL_law_12) (fun _ _ => trivial) rfl (fun β4 H4 L4 p4 B4 => ?_)
  obtain ⟨g4, h4, ρ, σ, hM, hR, hσ⟩ := p4
  have hsC : ∀ q, hp_K β2 q ≠ 0 → saC β2 β4 q := fun q hq => by
    have hqy : q ≠ y := fun e => hq (by rw [e]; exact f3)
    have a1 : sa β2 β3 q := by rw [e3]; exact sa_nw hqy
    have a2 := h4 q hqy (by rw [a1.1]; exact hq)
    exact ⟨a2.1.trans a1.1, fun φ hφ => (a2.2.1 φ hφ).trans (a1.2.1 φ), fun φ => (a2.2.2.1 φ).trans (a1.2.2.2.1 φ), fun φ => (a2.2.2.2.1 φ).trans (a1.2.2.2.2.1 φ), fun κ j hκ => (a2.2.2.2.2.1 κ j hκ).trans (a1.2.2.2.2.2.1 κ j), fun κ j => (a2.2.2.2.2.2 κ j).trans (a1.2.2.2.2.2.2.2 κ j)⟩
  obtain ⟨kx4, ix4, rx4, nx4, -, -⟩ := h4 x hxy (by rw [kx3]; decide)
  refine lv_astore_n (lv' := [(2, .ref y), (1, .ref x), (0, .ref b)]) hx hb dL_law_15 rfl hl (by decide) rfl (fun ls hl => hp_n (n := 16) rfl ?_)
  refine lv_iconst (v := 0) hx hb dL_law_16 (by decide) (hp_n (n := 17) rfl ?_)
  refine lv_istore_n (lv' := [(3, .int 0), (2, .ref y), (1, .ref x), (0, .ref b)]) hx hb dL_law_17 rfl hl (by decide) rfl (fun ls hl => hp_n (n := 18) rfl ?_)
  refine W.widen (k := 977) (n := 17252) (Nat.le_of_ble_eq_true rfl) (Nat.le_of_ble_eq_true rfl) ?_
  have nx : hp_N β4 618 x = none := (nx4 618).trans ((s3.2.2.2.2.1 618).trans p2.2.2.2)
  exact l_loop C hX hbl hbA hL hAs hr hlocks _ β4 σ H4 L4 977 17252 ⟨⟨B4.1, B4.2.1, trivial⟩, g4, kx4.trans kx3, hM, hR, LX_C p2.1.1 p2.2.1 (by rw [hF]; exact LX_0 β1 x σ hR hσ) hsC, Or.inl ⟨nx, rfl, rfl⟩⟩ 0 (by decide) (by rw [show (0 : Int32).toInt = 0 from rfl]; omega) rfl ls (lv_sub hl [3, 2, 1, 0] rfl)
end JN11_5
