theorem kw_1961 : Cond.fieldLink RX12 26 "WordTongueModel" "names" "I" ∈ gWs := List.mem_filter.mpr ⟨gMt8 _ (List.mem_of_getElem? (i := 44) rfl), rfl⟩
theorem fl_X12_26 : gFL RX12 26 12 5 .int false := ⟨RX12, TX12, 119, tyX12, rfl, by decide, inW_RX12, kw_1961, tyX12_ok, nmX12, rfl, by decide +kernel, fun h => by cases h⟩
theorem kw_1962 : Cond.fieldLink RX12 29 "WordTongueModel" "nameAt" "[I" ∈ gWs := List.mem_filter.mpr ⟨gMt8 _ (List.mem_of_getElem? (i := 45) rfl), rfl⟩
theorem fl_X12_29 : gFL RX12 29 12 6 (.array .int) true := ⟨RX12, TX12, 119, tyX12, rfl, by decide, inW_RX12, kw_1962, tyX12_ok, nmX12, rfl, by decide +kernel, fun _ => rfl⟩
theorem kw_1963 : Cond.fieldLink RX12 33 "WordTongueModel" "nameLen" "[I" ∈ gWs := List.mem_filter.mpr ⟨gMt8 _ (List.mem_of_getElem? (i := 46) rfl), rfl⟩
theorem fl_X12_33 : gFL RX12 33 12 7 (.array .int) true := ⟨RX12, TX12, 119, tyX12, rfl, by decide, inW_RX12, kw_1963, tyX12_ok, nmX12, rfl, by decide +kernel, fun _ => rfl⟩
theorem kw_1959 : Cond.fieldLink RX12 20 "WordTongueModel" "src" "[B" ∈ gWs := List.mem_filter.mpr ⟨gMt8 _ (List.mem_of_getElem? (i := 42) rfl), rfl⟩
theorem fl_X12_20 : gFL RX12 20 12 3 (.array .byte) true := ⟨RX12, TX12, 119, tyX12, rfl, by decide, inW_RX12, kw_1959, tyX12_ok, nmX12, rfl, by decide +kernel, fun _ => rfl⟩
theorem kw_2356 : Cond.constantLong RX12 375 78393072828748 ∈ gWs := List.mem_filter.mpr ⟨gMt9 _ (List.mem_of_getElem? (i := 199) rfl), rfl⟩
theorem kw_2360 : Cond.code yX12_isText cX12_isText 12 (some .boolean) ∈ gWs := List.mem_filter.mpr ⟨gMt9 _ (List.mem_of_getElem? (i := 203) rfl), rfl⟩
theorem kw_2357 : Cond.methodLink RX12 377 yX12_isText ∈ gWs := List.mem_filter.mpr ⟨gMt9 _ (List.mem_of_getElem? (i := 200) rfl), rfl⟩
theorem kw_2359 : Cond.instanceMethod yX12_isText ∈ gWs := List.mem_filter.mpr ⟨gMt9 _ (List.mem_of_getElem? (i := 202) rfl), rfl⟩
theorem kw_128 : Cond.selects RX12 yX12_isText yX12_isText ∈ gWs := gWm 128 (by decide +kernel) rfl
theorem cl_X12_377 : gCV RX12 377 yX12_isText cX12_isText 12 (some .boolean) 4 := ⟨g_mk [.methodLink RX12 377 yX12_isText, .instanceMethod yX12_isText, .selects yX12_isText.cls yX12_isText yX12_isText, .initialized yX12_isText.cls] (gWs_all kw_2360) (List.forall_mem_cons.mpr ⟨kw_2357, List.forall_mem_cons.mpr ⟨kw_2359, List.forall_mem_cons.mpr ⟨kw_128, List.forall_mem_cons.mpr ⟨kw_257, fun _ h => nomatch h⟩⟩⟩⟩), rfl, by decide +kernel, by decide +kernel, by decide +kernel⟩
theorem kw_2361 : Cond.constantLong RX12 381 5566816691025171284 ∈ gWs := List.mem_filter.mpr ⟨gMt9 _ (List.mem_of_getElem? (i := 204) rfl), rfl⟩
theorem kw_2362 : Cond.constantLong RX12 383 91621338401091 ∈ gWs := List.mem_filter.mpr ⟨gMt9 _ (List.mem_of_getElem? (i := 205) rfl), rfl⟩
theorem kw_2363 : Cond.constantLong RX12 385 4998484 ∈ gWs := List.mem_filter.mpr ⟨gMt9 _ (List.mem_of_getElem? (i := 206) rfl), rfl⟩
theorem kw_2364 : Cond.constantLong RX12 387 4279876 ∈ gWs := List.mem_filter.mpr ⟨gMt9 _ (List.mem_of_getElem? (i := 207) rfl), rfl⟩
theorem kw_2365 : Cond.constantLong RX12 389 16965 ∈ gWs := List.mem_filter.mpr ⟨gMt9 _ (List.mem_of_getElem? (i := 208) rfl), rfl⟩
theorem kw_2366 : Cond.constantLong RX12 391 5653827 ∈ gWs := List.mem_filter.mpr ⟨gMt9 _ (List.mem_of_getElem? (i := 209) rfl), rfl⟩
theorem kw_2367 : Cond.constantLong RX12 393 18758 ∈ gWs := List.mem_filter.mpr ⟨gMt9 _ (List.mem_of_getElem? (i := 210) rfl), rfl⟩
theorem kw_2368 : Cond.constantLong RX12 395 17487 ∈ gWs := List.mem_filter.mpr ⟨gMt9 _ (List.mem_of_getElem? (i := 211) rfl), rfl⟩
theorem kw_2369 : Cond.constantLong RX12 397 93794775421779 ∈ gWs := List.mem_filter.mpr ⟨gMt9 _ (List.mem_of_getElem? (i := 212) rfl), rfl⟩
theorem kw_2370 : Cond.constantLong RX12 399 1413829460 ∈ gWs := List.mem_filter.mpr ⟨gMt9 _ (List.mem_of_getElem? (i := 213) rfl), rfl⟩
theorem kw_2371 : Cond.constantLong RX12 401 20306 ∈ gWs := List.mem_filter.mpr ⟨gMt9 _ (List.mem_of_getElem? (i := 214) rfl), rfl⟩
theorem kw_2372 : Cond.constantLong RX12 403 374874917957 ∈ gWs := List.mem_filter.mpr ⟨gMt9 _ (List.mem_of_getElem? (i := 215) rfl), rfl⟩
theorem kw_2373 : Cond.constantLong RX12 405 366386366796 ∈ gWs := List.mem_filter.mpr ⟨gMt9 _ (List.mem_of_getElem? (i := 216) rfl), rfl⟩
theorem kw_2374 : Cond.constantLong RX12 407 4607826 ∈ gWs := List.mem_filter.mpr ⟨gMt9 _ (List.mem_of_getElem? (i := 217) rfl), rfl⟩
theorem kw_2375 : Cond.constantLong RX12 409 21583 ∈ gWs := List.mem_filter.mpr ⟨gMt9 _ (List.mem_of_getElem? (i := 218) rfl), rfl⟩
theorem kw_2376 : Cond.constantLong RX12 411 16985 ∈ gWs := List.mem_filter.mpr ⟨gMt9 _ (List.mem_of_getElem? (i := 219) rfl), rfl⟩
theorem kw_2377 : Cond.constantLong RX12 413 6005349254376738638 ∈ gWs := List.mem_filter.mpr ⟨gMt9 _ (List.mem_of_getElem? (i := 220) rfl), rfl⟩
theorem kw_2378 : Cond.constantLong RX12 415 1229870159 ∈ gWs := List.mem_filter.mpr ⟨gMt9 _ (List.mem_of_getElem? (i := 221) rfl), rfl⟩
theorem kw_2379 : Cond.constantLong RX12 417 1128354629 ∈ gWs := List.mem_filter.mpr ⟨gMt9 _ (List.mem_of_getElem? (i := 222) rfl), rfl⟩
theorem kw_2380 : Cond.constantLong RX12 419 19216466462461012 ∈ gWs := List.mem_filter.mpr ⟨gMt9 _ (List.mem_of_getElem? (i := 223) rfl), rfl⟩
theorem kw_2381 : Cond.constantLong RX12 421 284848111947 ∈ gWs := List.mem_filter.mpr ⟨gMt9 _ (List.mem_of_getElem? (i := 224) rfl), rfl⟩
theorem kw_2382 : Cond.constantLong RX12 423 1280266064 ∈ gWs := List.mem_filter.mpr ⟨gMt9 _ (List.mem_of_getElem? (i := 225) rfl), rfl⟩
theorem kw_2383 : Cond.constantLong RX12 425 19507828486132549 ∈ gWs := List.mem_filter.mpr ⟨gMt9 _ (List.mem_of_getElem? (i := 226) rfl), rfl⟩
theorem kw_2384 : Cond.constantLong RX12 427 90457721098830 ∈ gWs := List.mem_filter.mpr ⟨gMt9 _ (List.mem_of_getElem? (i := 227) rfl), rfl⟩
theorem kw_2385 : Cond.constantLong RX12 429 5928236110321043795 ∈ gWs := List.mem_filter.mpr ⟨gMt9 _ (List.mem_of_getElem? (i := 228) rfl), rfl⟩
theorem kw_2386 : Cond.constantLong RX12 431 77280659985224 ∈ gWs := List.mem_filter.mpr ⟨gMt9 _ (List.mem_of_getElem? (i := 229) rfl), rfl⟩
theorem kw_2387 : Cond.constantLong RX12 433 1196381263 ∈ gWs := List.mem_filter.mpr ⟨gMt9 _ (List.mem_of_getElem? (i := 230) rfl), rfl⟩
theorem kw_2388 : Cond.constantLong RX12 435 90457652937044 ∈ gWs := List.mem_filter.mpr ⟨gMt9 _ (List.mem_of_getElem? (i := 231) rfl), rfl⟩
theorem kw_2389 : Cond.constantLong RX12 437 5928232742882137928 ∈ gWs := List.mem_filter.mpr ⟨gMt9 _ (List.mem_of_getElem? (i := 232) rfl), rfl⟩
theorem kw_2390 : Cond.constantLong RX12 439 4803653 ∈ gWs := List.mem_filter.mpr ⟨gMt9 _ (List.mem_of_getElem? (i := 233) rfl), rfl⟩
theorem kw_2391 : Cond.constantLong RX12 441 5928232742882137422 ∈ gWs := List.mem_filter.mpr ⟨gMt9 _ (List.mem_of_getElem? (i := 234) rfl), rfl⟩
theorem kw_2392 : Cond.constantLong RX12 443 5523788 ∈ gWs := List.mem_filter.mpr ⟨gMt9 _ (List.mem_of_getElem? (i := 235) rfl), rfl⟩
theorem kw_2393 : Cond.constantLong RX12 445 4542806 ∈ gWs := List.mem_filter.mpr ⟨gMt9 _ (List.mem_of_getElem? (i := 236) rfl), rfl⟩
theorem kw_2394 : Cond.constantLong RX12 447 1313165654 ∈ gWs := List.mem_filter.mpr ⟨gMt9 _ (List.mem_of_getElem? (i := 237) rfl), rfl⟩
theorem kw_2395 : Cond.constantLong RX12 449 5391693 ∈ gWs := List.mem_filter.mpr ⟨gMt9 _ (List.mem_of_getElem? (i := 238) rfl), rfl⟩
theorem kw_2396 : Cond.constantLong RX12 451 1414681925 ∈ gWs := List.mem_filter.mpr ⟨gMt9 _ (List.mem_of_getElem? (i := 239) rfl), rfl⟩
theorem kw_2397 : Cond.constantLong RX12 453 301743231813 ∈ gWs := List.mem_filter.mpr ⟨gMt10 _ (List.mem_of_getElem? (i := 0) rfl), rfl⟩
theorem kw_2398 : Cond.constantLong RX12 455 370462707526 ∈ gWs := List.mem_filter.mpr ⟨gMt10 _ (List.mem_of_getElem? (i := 1) rfl), rfl⟩
theorem kw_2399 : Cond.constantLong RX12 457 361872116805 ∈ gWs := List.mem_filter.mpr ⟨gMt10 _ (List.mem_of_getElem? (i := 2) rfl), rfl⟩
theorem kw_2400 : Cond.constantLong RX12 459 4670804 ∈ gWs := List.mem_filter.mpr ⟨gMt10 _ (List.mem_of_getElem? (i := 3) rfl), rfl⟩
theorem kw_2401 : Cond.constantLong RX12 461 1414022478 ∈ gWs := List.mem_filter.mpr ⟨gMt10 _ (List.mem_of_getElem? (i := 4) rfl), rfl⟩
theorem kw_2402 : Cond.constantLong RX12 463 1162629957 ∈ gWs := List.mem_filter.mpr ⟨gMt10 _ (List.mem_of_getElem? (i := 5) rfl), rfl⟩
theorem kw_2403 : Cond.constantLong RX12 465 5132116 ∈ gWs := List.mem_filter.mpr ⟨gMt10 _ (List.mem_of_getElem? (i := 6) rfl), rfl⟩
theorem kw_2345 : Cond.code yX12_isLetter cX12_isLetter 1 (some .boolean) ∈ gWs := List.mem_filter.mpr ⟨gMt9 _ (List.mem_of_getElem? (i := 188) rfl), rfl⟩
theorem kw_2343 : Cond.methodLink RX12 467 yX12_isLetter ∈ gWs := List.mem_filter.mpr ⟨gMt9 _ (List.mem_of_getElem? (i := 186) rfl), rfl⟩
theorem kw_2344 : Cond.static yX12_isLetter ∈ gWs := List.mem_filter.mpr ⟨gMt9 _ (List.mem_of_getElem? (i := 187) rfl), rfl⟩
theorem cl_X12_467 : gCS RX12 467 yX12_isLetter cX12_isLetter 1 (some .boolean) 1 := ⟨g_mk [.methodLink RX12 467 yX12_isLetter, .static yX12_isLetter, .initialized yX12_isLetter.cls] (gWs_all kw_2345) (List.forall_mem_cons.mpr ⟨kw_2343, List.forall_mem_cons.mpr ⟨kw_2344, List.forall_mem_cons.mpr ⟨kw_257, fun _ h => nomatch h⟩⟩⟩), ⟨by decide +kernel, by decide +kernel, by decide +kernel⟩⟩
theorem kw_2351 : Cond.code yX12_isDigit cX12_isDigit 1 (some .boolean) ∈ gWs := List.mem_filter.mpr ⟨gMt9 _ (List.mem_of_getElem? (i := 194) rfl), rfl⟩
theorem kw_2349 : Cond.methodLink RX12 471 yX12_isDigit ∈ gWs := List.mem_filter.mpr ⟨gMt9 _ (List.mem_of_getElem? (i := 192) rfl), rfl⟩
theorem kw_2350 : Cond.static yX12_isDigit ∈ gWs := List.mem_filter.mpr ⟨gMt9 _ (List.mem_of_getElem? (i := 193) rfl), rfl⟩
theorem cl_X12_471 : gCS RX12 471 yX12_isDigit cX12_isDigit 1 (some .boolean) 1 := ⟨g_mk [.methodLink RX12 471 yX12_isDigit, .static yX12_isDigit, .initialized yX12_isDigit.cls] (gWs_all kw_2351) (List.forall_mem_cons.mpr ⟨kw_2349, List.forall_mem_cons.mpr ⟨kw_2350, List.forall_mem_cons.mpr ⟨kw_257, fun _ h => nomatch h⟩⟩⟩), ⟨by decide +kernel, by decide +kernel, by decide +kernel⟩⟩
theorem kw_1960 : Cond.fieldLink RX12 23 "WordTongueModel" "srcLen" "I" ∈ gWs := List.mem_filter.mpr ⟨gMt8 _ (List.mem_of_getElem? (i := 43) rfl), rfl⟩
theorem fl_X12_23 : gFL RX12 23 12 4 .int false := ⟨RX12, TX12, 119, tyX12, rfl, by decide, inW_RX12, kw_1960, tyX12_ok, nmX12, rfl, by decide +kernel, fun h => by cases h⟩
theorem kw_2420 : Cond.code yX12_isDoless cX12_isDoless 1 (some .boolean) ∈ gWs := List.mem_filter.mpr ⟨gMt10 _ (List.mem_of_getElem? (i := 23) rfl), rfl⟩
theorem kw_2418 : Cond.methodLink RX12 474 yX12_isDoless ∈ gWs := List.mem_filter.mpr ⟨gMt10 _ (List.mem_of_getElem? (i := 21) rfl), rfl⟩
theorem kw_2419 : Cond.static yX12_isDoless ∈ gWs := List.mem_filter.mpr ⟨gMt10 _ (List.mem_of_getElem? (i := 22) rfl), rfl⟩
theorem cl_X12_474 : gCS RX12 474 yX12_isDoless cX12_isDoless 1 (some .boolean) 1 := ⟨g_mk [.methodLink RX12 474 yX12_isDoless, .static yX12_isDoless, .initialized yX12_isDoless.cls] (gWs_all kw_2420) (List.forall_mem_cons.mpr ⟨kw_2418, List.forall_mem_cons.mpr ⟨kw_2419, List.forall_mem_cons.mpr ⟨kw_257, fun _ h => nomatch h⟩⟩⟩), ⟨by decide +kernel, by decide +kernel, by decide +kernel⟩⟩
theorem kw_1964 : Cond.fieldLink RX12 36 "WordTongueModel" "tokens" "I" ∈ gWs := List.mem_filter.mpr ⟨gMt8 _ (List.mem_of_getElem? (i := 47) rfl), rfl⟩
theorem fl_X12_36 : gFL RX12 36 12 8 .int false := ⟨RX12, TX12, 119, tyX12, rfl, by decide, inW_RX12, kw_1964, tyX12_ok, nmX12, rfl, by decide +kernel, fun h => by cases h⟩
theorem kw_1965 : Cond.fieldLink RX12 39 "WordTongueModel" "tKind" "[I" ∈ gWs := List.mem_filter.mpr ⟨gMt8 _ (List.mem_of_getElem? (i := 48) rfl), rfl⟩
theorem fl_X12_39 : gFL RX12 39 12 9 (.array .int) true := ⟨RX12, TX12, 119, tyX12, rfl, by decide, inW_RX12, kw_1965, tyX12_ok, nmX12, rfl, by decide +kernel, fun _ => rfl⟩
theorem kw_1966 : Cond.fieldLink RX12 42 "WordTongueModel" "tAt" "[I" ∈ gWs := List.mem_filter.mpr ⟨gMt8 _ (List.mem_of_getElem? (i := 49) rfl), rfl⟩
theorem fl_X12_42 : gFL RX12 42 12 10 (.array .int) true := ⟨RX12, TX12, 119, tyX12, rfl, by decide, inW_RX12, kw_1966, tyX12_ok, nmX12, rfl, by decide +kernel, fun _ => rfl⟩
theorem kw_1967 : Cond.fieldLink RX12 45 "WordTongueModel" "tValue" "[I" ∈ gWs := List.mem_filter.mpr ⟨gMt8 _ (List.mem_of_getElem? (i := 50) rfl), rfl⟩
theorem fl_X12_45 : gFL RX12 45 12 11 (.array .int) true := ⟨RX12, TX12, 119, tyX12, rfl, by decide, inW_RX12, kw_1967, tyX12_ok, nmX12, rfl, by decide +kernel, fun _ => rfl⟩
theorem kw_1975 : Cond.fieldLink RX12 69 "WordTongueModel" "line" "I" ∈ gWs := List.mem_filter.mpr ⟨gMt8 _ (List.mem_of_getElem? (i := 58) rfl), rfl⟩
theorem fl_X12_69 : gFL RX12 69 12 19 .int false := ⟨RX12, TX12, 119, tyX12, rfl, by decide, inW_RX12, kw_1975, tyX12_ok, nmX12, rfl, by decide +kernel, fun h => by cases h⟩
theorem kw_1976 : Cond.fieldLink RX12 72 "WordTongueModel" "lastLine" "I" ∈ gWs := List.mem_filter.mpr ⟨gMt8 _ (List.mem_of_getElem? (i := 59) rfl), rfl⟩
theorem fl_X12_72 : gFL RX12 72 12 20 .int false := ⟨RX12, TX12, 119, tyX12, rfl, by decide, inW_RX12, kw_1976, tyX12_ok, nmX12, rfl, by decide +kernel, fun h => by cases h⟩
theorem kw_2414 : Cond.code yX12_endsLine cX12_endsLine 1 (some .boolean) ∈ gWs := List.mem_filter.mpr ⟨gMt10 _ (List.mem_of_getElem? (i := 17) rfl), rfl⟩
theorem kw_2412 : Cond.methodLink RX12 477 yX12_endsLine ∈ gWs := List.mem_filter.mpr ⟨gMt10 _ (List.mem_of_getElem? (i := 15) rfl), rfl⟩
theorem kw_2413 : Cond.static yX12_endsLine ∈ gWs := List.mem_filter.mpr ⟨gMt10 _ (List.mem_of_getElem? (i := 16) rfl), rfl⟩
theorem cl_X12_477 : gCS RX12 477 yX12_endsLine cX12_endsLine 1 (some .boolean) 1 := ⟨g_mk [.methodLink RX12 477 yX12_endsLine, .static yX12_endsLine, .initialized yX12_endsLine.cls] (gWs_all kw_2414) (List.forall_mem_cons.mpr ⟨kw_2412, List.forall_mem_cons.mpr ⟨kw_2413, List.forall_mem_cons.mpr ⟨kw_257, fun _ h => nomatch h⟩⟩⟩), ⟨by decide +kernel, by decide +kernel, by decide +kernel⟩⟩
theorem kw_2417 : Cond.code yX12_isBeginning cX12_isBeginning 1 (some .boolean) ∈ gWs := List.mem_filter.mpr ⟨gMt10 _ (List.mem_of_getElem? (i := 20) rfl), rfl⟩
theorem kw_2415 : Cond.methodLink RX12 480 yX12_isBeginning ∈ gWs := List.mem_filter.mpr ⟨gMt10 _ (List.mem_of_getElem? (i := 18) rfl), rfl⟩
theorem kw_2416 : Cond.static yX12_isBeginning ∈ gWs := List.mem_filter.mpr ⟨gMt10 _ (List.mem_of_getElem? (i := 19) rfl), rfl⟩
theorem cl_X12_480 : gCS RX12 480 yX12_isBeginning cX12_isBeginning 1 (some .boolean) 1 := ⟨g_mk [.methodLink RX12 480 yX12_isBeginning, .static yX12_isBeginning, .initialized yX12_isBeginning.cls] (gWs_all kw_2417) (List.forall_mem_cons.mpr ⟨kw_2415, List.forall_mem_cons.mpr ⟨kw_2416, List.forall_mem_cons.mpr ⟨kw_257, fun _ h => nomatch h⟩⟩⟩), ⟨by decide +kernel, by decide +kernel, by decide +kernel⟩⟩
theorem kw_2334 : Cond.code yX12_look cX12_look 2 (some .int) ∈ gWs := List.mem_filter.mpr ⟨gMt9 _ (List.mem_of_getElem? (i := 177) rfl), rfl⟩
theorem kw_2331 : Cond.methodLink RX12 483 yX12_look ∈ gWs := List.mem_filter.mpr ⟨gMt9 _ (List.mem_of_getElem? (i := 174) rfl), rfl⟩
theorem kw_2333 : Cond.instanceMethod yX12_look ∈ gWs := List.mem_filter.mpr ⟨gMt9 _ (List.mem_of_getElem? (i := 176) rfl), rfl⟩
theorem kw_124 : Cond.selects RX12 yX12_look yX12_look ∈ gWs := gWm 124 (by decide +kernel) rfl
theorem cl_X12_483 : gCV RX12 483 yX12_look cX12_look 2 (some .int) 1 := ⟨g_mk [.methodLink RX12 483 yX12_look, .instanceMethod yX12_look, .selects yX12_look.cls yX12_look yX12_look, .initialized yX12_look.cls] (gWs_all kw_2334) (List.forall_mem_cons.mpr ⟨kw_2331, List.forall_mem_cons.mpr ⟨kw_2333, List.forall_mem_cons.mpr ⟨kw_124, List.forall_mem_cons.mpr ⟨kw_257, fun _ h => nomatch h⟩⟩⟩⟩), rfl, by decide +kernel, by decide +kernel, by decide +kernel⟩
theorem kw_1977 : Cond.fieldLink RX12 75 "WordTongueModel" "cValue" "I" ∈ gWs := List.mem_filter.mpr ⟨gMt8 _ (List.mem_of_getElem? (i := 60) rfl), rfl⟩
theorem fl_X12_75 : gFL RX12 75 12 21 .int false := ⟨RX12, TX12, 119, tyX12, rfl, by decide, inW_RX12, kw_1977, tyX12_ok, nmX12, rfl, by decide +kernel, fun h => by cases h⟩
theorem kw_1971 : Cond.fieldLink RX12 57 "WordTongueModel" "strsLen" "I" ∈ gWs := List.mem_filter.mpr ⟨gMt8 _ (List.mem_of_getElem? (i := 54) rfl), rfl⟩
theorem fl_X12_57 : gFL RX12 57 12 15 .int false := ⟨RX12, TX12, 119, tyX12, rfl, by decide, inW_RX12, kw_1971, tyX12_ok, nmX12, rfl, by decide +kernel, fun h => by cases h⟩
theorem kw_1972 : Cond.fieldLink RX12 60 "WordTongueModel" "strAt" "[I" ∈ gWs := List.mem_filter.mpr ⟨gMt8 _ (List.mem_of_getElem? (i := 55) rfl), rfl⟩
theorem fl_X12_60 : gFL RX12 60 12 16 (.array .int) true := ⟨RX12, TX12, 119, tyX12, rfl, by decide, inW_RX12, kw_1972, tyX12_ok, nmX12, rfl, by decide +kernel, fun _ => rfl⟩
theorem kw_1974 : Cond.fieldLink RX12 66 "WordTongueModel" "strCount" "I" ∈ gWs := List.mem_filter.mpr ⟨gMt8 _ (List.mem_of_getElem? (i := 57) rfl), rfl⟩
theorem fl_X12_66 : gFL RX12 66 12 18 .int false := ⟨RX12, TX12, 119, tyX12, rfl, by decide, inW_RX12, kw_1974, tyX12_ok, nmX12, rfl, by decide +kernel, fun h => by cases h⟩
theorem kw_1973 : Cond.fieldLink RX12 63 "WordTongueModel" "strLen" "[I" ∈ gWs := List.mem_filter.mpr ⟨gMt8 _ (List.mem_of_getElem? (i := 56) rfl), rfl⟩
theorem fl_X12_63 : gFL RX12 63 12 17 (.array .int) true := ⟨RX12, TX12, 119, tyX12, rfl, by decide, inW_RX12, kw_1973, tyX12_ok, nmX12, rfl, by decide +kernel, fun _ => rfl⟩
theorem kw_2429 : Cond.code yX12_oneC cX12_oneC 5 (some .int) ∈ gWs := List.mem_filter.mpr ⟨gMt10 _ (List.mem_of_getElem? (i := 32) rfl), rfl⟩
theorem kw_2426 : Cond.methodLink RX12 487 yX12_oneC ∈ gWs := List.mem_filter.mpr ⟨gMt10 _ (List.mem_of_getElem? (i := 29) rfl), rfl⟩
theorem kw_2428 : Cond.instanceMethod yX12_oneC ∈ gWs := List.mem_filter.mpr ⟨gMt10 _ (List.mem_of_getElem? (i := 31) rfl), rfl⟩
theorem kw_132 : Cond.selects RX12 yX12_oneC yX12_oneC ∈ gWs := gWm 132 (by decide +kernel) rfl
theorem cl_X12_487 : gCV RX12 487 yX12_oneC cX12_oneC 5 (some .int) 2 := ⟨g_mk [.methodLink RX12 487 yX12_oneC, .instanceMethod yX12_oneC, .selects yX12_oneC.cls yX12_oneC yX12_oneC, .initialized yX12_oneC.cls] (gWs_all kw_2429) (List.forall_mem_cons.mpr ⟨kw_2426, List.forall_mem_cons.mpr ⟨kw_2428, List.forall_mem_cons.mpr ⟨kw_132, List.forall_mem_cons.mpr ⟨kw_257, fun _ h => nomatch h⟩⟩⟩⟩), rfl, by decide +kernel, by decide +kernel, by decide +kernel⟩
theorem kw_1970 : Cond.fieldLink RX12 54 "WordTongueModel" "strs" "[B" ∈ gWs := List.mem_filter.mpr ⟨gMt8 _ (List.mem_of_getElem? (i := 53) rfl), rfl⟩
theorem fl_X12_54 : gFL RX12 54 12 14 (.array .byte) true := ⟨RX12, TX12, 119, tyX12, rfl, by decide, inW_RX12, kw_1970, tyX12_ok, nmX12, rfl, by decide +kernel, fun _ => rfl⟩
theorem kw_1978 : Cond.fieldLink RX12 78 "WordTongueModel" "number" "I" ∈ gWs := List.mem_filter.mpr ⟨gMt8 _ (List.mem_of_getElem? (i := 61) rfl), rfl⟩
theorem fl_X12_78 : gFL RX12 78 12 22 .int false := ⟨RX12, TX12, 119, tyX12, rfl, by decide, inW_RX12, kw_1978, tyX12_ok, nmX12, rfl, by decide +kernel, fun h => by cases h⟩
theorem kw_2425 : Cond.constantLong RX12 491 4294967296 ∈ gWs := List.mem_filter.mpr ⟨gMt10 _ (List.mem_of_getElem? (i := 28) rfl), rfl⟩
theorem kw_1979 : Cond.fieldLink RX12 81 "WordTongueModel" "signLen" "I" ∈ gWs := List.mem_filter.mpr ⟨gMt8 _ (List.mem_of_getElem? (i := 62) rfl), rfl⟩
theorem fl_X12_81 : gFL RX12 81 12 23 .int false := ⟨RX12, TX12, 119, tyX12, rfl, by decide, inW_RX12, kw_1979, tyX12_ok, nmX12, rfl, by decide +kernel, fun h => by cases h⟩
theorem kw_2338 : Cond.code yX12_isPair cX12_isPair 4 (some .boolean) ∈ gWs := List.mem_filter.mpr ⟨gMt9 _ (List.mem_of_getElem? (i := 181) rfl), rfl⟩
theorem kw_2335 : Cond.methodLink RX12 493 yX12_isPair ∈ gWs := List.mem_filter.mpr ⟨gMt9 _ (List.mem_of_getElem? (i := 178) rfl), rfl⟩
theorem kw_2337 : Cond.instanceMethod yX12_isPair ∈ gWs := List.mem_filter.mpr ⟨gMt9 _ (List.mem_of_getElem? (i := 180) rfl), rfl⟩
theorem kw_125 : Cond.selects RX12 yX12_isPair yX12_isPair ∈ gWs := gWm 125 (by decide +kernel) rfl
theorem cl_X12_493 : gCV RX12 493 yX12_isPair cX12_isPair 4 (some .boolean) 3 := ⟨g_mk [.methodLink RX12 493 yX12_isPair, .instanceMethod yX12_isPair, .selects yX12_isPair.cls yX12_isPair yX12_isPair, .initialized yX12_isPair.cls] (gWs_all kw_2338) (List.forall_mem_cons.mpr ⟨kw_2335, List.forall_mem_cons.mpr ⟨kw_2337, List.forall_mem_cons.mpr ⟨kw_125, List.forall_mem_cons.mpr ⟨kw_257, fun _ h => nomatch h⟩⟩⟩⟩), rfl, by decide +kernel, by decide +kernel, by decide +kernel⟩
theorem kw_2424 : Cond.code yX12_digits cX12_digits 9 (some .int) ∈ gWs := List.mem_filter.mpr ⟨gMt10 _ (List.mem_of_getElem? (i := 27) rfl), rfl⟩
theorem kw_2421 : Cond.methodLink RX12 513 yX12_digits ∈ gWs := List.mem_filter.mpr ⟨gMt10 _ (List.mem_of_getElem? (i := 24) rfl), rfl⟩
theorem kw_2423 : Cond.instanceMethod yX12_digits ∈ gWs := List.mem_filter.mpr ⟨gMt10 _ (List.mem_of_getElem? (i := 26) rfl), rfl⟩
theorem kw_131 : Cond.selects RX12 yX12_digits yX12_digits ∈ gWs := gWm 131 (by decide +kernel) rfl
theorem cl_X12_513 : gCV RX12 513 yX12_digits cX12_digits 9 (some .int) 2 := ⟨g_mk [.methodLink RX12 513 yX12_digits, .instanceMethod yX12_digits, .selects yX12_digits.cls yX12_digits yX12_digits, .initialized yX12_digits.cls] (gWs_all kw_2424) (List.forall_mem_cons.mpr ⟨kw_2421, List.forall_mem_cons.mpr ⟨kw_2423, List.forall_mem_cons.mpr ⟨kw_131, List.forall_mem_cons.mpr ⟨kw_257, fun _ h => nomatch h⟩⟩⟩⟩), rfl, by decide +kernel, by decide +kernel, by decide +kernel⟩
theorem kw_2411 : Cond.code yX12_token cX12_token 4 none ∈ gWs := List.mem_filter.mpr ⟨gMt10 _ (List.mem_of_getElem? (i := 14) rfl), rfl⟩
theorem kw_2408 : Cond.methodLink RX12 509 yX12_token ∈ gWs := List.mem_filter.mpr ⟨gMt10 _ (List.mem_of_getElem? (i := 11) rfl), rfl⟩
theorem kw_2410 : Cond.instanceMethod yX12_token ∈ gWs := List.mem_filter.mpr ⟨gMt10 _ (List.mem_of_getElem? (i := 13) rfl), rfl⟩
theorem kw_130 : Cond.selects RX12 yX12_token yX12_token ∈ gWs := gWm 130 (by decide +kernel) rfl
theorem cl_X12_509 : gCV RX12 509 yX12_token cX12_token 4 none 3 := ⟨g_mk [.methodLink RX12 509 yX12_token, .instanceMethod yX12_token, .selects yX12_token.cls yX12_token yX12_token, .initialized yX12_token.cls] (gWs_all kw_2411) (List.forall_mem_cons.mpr ⟨kw_2408, List.forall_mem_cons.mpr ⟨kw_2410, List.forall_mem_cons.mpr ⟨kw_130, List.forall_mem_cons.mpr ⟨kw_257, fun _ h => nomatch h⟩⟩⟩⟩), rfl, by decide +kernel, by decide +kernel, by decide +kernel⟩
theorem kw_2437 : Cond.code yX12_signAt cX12_signAt 3 (some .int) ∈ gWs := List.mem_filter.mpr ⟨gMt10 _ (List.mem_of_getElem? (i := 40) rfl), rfl⟩
theorem kw_2434 : Cond.methodLink RX12 519 yX12_signAt ∈ gWs := List.mem_filter.mpr ⟨gMt10 _ (List.mem_of_getElem? (i := 37) rfl), rfl⟩
theorem kw_2436 : Cond.instanceMethod yX12_signAt ∈ gWs := List.mem_filter.mpr ⟨gMt10 _ (List.mem_of_getElem? (i := 39) rfl), rfl⟩
theorem kw_134 : Cond.selects RX12 yX12_signAt yX12_signAt ∈ gWs := gWm 134 (by decide +kernel) rfl
theorem cl_X12_519 : gCV RX12 519 yX12_signAt cX12_signAt 3 (some .int) 1 := ⟨g_mk [.methodLink RX12 519 yX12_signAt, .instanceMethod yX12_signAt, .selects yX12_signAt.cls yX12_signAt yX12_signAt, .initialized yX12_signAt.cls] (gWs_all kw_2437) (List.forall_mem_cons.mpr ⟨kw_2434, List.forall_mem_cons.mpr ⟨kw_2436, List.forall_mem_cons.mpr ⟨kw_134, List.forall_mem_cons.mpr ⟨kw_257, fun _ h => nomatch h⟩⟩⟩⟩), rfl, by decide +kernel, by decide +kernel, by decide +kernel⟩
theorem kw_2348 : Cond.code yX12_isRest cX12_isRest 1 (some .boolean) ∈ gWs := List.mem_filter.mpr ⟨gMt9 _ (List.mem_of_getElem? (i := 191) rfl), rfl⟩
theorem kw_2346 : Cond.methodLink RX12 500 yX12_isRest ∈ gWs := List.mem_filter.mpr ⟨gMt9 _ (List.mem_of_getElem? (i := 189) rfl), rfl⟩
theorem kw_2347 : Cond.static yX12_isRest ∈ gWs := List.mem_filter.mpr ⟨gMt9 _ (List.mem_of_getElem? (i := 190) rfl), rfl⟩
theorem cl_X12_500 : gCS RX12 500 yX12_isRest cX12_isRest 1 (some .boolean) 1 := ⟨g_mk [.methodLink RX12 500 yX12_isRest, .static yX12_isRest, .initialized yX12_isRest.cls] (gWs_all kw_2348) (List.forall_mem_cons.mpr ⟨kw_2346, List.forall_mem_cons.mpr ⟨kw_2347, List.forall_mem_cons.mpr ⟨kw_257, fun _ h => nomatch h⟩⟩⟩), ⟨by decide +kernel, by decide +kernel, by decide +kernel⟩⟩
theorem kw_2407 : Cond.code yX12_nameOf cX12_nameOf 6 (some .int) ∈ gWs := List.mem_filter.mpr ⟨gMt10 _ (List.mem_of_getElem? (i := 10) rfl), rfl⟩
theorem kw_2404 : Cond.methodLink RX12 506 yX12_nameOf ∈ gWs := List.mem_filter.mpr ⟨gMt10 _ (List.mem_of_getElem? (i := 7) rfl), rfl⟩
theorem kw_2406 : Cond.instanceMethod yX12_nameOf ∈ gWs := List.mem_filter.mpr ⟨gMt10 _ (List.mem_of_getElem? (i := 9) rfl), rfl⟩
theorem kw_129 : Cond.selects RX12 yX12_nameOf yX12_nameOf ∈ gWs := gWm 129 (by decide +kernel) rfl
theorem cl_X12_506 : gCV RX12 506 yX12_nameOf cX12_nameOf 6 (some .int) 2 := ⟨g_mk [.methodLink RX12 506 yX12_nameOf, .instanceMethod yX12_nameOf, .selects yX12_nameOf.cls yX12_nameOf yX12_nameOf, .initialized yX12_nameOf.cls] (gWs_all kw_2407) (List.forall_mem_cons.mpr ⟨kw_2404, List.forall_mem_cons.mpr ⟨kw_2406, List.forall_mem_cons.mpr ⟨kw_129, List.forall_mem_cons.mpr ⟨kw_257, fun _ h => nomatch h⟩⟩⟩⟩), rfl, by decide +kernel, by decide +kernel, by decide +kernel⟩
theorem kw_2433 : Cond.code yX12_stringAt cX12_stringAt 5 (some .int) ∈ gWs := List.mem_filter.mpr ⟨gMt10 _ (List.mem_of_getElem? (i := 36) rfl), rfl⟩
theorem kw_2430 : Cond.methodLink RX12 516 yX12_stringAt ∈ gWs := List.mem_filter.mpr ⟨gMt10 _ (List.mem_of_getElem? (i := 33) rfl), rfl⟩
theorem kw_2432 : Cond.instanceMethod yX12_stringAt ∈ gWs := List.mem_filter.mpr ⟨gMt10 _ (List.mem_of_getElem? (i := 35) rfl), rfl⟩
theorem kw_133 : Cond.selects RX12 yX12_stringAt yX12_stringAt ∈ gWs := gWm 133 (by decide +kernel) rfl
theorem cl_X12_516 : gCV RX12 516 yX12_stringAt cX12_stringAt 5 (some .int) 1 := ⟨g_mk [.methodLink RX12 516 yX12_stringAt, .instanceMethod yX12_stringAt, .selects yX12_stringAt.cls yX12_stringAt yX12_stringAt, .initialized yX12_stringAt.cls] (gWs_all kw_2433) (List.forall_mem_cons.mpr ⟨kw_2430, List.forall_mem_cons.mpr ⟨kw_2432, List.forall_mem_cons.mpr ⟨kw_133, List.forall_mem_cons.mpr ⟨kw_257, fun _ h => nomatch h⟩⟩⟩⟩), rfl, by decide +kernel, by decide +kernel, by decide +kernel⟩
theorem kw_2355 : Cond.code yX12_keyword cX12_keyword 3 (some .int) ∈ gWs := List.mem_filter.mpr ⟨gMt9 _ (List.mem_of_getElem? (i := 198) rfl), rfl⟩
theorem kw_2352 : Cond.methodLink RX12 503 yX12_keyword ∈ gWs := List.mem_filter.mpr ⟨gMt9 _ (List.mem_of_getElem? (i := 195) rfl), rfl⟩
theorem kw_2354 : Cond.instanceMethod yX12_keyword ∈ gWs := List.mem_filter.mpr ⟨gMt9 _ (List.mem_of_getElem? (i := 197) rfl), rfl⟩
theorem kw_127 : Cond.selects RX12 yX12_keyword yX12_keyword ∈ gWs := gWm 127 (by decide +kernel) rfl
theorem cl_X12_503 : gCV RX12 503 yX12_keyword cX12_keyword 3 (some .int) 2 := ⟨g_mk [.methodLink RX12 503 yX12_keyword, .instanceMethod yX12_keyword, .selects yX12_keyword.cls yX12_keyword yX12_keyword, .initialized yX12_keyword.cls] (gWs_all kw_2355) (List.forall_mem_cons.mpr ⟨kw_2352, List.forall_mem_cons.mpr ⟨kw_2354, List.forall_mem_cons.mpr ⟨kw_127, List.forall_mem_cons.mpr ⟨kw_257, fun _ h => nomatch h⟩⟩⟩⟩), rfl, by decide +kernel, by decide +kernel, by decide +kernel⟩
theorem kw_2342 : Cond.code yX12_one cX12_one 6 (some .int) ∈ gWs := List.mem_filter.mpr ⟨gMt9 _ (List.mem_of_getElem? (i := 185) rfl), rfl⟩
theorem kw_2339 : Cond.methodLink RX12 497 yX12_one ∈ gWs := List.mem_filter.mpr ⟨gMt9 _ (List.mem_of_getElem? (i := 182) rfl), rfl⟩
theorem kw_2341 : Cond.instanceMethod yX12_one ∈ gWs := List.mem_filter.mpr ⟨gMt9 _ (List.mem_of_getElem? (i := 184) rfl), rfl⟩
theorem kw_126 : Cond.selects RX12 yX12_one yX12_one ∈ gWs := gWm 126 (by decide +kernel) rfl
theorem cl_X12_497 : gCV RX12 497 yX12_one cX12_one 6 (some .int) 2 := ⟨g_mk [.methodLink RX12 497 yX12_one, .instanceMethod yX12_one, .selects yX12_one.cls yX12_one yX12_one, .initialized yX12_one.cls] (gWs_all kw_2342) (List.forall_mem_cons.mpr ⟨kw_2339, List.forall_mem_cons.mpr ⟨kw_2341, List.forall_mem_cons.mpr ⟨kw_126, List.forall_mem_cons.mpr ⟨kw_257, fun _ h => nomatch h⟩⟩⟩⟩), rfl, by decide +kernel, by decide +kernel, by decide +kernel⟩
theorem kw_1980 : Cond.fieldLink RX12 84 "WordTongueModel" "nodes" "I" ∈ gWs := List.mem_filter.mpr ⟨gMt8 _ (List.mem_of_getElem? (i := 63) rfl), rfl⟩
theorem fl_X12_84 : gFL RX12 84 12 24 .int false := ⟨RX12, TX12, 119, tyX12, rfl, by decide, inW_RX12, kw_1980, tyX12_ok, nmX12, rfl, by decide +kernel, fun h => by cases h⟩
theorem kw_1981 : Cond.fieldLink RX12 87 "WordTongueModel" "nKind" "[B" ∈ gWs := List.mem_filter.mpr ⟨gMt8 _ (List.mem_of_getElem? (i := 64) rfl), rfl⟩
theorem fl_X12_87 : gFL RX12 87 12 25 (.array .byte) true := ⟨RX12, TX12, 119, tyX12, rfl, by decide, inW_RX12, kw_1981, tyX12_ok, nmX12, rfl, by decide +kernel, fun _ => rfl⟩
theorem kw_1982 : Cond.fieldLink RX12 90 "WordTongueModel" "nTok" "[I" ∈ gWs := List.mem_filter.mpr ⟨gMt8 _ (List.mem_of_getElem? (i := 65) rfl), rfl⟩
theorem fl_X12_90 : gFL RX12 90 12 26 (.array .int) true := ⟨RX12, TX12, 119, tyX12, rfl, by decide, inW_RX12, kw_1982, tyX12_ok, nmX12, rfl, by decide +kernel, fun _ => rfl⟩
theorem kw_1983 : Cond.fieldLink RX12 93 "WordTongueModel" "nChild" "[I" ∈ gWs := List.mem_filter.mpr ⟨gMt8 _ (List.mem_of_getElem? (i := 66) rfl), rfl⟩
theorem fl_X12_93 : gFL RX12 93 12 27 (.array .int) true := ⟨RX12, TX12, 119, tyX12, rfl, by decide, inW_RX12, kw_1983, tyX12_ok, nmX12, rfl, by decide +kernel, fun _ => rfl⟩
theorem kw_1984 : Cond.fieldLink RX12 96 "WordTongueModel" "nNext" "[I" ∈ gWs := List.mem_filter.mpr ⟨gMt8 _ (List.mem_of_getElem? (i := 67) rfl), rfl⟩
theorem fl_X12_96 : gFL RX12 96 12 28 (.array .int) true := ⟨RX12, TX12, 119, tyX12, rfl, by decide, inW_RX12, kw_1984, tyX12_ok, nmX12, rfl, by decide +kernel, fun _ => rfl⟩
theorem kw_1985 : Cond.fieldLink RX12 99 "WordTongueModel" "nA" "[I" ∈ gWs := List.mem_filter.mpr ⟨gMt8 _ (List.mem_of_getElem? (i := 68) rfl), rfl⟩
theorem fl_X12_99 : gFL RX12 99 12 29 (.array .int) true := ⟨RX12, TX12, 119, tyX12, rfl, by decide, inW_RX12, kw_1985, tyX12_ok, nmX12, rfl, by decide +kernel, fun _ => rfl⟩
theorem kw_1986 : Cond.fieldLink RX12 102 "WordTongueModel" "nB" "[I" ∈ gWs := List.mem_filter.mpr ⟨gMt8 _ (List.mem_of_getElem? (i := 69) rfl), rfl⟩
theorem fl_X12_102 : gFL RX12 102 12 30 (.array .int) true := ⟨RX12, TX12, 119, tyX12, rfl, by decide, inW_RX12, kw_1986, tyX12_ok, nmX12, rfl, by decide +kernel, fun _ => rfl⟩
theorem kw_1987 : Cond.fieldLink RX12 105 "WordTongueModel" "nC" "[I" ∈ gWs := List.mem_filter.mpr ⟨gMt8 _ (List.mem_of_getElem? (i := 70) rfl), rfl⟩
theorem fl_X12_105 : gFL RX12 105 12 31 (.array .int) true := ⟨RX12, TX12, 119, tyX12, rfl, by decide, inW_RX12, kw_1987, tyX12_ok, nmX12, rfl, by decide +kernel, fun _ => rfl⟩
theorem kw_1989 : Cond.fieldLink RX12 111 "WordTongueModel" "nRel" "[I" ∈ gWs := List.mem_filter.mpr ⟨gMt8 _ (List.mem_of_getElem? (i := 72) rfl), rfl⟩
theorem fl_X12_111 : gFL RX12 111 12 33 (.array .int) true := ⟨RX12, TX12, 119, tyX12, rfl, by decide, inW_RX12, kw_1989, tyX12_ok, nmX12, rfl, by decide +kernel, fun _ => rfl⟩
theorem kw_1990 : Cond.fieldLink RX12 114 "WordTongueModel" "nFirst" "[I" ∈ gWs := List.mem_filter.mpr ⟨gMt8 _ (List.mem_of_getElem? (i := 73) rfl), rfl⟩
theorem fl_X12_114 : gFL RX12 114 12 34 (.array .int) true := ⟨RX12, TX12, 119, tyX12, rfl, by decide, inW_RX12, kw_1990, tyX12_ok, nmX12, rfl, by decide +kernel, fun _ => rfl⟩
theorem kw_1991 : Cond.fieldLink RX12 117 "WordTongueModel" "nParen" "[Z" ∈ gWs := List.mem_filter.mpr ⟨gMt8 _ (List.mem_of_getElem? (i := 74) rfl), rfl⟩
theorem fl_X12_117 : gFL RX12 117 12 35 (.array .boolean) true := ⟨RX12, TX12, 119, tyX12, rfl, by decide, inW_RX12, kw_1991, tyX12_ok, nmX12, rfl, by decide +kernel, fun _ => rfl⟩
theorem kw_1992 : Cond.fieldLink RX12 121 "WordTongueModel" "out" "[I" ∈ gWs := List.mem_filter.mpr ⟨gMt8 _ (List.mem_of_getElem? (i := 75) rfl), rfl⟩
theorem fl_X12_121 : gFL RX12 121 12 36 (.array .int) true := ⟨RX12, TX12, 119, tyX12, rfl, by decide, inW_RX12, kw_1992, tyX12_ok, nmX12, rfl, by decide +kernel, fun _ => rfl⟩
theorem kw_1993 : Cond.fieldLink RX12 124 "WordTongueModel" "outs" "I" ∈ gWs := List.mem_filter.mpr ⟨gMt8 _ (List.mem_of_getElem? (i := 76) rfl), rfl⟩
theorem fl_X12_124 : gFL RX12 124 12 37 .int false := ⟨RX12, TX12, 119, tyX12, rfl, by decide, inW_RX12, kw_1993, tyX12_ok, nmX12, rfl, by decide +kernel, fun h => by cases h⟩
theorem kw_2473 : Cond.code yX12_node cX12_node 5 (some .int) ∈ gWs := List.mem_filter.mpr ⟨gMt10 _ (List.mem_of_getElem? (i := 76) rfl), rfl⟩
theorem kw_2470 : Cond.methodLink RX12 522 yX12_node ∈ gWs := List.mem_filter.mpr ⟨gMt10 _ (List.mem_of_getElem? (i := 73) rfl), rfl⟩
theorem kw_2472 : Cond.instanceMethod yX12_node ∈ gWs := List.mem_filter.mpr ⟨gMt10 _ (List.mem_of_getElem? (i := 75) rfl), rfl⟩
theorem kw_143 : Cond.selects RX12 yX12_node yX12_node ∈ gWs := gWm 143 (by decide +kernel) rfl
theorem cl_X12_522 : gCV RX12 522 yX12_node cX12_node 5 (some .int) 3 := ⟨g_mk [.methodLink RX12 522 yX12_node, .instanceMethod yX12_node, .selects yX12_node.cls yX12_node yX12_node, .initialized yX12_node.cls] (gWs_all kw_2473) (List.forall_mem_cons.mpr ⟨kw_2470, List.forall_mem_cons.mpr ⟨kw_2472, List.forall_mem_cons.mpr ⟨kw_143, List.forall_mem_cons.mpr ⟨kw_257, fun _ h => nomatch h⟩⟩⟩⟩), rfl, by decide +kernel, by decide +kernel, by decide +kernel⟩
theorem kw_1988 : Cond.fieldLink RX12 108 "WordTongueModel" "nPair" "[I" ∈ gWs := List.mem_filter.mpr ⟨gMt8 _ (List.mem_of_getElem? (i := 71) rfl), rfl⟩
theorem fl_X12_108 : gFL RX12 108 12 32 (.array .int) true := ⟨RX12, TX12, 119, tyX12, rfl, by decide, inW_RX12, kw_1988, tyX12_ok, nmX12, rfl, by decide +kernel, fun _ => rfl⟩
theorem kw_1995 : Cond.fieldLink RX12 130 "WordTongueModel" "gKind" "[I" ∈ gWs := List.mem_filter.mpr ⟨gMt8 _ (List.mem_of_getElem? (i := 78) rfl), rfl⟩
theorem fl_X12_130 : gFL RX12 130 12 39 (.array .int) true := ⟨RX12, TX12, 119, tyX12, rfl, by decide, inW_RX12, kw_1995, tyX12_ok, nmX12, rfl, by decide +kernel, fun _ => rfl⟩
theorem kw_1994 : Cond.fieldLink RX12 127 "WordTongueModel" "goals" "I" ∈ gWs := List.mem_filter.mpr ⟨gMt8 _ (List.mem_of_getElem? (i := 77) rfl), rfl⟩
theorem fl_X12_127 : gFL RX12 127 12 38 .int false := ⟨RX12, TX12, 119, tyX12, rfl, by decide, inW_RX12, kw_1994, tyX12_ok, nmX12, rfl, by decide +kernel, fun h => by cases h⟩
theorem kw_1996 : Cond.fieldLink RX12 133 "WordTongueModel" "gX" "[I" ∈ gWs := List.mem_filter.mpr ⟨gMt8 _ (List.mem_of_getElem? (i := 79) rfl), rfl⟩
theorem fl_X12_133 : gFL RX12 133 12 40 (.array .int) true := ⟨RX12, TX12, 119, tyX12, rfl, by decide, inW_RX12, kw_1996, tyX12_ok, nmX12, rfl, by decide +kernel, fun _ => rfl⟩
theorem kw_1997 : Cond.fieldLink RX12 136 "WordTongueModel" "gY" "[I" ∈ gWs := List.mem_filter.mpr ⟨gMt8 _ (List.mem_of_getElem? (i := 80) rfl), rfl⟩
theorem fl_X12_136 : gFL RX12 136 12 41 (.array .int) true := ⟨RX12, TX12, 119, tyX12, rfl, by decide, inW_RX12, kw_1997, tyX12_ok, nmX12, rfl, by decide +kernel, fun _ => rfl⟩
theorem kw_1998 : Cond.fieldLink RX12 139 "WordTongueModel" "gZ" "[I" ∈ gWs := List.mem_filter.mpr ⟨gMt8 _ (List.mem_of_getElem? (i := 81) rfl), rfl⟩
theorem fl_X12_139 : gFL RX12 139 12 42 (.array .int) true := ⟨RX12, TX12, 119, tyX12, rfl, by decide, inW_RX12, kw_1998, tyX12_ok, nmX12, rfl, by decide +kernel, fun _ => rfl⟩
theorem kw_1999 : Cond.fieldLink RX12 142 "WordTongueModel" "at" "I" ∈ gWs := List.mem_filter.mpr ⟨gMt8 _ (List.mem_of_getElem? (i := 82) rfl), rfl⟩
theorem fl_X12_142 : gFL RX12 142 12 43 .int false := ⟨RX12, TX12, 119, tyX12, rfl, by decide, inW_RX12, kw_1999, tyX12_ok, nmX12, rfl, by decide +kernel, fun h => by cases h⟩
theorem kw_2457 : Cond.code yX12_tk cX12_tk 1 (some .int) ∈ gWs := List.mem_filter.mpr ⟨gMt10 _ (List.mem_of_getElem? (i := 60) rfl), rfl⟩
theorem kw_2454 : Cond.methodLink RX12 526 yX12_tk ∈ gWs := List.mem_filter.mpr ⟨gMt10 _ (List.mem_of_getElem? (i := 57) rfl), rfl⟩
theorem kw_2456 : Cond.instanceMethod yX12_tk ∈ gWs := List.mem_filter.mpr ⟨gMt10 _ (List.mem_of_getElem? (i := 59) rfl), rfl⟩
theorem kw_139 : Cond.selects RX12 yX12_tk yX12_tk ∈ gWs := gWm 139 (by decide +kernel) rfl
theorem cl_X12_526 : gCV RX12 526 yX12_tk cX12_tk 1 (some .int) 0 := ⟨g_mk [.methodLink RX12 526 yX12_tk, .instanceMethod yX12_tk, .selects yX12_tk.cls yX12_tk yX12_tk, .initialized yX12_tk.cls] (gWs_all kw_2457) (List.forall_mem_cons.mpr ⟨kw_2454, List.forall_mem_cons.mpr ⟨kw_2456, List.forall_mem_cons.mpr ⟨kw_139, List.forall_mem_cons.mpr ⟨kw_257, fun _ h => nomatch h⟩⟩⟩⟩), rfl, by decide +kernel, by decide +kernel, by decide +kernel⟩
theorem kw_2000 : Cond.fieldLink RX12 145 "WordTongueModel" "depth" "I" ∈ gWs := List.mem_filter.mpr ⟨gMt8 _ (List.mem_of_getElem? (i := 83) rfl), rfl⟩
theorem fl_X12_145 : gFL RX12 145 12 44 .int false := ⟨RX12, TX12, 119, tyX12, rfl, by decide, inW_RX12, kw_2000, tyX12_ok, nmX12, rfl, by decide +kernel, fun h => by cases h⟩
theorem kw_2461 : Cond.code yX12_deeper cX12_deeper 1 (some .boolean) ∈ gWs := List.mem_filter.mpr ⟨gMt10 _ (List.mem_of_getElem? (i := 64) rfl), rfl⟩
theorem kw_2458 : Cond.methodLink RX12 530 yX12_deeper ∈ gWs := List.mem_filter.mpr ⟨gMt10 _ (List.mem_of_getElem? (i := 61) rfl), rfl⟩
theorem kw_2460 : Cond.instanceMethod yX12_deeper ∈ gWs := List.mem_filter.mpr ⟨gMt10 _ (List.mem_of_getElem? (i := 63) rfl), rfl⟩
theorem kw_140 : Cond.selects RX12 yX12_deeper yX12_deeper ∈ gWs := gWm 140 (by decide +kernel) rfl
theorem cl_X12_530 : gCV RX12 530 yX12_deeper cX12_deeper 1 (some .boolean) 0 := ⟨g_mk [.methodLink RX12 530 yX12_deeper, .instanceMethod yX12_deeper, .selects yX12_deeper.cls yX12_deeper yX12_deeper, .initialized yX12_deeper.cls] (gWs_all kw_2461) (List.forall_mem_cons.mpr ⟨kw_2458, List.forall_mem_cons.mpr ⟨kw_2460, List.forall_mem_cons.mpr ⟨kw_140, List.forall_mem_cons.mpr ⟨kw_257, fun _ h => nomatch h⟩⟩⟩⟩), rfl, by decide +kernel, by decide +kernel, by decide +kernel⟩
theorem kw_2002 : Cond.fieldLink RX12 151 "WordTongueModel" "secTag" "[I" ∈ gWs := List.mem_filter.mpr ⟨gMt8 _ (List.mem_of_getElem? (i := 85) rfl), rfl⟩
theorem fl_X12_151 : gFL RX12 151 12 46 (.array .int) true := ⟨RX12, TX12, 119, tyX12, rfl, by decide, inW_RX12, kw_2002, tyX12_ok, nmX12, rfl, by decide +kernel, fun _ => rfl⟩
theorem kw_2001 : Cond.fieldLink RX12 148 "WordTongueModel" "sections" "I" ∈ gWs := List.mem_filter.mpr ⟨gMt8 _ (List.mem_of_getElem? (i := 84) rfl), rfl⟩
theorem fl_X12_148 : gFL RX12 148 12 45 .int false := ⟨RX12, TX12, 119, tyX12, rfl, by decide, inW_RX12, kw_2001, tyX12_ok, nmX12, rfl, by decide +kernel, fun h => by cases h⟩
theorem kw_2003 : Cond.fieldLink RX12 154 "WordTongueModel" "secDepth" "[I" ∈ gWs := List.mem_filter.mpr ⟨gMt8 _ (List.mem_of_getElem? (i := 86) rfl), rfl⟩
theorem fl_X12_154 : gFL RX12 154 12 47 (.array .int) true := ⟨RX12, TX12, 119, tyX12, rfl, by decide, inW_RX12, kw_2003, tyX12_ok, nmX12, rfl, by decide +kernel, fun _ => rfl⟩
theorem kw_2469 : Cond.code yX12_shut cX12_shut 7 (some .int) ∈ gWs := List.mem_filter.mpr ⟨gMt10 _ (List.mem_of_getElem? (i := 72) rfl), rfl⟩
theorem kw_2466 : Cond.methodLink RX12 542 yX12_shut ∈ gWs := List.mem_filter.mpr ⟨gMt10 _ (List.mem_of_getElem? (i := 69) rfl), rfl⟩
theorem kw_2468 : Cond.instanceMethod yX12_shut ∈ gWs := List.mem_filter.mpr ⟨gMt10 _ (List.mem_of_getElem? (i := 71) rfl), rfl⟩
theorem kw_142 : Cond.selects RX12 yX12_shut yX12_shut ∈ gWs := gWm 142 (by decide +kernel) rfl
theorem cl_X12_542 : gCV RX12 542 yX12_shut cX12_shut 7 (some .int) 4 := ⟨g_mk [.methodLink RX12 542 yX12_shut, .instanceMethod yX12_shut, .selects yX12_shut.cls yX12_shut yX12_shut, .initialized yX12_shut.cls] (gWs_all kw_2469) (List.forall_mem_cons.mpr ⟨kw_2466, List.forall_mem_cons.mpr ⟨kw_2468, List.forall_mem_cons.mpr ⟨kw_142, List.forall_mem_cons.mpr ⟨kw_257, fun _ h => nomatch h⟩⟩⟩⟩), rfl, by decide +kernel, by decide +kernel, by decide +kernel⟩
theorem kw_2465 : Cond.code yX12_take cX12_take 2 (some .boolean) ∈ gWs := List.mem_filter.mpr ⟨gMt10 _ (List.mem_of_getElem? (i := 68) rfl), rfl⟩
theorem kw_2462 : Cond.methodLink RX12 549 yX12_take ∈ gWs := List.mem_filter.mpr ⟨gMt10 _ (List.mem_of_getElem? (i := 65) rfl), rfl⟩
theorem kw_2464 : Cond.instanceMethod yX12_take ∈ gWs := List.mem_filter.mpr ⟨gMt10 _ (List.mem_of_getElem? (i := 67) rfl), rfl⟩
theorem kw_141 : Cond.selects RX12 yX12_take yX12_take ∈ gWs := gWm 141 (by decide +kernel) rfl
theorem cl_X12_549 : gCV RX12 549 yX12_take cX12_take 2 (some .boolean) 1 := ⟨g_mk [.methodLink RX12 549 yX12_take, .instanceMethod yX12_take, .selects yX12_take.cls yX12_take yX12_take, .initialized yX12_take.cls] (gWs_all kw_2465) (List.forall_mem_cons.mpr ⟨kw_2462, List.forall_mem_cons.mpr ⟨kw_2464, List.forall_mem_cons.mpr ⟨kw_141, List.forall_mem_cons.mpr ⟨kw_257, fun _ h => nomatch h⟩⟩⟩⟩), rfl, by decide +kernel, by decide +kernel, by decide +kernel⟩
theorem kw_2445 : Cond.code yX12_goal cX12_goal 5 none ∈ gWs := List.mem_filter.mpr ⟨gMt10 _ (List.mem_of_getElem? (i := 48) rfl), rfl⟩
theorem kw_2442 : Cond.methodLink RX12 534 yX12_goal ∈ gWs := List.mem_filter.mpr ⟨gMt10 _ (List.mem_of_getElem? (i := 45) rfl), rfl⟩
theorem kw_2444 : Cond.instanceMethod yX12_goal ∈ gWs := List.mem_filter.mpr ⟨gMt10 _ (List.mem_of_getElem? (i := 47) rfl), rfl⟩
theorem kw_136 : Cond.selects RX12 yX12_goal yX12_goal ∈ gWs := gWm 136 (by decide +kernel) rfl
theorem cl_X12_534 : gCV RX12 534 yX12_goal cX12_goal 5 none 4 := ⟨g_mk [.methodLink RX12 534 yX12_goal, .instanceMethod yX12_goal, .selects yX12_goal.cls yX12_goal yX12_goal, .initialized yX12_goal.cls] (gWs_all kw_2445) (List.forall_mem_cons.mpr ⟨kw_2442, List.forall_mem_cons.mpr ⟨kw_2444, List.forall_mem_cons.mpr ⟨kw_136, List.forall_mem_cons.mpr ⟨kw_257, fun _ h => nomatch h⟩⟩⟩⟩), rfl, by decide +kernel, by decide +kernel, by decide +kernel⟩
theorem kw_2492 : Cond.code yX12_leaf cX12_leaf 4 none ∈ gWs := List.mem_filter.mpr ⟨gMt10 _ (List.mem_of_getElem? (i := 95) rfl), rfl⟩
theorem kw_2489 : Cond.methodLink RX12 570 yX12_leaf ∈ gWs := List.mem_filter.mpr ⟨gMt10 _ (List.mem_of_getElem? (i := 92) rfl), rfl⟩
theorem kw_2491 : Cond.instanceMethod yX12_leaf ∈ gWs := List.mem_filter.mpr ⟨gMt10 _ (List.mem_of_getElem? (i := 94) rfl), rfl⟩
theorem kw_147 : Cond.selects RX12 yX12_leaf yX12_leaf ∈ gWs := gWm 147 (by decide +kernel) rfl
theorem cl_X12_570 : gCV RX12 570 yX12_leaf cX12_leaf 4 none 3 := ⟨g_mk [.methodLink RX12 570 yX12_leaf, .instanceMethod yX12_leaf, .selects yX12_leaf.cls yX12_leaf yX12_leaf, .initialized yX12_leaf.cls] (gWs_all kw_2492) (List.forall_mem_cons.mpr ⟨kw_2489, List.forall_mem_cons.mpr ⟨kw_2491, List.forall_mem_cons.mpr ⟨kw_147, List.forall_mem_cons.mpr ⟨kw_257, fun _ h => nomatch h⟩⟩⟩⟩), rfl, by decide +kernel, by decide +kernel, by decide +kernel⟩
theorem kw_2488 : Cond.code yX12_primary cX12_primary 4 (some .boolean) ∈ gWs := List.mem_filter.mpr ⟨gMt10 _ (List.mem_of_getElem? (i := 91) rfl), rfl⟩
theorem kw_2485 : Cond.methodLink RX12 598 yX12_primary ∈ gWs := List.mem_filter.mpr ⟨gMt10 _ (List.mem_of_getElem? (i := 88) rfl), rfl⟩
theorem kw_2487 : Cond.instanceMethod yX12_primary ∈ gWs := List.mem_filter.mpr ⟨gMt10 _ (List.mem_of_getElem? (i := 90) rfl), rfl⟩
theorem kw_146 : Cond.selects RX12 yX12_primary yX12_primary ∈ gWs := gWm 146 (by decide +kernel) rfl
theorem cl_X12_598 : gCV RX12 598 yX12_primary cX12_primary 4 (some .boolean) 2 := ⟨g_mk [.methodLink RX12 598 yX12_primary, .instanceMethod yX12_primary, .selects yX12_primary.cls yX12_primary yX12_primary, .initialized yX12_primary.cls] (gWs_all kw_2488) (List.forall_mem_cons.mpr ⟨kw_2485, List.forall_mem_cons.mpr ⟨kw_2487, List.forall_mem_cons.mpr ⟨kw_146, List.forall_mem_cons.mpr ⟨kw_257, fun _ h => nomatch h⟩⟩⟩⟩), rfl, by decide +kernel, by decide +kernel, by decide +kernel⟩
theorem kw_2484 : Cond.code yX12_calls cX12_calls 6 (some .boolean) ∈ gWs := List.mem_filter.mpr ⟨gMt10 _ (List.mem_of_getElem? (i := 87) rfl), rfl⟩
theorem kw_2481 : Cond.methodLink RX12 595 yX12_calls ∈ gWs := List.mem_filter.mpr ⟨gMt10 _ (List.mem_of_getElem? (i := 84) rfl), rfl⟩
theorem kw_2483 : Cond.instanceMethod yX12_calls ∈ gWs := List.mem_filter.mpr ⟨gMt10 _ (List.mem_of_getElem? (i := 86) rfl), rfl⟩
theorem kw_145 : Cond.selects RX12 yX12_calls yX12_calls ∈ gWs := gWm 145 (by decide +kernel) rfl
theorem cl_X12_595 : gCV RX12 595 yX12_calls cX12_calls 6 (some .boolean) 3 := ⟨g_mk [.methodLink RX12 595 yX12_calls, .instanceMethod yX12_calls, .selects yX12_calls.cls yX12_calls yX12_calls, .initialized yX12_calls.cls] (gWs_all kw_2484) (List.forall_mem_cons.mpr ⟨kw_2481, List.forall_mem_cons.mpr ⟨kw_2483, List.forall_mem_cons.mpr ⟨kw_145, List.forall_mem_cons.mpr ⟨kw_257, fun _ h => nomatch h⟩⟩⟩⟩), rfl, by decide +kernel, by decide +kernel, by decide +kernel⟩
theorem kw_2480 : Cond.code yX12_binary cX12_binary 7 none ∈ gWs := List.mem_filter.mpr ⟨gMt10 _ (List.mem_of_getElem? (i := 83) rfl), rfl⟩
theorem kw_2477 : Cond.methodLink RX12 592 yX12_binary ∈ gWs := List.mem_filter.mpr ⟨gMt10 _ (List.mem_of_getElem? (i := 80) rfl), rfl⟩
theorem kw_2479 : Cond.instanceMethod yX12_binary ∈ gWs := List.mem_filter.mpr ⟨gMt10 _ (List.mem_of_getElem? (i := 82) rfl), rfl⟩
theorem kw_144 : Cond.selects RX12 yX12_binary yX12_binary ∈ gWs := gWm 144 (by decide +kernel) rfl
theorem cl_X12_592 : gCV RX12 592 yX12_binary cX12_binary 7 none 3 := ⟨g_mk [.methodLink RX12 592 yX12_binary, .instanceMethod yX12_binary, .selects yX12_binary.cls yX12_binary yX12_binary, .initialized yX12_binary.cls] (gWs_all kw_2480) (List.forall_mem_cons.mpr ⟨kw_2477, List.forall_mem_cons.mpr ⟨kw_2479, List.forall_mem_cons.mpr ⟨kw_144, List.forall_mem_cons.mpr ⟨kw_257, fun _ h => nomatch h⟩⟩⟩⟩), rfl, by decide +kernel, by decide +kernel, by decide +kernel⟩
theorem kw_2476 : Cond.code yX12_levelOf cX12_levelOf 1 (some .int) ∈ gWs := List.mem_filter.mpr ⟨gMt10 _ (List.mem_of_getElem? (i := 79) rfl), rfl⟩
theorem kw_2474 : Cond.methodLink RX12 589 yX12_levelOf ∈ gWs := List.mem_filter.mpr ⟨gMt10 _ (List.mem_of_getElem? (i := 77) rfl), rfl⟩
theorem kw_2475 : Cond.static yX12_levelOf ∈ gWs := List.mem_filter.mpr ⟨gMt10 _ (List.mem_of_getElem? (i := 78) rfl), rfl⟩
theorem cl_X12_589 : gCS RX12 589 yX12_levelOf cX12_levelOf 1 (some .int) 1 := ⟨g_mk [.methodLink RX12 589 yX12_levelOf, .static yX12_levelOf, .initialized yX12_levelOf.cls] (gWs_all kw_2476) (List.forall_mem_cons.mpr ⟨kw_2474, List.forall_mem_cons.mpr ⟨kw_2475, List.forall_mem_cons.mpr ⟨kw_257, fun _ h => nomatch h⟩⟩⟩), ⟨by decide +kernel, by decide +kernel, by decide +kernel⟩⟩
theorem kw_2511 : Cond.code yX12_reachP cX12_reachP 6 (some .boolean) ∈ gWs := List.mem_filter.mpr ⟨gMt10 _ (List.mem_of_getElem? (i := 114) rfl), rfl⟩
theorem kw_2508 : Cond.methodLink RX12 567 yX12_reachP ∈ gWs := List.mem_filter.mpr ⟨gMt10 _ (List.mem_of_getElem? (i := 111) rfl), rfl⟩
theorem kw_2510 : Cond.instanceMethod yX12_reachP ∈ gWs := List.mem_filter.mpr ⟨gMt10 _ (List.mem_of_getElem? (i := 113) rfl), rfl⟩
theorem kw_151 : Cond.selects RX12 yX12_reachP yX12_reachP ∈ gWs := gWm 151 (by decide +kernel) rfl
theorem cl_X12_567 : gCV RX12 567 yX12_reachP cX12_reachP 6 (some .boolean) 1 := ⟨g_mk [.methodLink RX12 567 yX12_reachP, .instanceMethod yX12_reachP, .selects yX12_reachP.cls yX12_reachP yX12_reachP, .initialized yX12_reachP.cls] (gWs_all kw_2511) (List.forall_mem_cons.mpr ⟨kw_2508, List.forall_mem_cons.mpr ⟨kw_2510, List.forall_mem_cons.mpr ⟨kw_151, List.forall_mem_cons.mpr ⟨kw_257, fun _ h => nomatch h⟩⟩⟩⟩), rfl, by decide +kernel, by decide +kernel, by decide +kernel⟩
theorem kw_2507 : Cond.code yX12_shutSection cX12_shutSection 5 (some .boolean) ∈ gWs := List.mem_filter.mpr ⟨gMt10 _ (List.mem_of_getElem? (i := 110) rfl), rfl⟩
theorem kw_2504 : Cond.methodLink RX12 564 yX12_shutSection ∈ gWs := List.mem_filter.mpr ⟨gMt10 _ (List.mem_of_getElem? (i := 107) rfl), rfl⟩
theorem kw_2506 : Cond.instanceMethod yX12_shutSection ∈ gWs := List.mem_filter.mpr ⟨gMt10 _ (List.mem_of_getElem? (i := 109) rfl), rfl⟩
theorem kw_150 : Cond.selects RX12 yX12_shutSection yX12_shutSection ∈ gWs := gWm 150 (by decide +kernel) rfl
theorem cl_X12_564 : gCV RX12 564 yX12_shutSection cX12_shutSection 5 (some .boolean) 0 := ⟨g_mk [.methodLink RX12 564 yX12_shutSection, .instanceMethod yX12_shutSection, .selects yX12_shutSection.cls yX12_shutSection yX12_shutSection, .initialized yX12_shutSection.cls] (gWs_all kw_2507) (List.forall_mem_cons.mpr ⟨kw_2504, List.forall_mem_cons.mpr ⟨kw_2506, List.forall_mem_cons.mpr ⟨kw_150, List.forall_mem_cons.mpr ⟨kw_257, fun _ h => nomatch h⟩⟩⟩⟩), rfl, by decide +kernel, by decide +kernel, by decide +kernel⟩
theorem kw_2503 : Cond.code yX12_isD cX12_isD 1 (some .boolean) ∈ gWs := List.mem_filter.mpr ⟨gMt10 _ (List.mem_of_getElem? (i := 106) rfl), rfl⟩
theorem kw_2501 : Cond.methodLink RX12 561 yX12_isD ∈ gWs := List.mem_filter.mpr ⟨gMt10 _ (List.mem_of_getElem? (i := 104) rfl), rfl⟩
theorem kw_2502 : Cond.static yX12_isD ∈ gWs := List.mem_filter.mpr ⟨gMt10 _ (List.mem_of_getElem? (i := 105) rfl), rfl⟩
theorem cl_X12_561 : gCS RX12 561 yX12_isD cX12_isD 1 (some .boolean) 1 := ⟨g_mk [.methodLink RX12 561 yX12_isD, .static yX12_isD, .initialized yX12_isD.cls] (gWs_all kw_2503) (List.forall_mem_cons.mpr ⟨kw_2501, List.forall_mem_cons.mpr ⟨kw_2502, List.forall_mem_cons.mpr ⟨kw_257, fun _ h => nomatch h⟩⟩⟩), ⟨by decide +kernel, by decide +kernel, by decide +kernel⟩⟩
theorem kw_2496 : Cond.code yX12_openSection cX12_openSection 2 (some .boolean) ∈ gWs := List.mem_filter.mpr ⟨gMt10 _ (List.mem_of_getElem? (i := 99) rfl), rfl⟩
theorem kw_2493 : Cond.methodLink RX12 552 yX12_openSection ∈ gWs := List.mem_filter.mpr ⟨gMt10 _ (List.mem_of_getElem? (i := 96) rfl), rfl⟩
theorem kw_2495 : Cond.instanceMethod yX12_openSection ∈ gWs := List.mem_filter.mpr ⟨gMt10 _ (List.mem_of_getElem? (i := 98) rfl), rfl⟩
theorem kw_148 : Cond.selects RX12 yX12_openSection yX12_openSection ∈ gWs := gWm 148 (by decide +kernel) rfl
theorem cl_X12_552 : gCV RX12 552 yX12_openSection cX12_openSection 2 (some .boolean) 0 := ⟨g_mk [.methodLink RX12 552 yX12_openSection, .instanceMethod yX12_openSection, .selects yX12_openSection.cls yX12_openSection yX12_openSection, .initialized yX12_openSection.cls] (gWs_all kw_2496) (List.forall_mem_cons.mpr ⟨kw_2493, List.forall_mem_cons.mpr ⟨kw_2495, List.forall_mem_cons.mpr ⟨kw_148, List.forall_mem_cons.mpr ⟨kw_257, fun _ h => nomatch h⟩⟩⟩⟩), rfl, by decide +kernel, by decide +kernel, by decide +kernel⟩
theorem kw_2522 : Cond.code yX12_beginsE cX12_beginsE 1 (some .boolean) ∈ gWs := List.mem_filter.mpr ⟨gMt10 _ (List.mem_of_getElem? (i := 125) rfl), rfl⟩
theorem kw_2520 : Cond.methodLink RX12 586 yX12_beginsE ∈ gWs := List.mem_filter.mpr ⟨gMt10 _ (List.mem_of_getElem? (i := 123) rfl), rfl⟩
theorem kw_2521 : Cond.static yX12_beginsE ∈ gWs := List.mem_filter.mpr ⟨gMt10 _ (List.mem_of_getElem? (i := 124) rfl), rfl⟩
theorem cl_X12_586 : gCS RX12 586 yX12_beginsE cX12_beginsE 1 (some .boolean) 1 := ⟨g_mk [.methodLink RX12 586 yX12_beginsE, .static yX12_beginsE, .initialized yX12_beginsE.cls] (gWs_all kw_2522) (List.forall_mem_cons.mpr ⟨kw_2520, List.forall_mem_cons.mpr ⟨kw_2521, List.forall_mem_cons.mpr ⟨kw_257, fun _ h => nomatch h⟩⟩⟩), ⟨by decide +kernel, by decide +kernel, by decide +kernel⟩⟩
theorem kw_2530 : Cond.code yX12_tkNext cX12_tkNext 1 (some .int) ∈ gWs := List.mem_filter.mpr ⟨gMt10 _ (List.mem_of_getElem? (i := 133) rfl), rfl⟩
theorem kw_2527 : Cond.methodLink RX12 583 yX12_tkNext ∈ gWs := List.mem_filter.mpr ⟨gMt10 _ (List.mem_of_getElem? (i := 130) rfl), rfl⟩
theorem kw_2529 : Cond.instanceMethod yX12_tkNext ∈ gWs := List.mem_filter.mpr ⟨gMt10 _ (List.mem_of_getElem? (i := 132) rfl), rfl⟩
theorem kw_155 : Cond.selects RX12 yX12_tkNext yX12_tkNext ∈ gWs := gWm 155 (by decide +kernel) rfl
theorem cl_X12_583 : gCV RX12 583 yX12_tkNext cX12_tkNext 1 (some .int) 0 := ⟨g_mk [.methodLink RX12 583 yX12_tkNext, .instanceMethod yX12_tkNext, .selects yX12_tkNext.cls yX12_tkNext yX12_tkNext, .initialized yX12_tkNext.cls] (gWs_all kw_2530) (List.forall_mem_cons.mpr ⟨kw_2527, List.forall_mem_cons.mpr ⟨kw_2529, List.forall_mem_cons.mpr ⟨kw_155, List.forall_mem_cons.mpr ⟨kw_257, fun _ h => nomatch h⟩⟩⟩⟩), rfl, by decide +kernel, by decide +kernel, by decide +kernel⟩
theorem kw_2534 : Cond.code yX12_pairs cX12_pairs 5 none ∈ gWs := List.mem_filter.mpr ⟨gMt10 _ (List.mem_of_getElem? (i := 137) rfl), rfl⟩
theorem kw_2531 : Cond.methodLink RX12 580 yX12_pairs ∈ gWs := List.mem_filter.mpr ⟨gMt10 _ (List.mem_of_getElem? (i := 134) rfl), rfl⟩
theorem kw_2533 : Cond.instanceMethod yX12_pairs ∈ gWs := List.mem_filter.mpr ⟨gMt10 _ (List.mem_of_getElem? (i := 136) rfl), rfl⟩
theorem kw_156 : Cond.selects RX12 yX12_pairs yX12_pairs ∈ gWs := gWm 156 (by decide +kernel) rfl
theorem cl_X12_580 : gCV RX12 580 yX12_pairs cX12_pairs 5 none 1 := ⟨g_mk [.methodLink RX12 580 yX12_pairs, .instanceMethod yX12_pairs, .selects yX12_pairs.cls yX12_pairs yX12_pairs, .initialized yX12_pairs.cls] (gWs_all kw_2534) (List.forall_mem_cons.mpr ⟨kw_2531, List.forall_mem_cons.mpr ⟨kw_2533, List.forall_mem_cons.mpr ⟨kw_156, List.forall_mem_cons.mpr ⟨kw_257, fun _ h => nomatch h⟩⟩⟩⟩), rfl, by decide +kernel, by decide +kernel, by decide +kernel⟩
theorem kw_2526 : Cond.code yX12_labels cX12_labels 2 none ∈ gWs := List.mem_filter.mpr ⟨gMt10 _ (List.mem_of_getElem? (i := 129) rfl), rfl⟩
theorem kw_2523 : Cond.methodLink RX12 576 yX12_labels ∈ gWs := List.mem_filter.mpr ⟨gMt10 _ (List.mem_of_getElem? (i := 126) rfl), rfl⟩
theorem kw_2525 : Cond.instanceMethod yX12_labels ∈ gWs := List.mem_filter.mpr ⟨gMt10 _ (List.mem_of_getElem? (i := 128) rfl), rfl⟩
theorem kw_154 : Cond.selects RX12 yX12_labels yX12_labels ∈ gWs := gWm 154 (by decide +kernel) rfl
theorem cl_X12_576 : gCV RX12 576 yX12_labels cX12_labels 2 none 1 := ⟨g_mk [.methodLink RX12 576 yX12_labels, .instanceMethod yX12_labels, .selects yX12_labels.cls yX12_labels yX12_labels, .initialized yX12_labels.cls] (gWs_all kw_2526) (List.forall_mem_cons.mpr ⟨kw_2523, List.forall_mem_cons.mpr ⟨kw_2525, List.forall_mem_cons.mpr ⟨kw_154, List.forall_mem_cons.mpr ⟨kw_257, fun _ h => nomatch h⟩⟩⟩⟩), rfl, by decide +kernel, by decide +kernel, by decide +kernel⟩
theorem kw_2519 : Cond.code yX12_command cX12_command 5 (some .boolean) ∈ gWs := List.mem_filter.mpr ⟨gMt10 _ (List.mem_of_getElem? (i := 122) rfl), rfl⟩
theorem kw_2516 : Cond.methodLink RX12 573 yX12_command ∈ gWs := List.mem_filter.mpr ⟨gMt10 _ (List.mem_of_getElem? (i := 119) rfl), rfl⟩
theorem kw_2518 : Cond.instanceMethod yX12_command ∈ gWs := List.mem_filter.mpr ⟨gMt10 _ (List.mem_of_getElem? (i := 121) rfl), rfl⟩
theorem kw_153 : Cond.selects RX12 yX12_command yX12_command ∈ gWs := gWm 153 (by decide +kernel) rfl
theorem cl_X12_573 : gCV RX12 573 yX12_command cX12_command 5 (some .boolean) 3 := ⟨g_mk [.methodLink RX12 573 yX12_command, .instanceMethod yX12_command, .selects yX12_command.cls yX12_command yX12_command, .initialized yX12_command.cls] (gWs_all kw_2519) (List.forall_mem_cons.mpr ⟨kw_2516, List.forall_mem_cons.mpr ⟨kw_2518, List.forall_mem_cons.mpr ⟨kw_153, List.forall_mem_cons.mpr ⟨kw_257, fun _ h => nomatch h⟩⟩⟩⟩), rfl, by decide +kernel, by decide +kernel, by decide +kernel⟩
theorem kw_2515 : Cond.code yX12_reachC cX12_reachC 9 (some .boolean) ∈ gWs := List.mem_filter.mpr ⟨gMt10 _ (List.mem_of_getElem? (i := 118) rfl), rfl⟩
theorem kw_2512 : Cond.methodLink RX12 558 yX12_reachC ∈ gWs := List.mem_filter.mpr ⟨gMt10 _ (List.mem_of_getElem? (i := 115) rfl), rfl⟩
theorem kw_2514 : Cond.instanceMethod yX12_reachC ∈ gWs := List.mem_filter.mpr ⟨gMt10 _ (List.mem_of_getElem? (i := 117) rfl), rfl⟩
theorem kw_152 : Cond.selects RX12 yX12_reachC yX12_reachC ∈ gWs := gWm 152 (by decide +kernel) rfl
theorem cl_X12_558 : gCV RX12 558 yX12_reachC cX12_reachC 9 (some .boolean) 4 := ⟨g_mk [.methodLink RX12 558 yX12_reachC, .instanceMethod yX12_reachC, .selects yX12_reachC.cls yX12_reachC yX12_reachC, .initialized yX12_reachC.cls] (gWs_all kw_2515) (List.forall_mem_cons.mpr ⟨kw_2512, List.forall_mem_cons.mpr ⟨kw_2514, List.forall_mem_cons.mpr ⟨kw_152, List.forall_mem_cons.mpr ⟨kw_257, fun _ h => nomatch h⟩⟩⟩⟩), rfl, by decide +kernel, by decide +kernel, by decide +kernel⟩
theorem kw_2500 : Cond.code yX12_reachD cX12_reachD 9 (some .boolean) ∈ gWs := List.mem_filter.mpr ⟨gMt10 _ (List.mem_of_getElem? (i := 103) rfl), rfl⟩
theorem kw_2497 : Cond.methodLink RX12 555 yX12_reachD ∈ gWs := List.mem_filter.mpr ⟨gMt10 _ (List.mem_of_getElem? (i := 100) rfl), rfl⟩
theorem kw_2499 : Cond.instanceMethod yX12_reachD ∈ gWs := List.mem_filter.mpr ⟨gMt10 _ (List.mem_of_getElem? (i := 102) rfl), rfl⟩
theorem kw_149 : Cond.selects RX12 yX12_reachD yX12_reachD ∈ gWs := gWm 149 (by decide +kernel) rfl
theorem cl_X12_555 : gCV RX12 555 yX12_reachD cX12_reachD 9 (some .boolean) 4 := ⟨g_mk [.methodLink RX12 555 yX12_reachD, .instanceMethod yX12_reachD, .selects yX12_reachD.cls yX12_reachD yX12_reachD, .initialized yX12_reachD.cls] (gWs_all kw_2500) (List.forall_mem_cons.mpr ⟨kw_2497, List.forall_mem_cons.mpr ⟨kw_2499, List.forall_mem_cons.mpr ⟨kw_149, List.forall_mem_cons.mpr ⟨kw_257, fun _ h => nomatch h⟩⟩⟩⟩), rfl, by decide +kernel, by decide +kernel, by decide +kernel⟩
theorem kw_2004 : Cond.fieldLink RX12 157 "WordTongueModel" "lexEnd" "I" ∈ gWs := List.mem_filter.mpr ⟨gMt8 _ (List.mem_of_getElem? (i := 87) rfl), rfl⟩
theorem fl_X12_157 : gFL RX12 157 12 48 .int false := ⟨RX12, TX12, 119, tyX12, rfl, by decide, inW_RX12, kw_2004, tyX12_ok, nmX12, rfl, by decide +kernel, fun h => by cases h⟩
theorem kw_2453 : Cond.code yX12_reachE cX12_reachE 8 (some .boolean) ∈ gWs := List.mem_filter.mpr ⟨gMt10 _ (List.mem_of_getElem? (i := 56) rfl), rfl⟩
theorem kw_2450 : Cond.methodLink RX12 546 yX12_reachE ∈ gWs := List.mem_filter.mpr ⟨gMt10 _ (List.mem_of_getElem? (i := 53) rfl), rfl⟩
theorem kw_2452 : Cond.instanceMethod yX12_reachE ∈ gWs := List.mem_filter.mpr ⟨gMt10 _ (List.mem_of_getElem? (i := 55) rfl), rfl⟩
theorem kw_138 : Cond.selects RX12 yX12_reachE yX12_reachE ∈ gWs := gWm 138 (by decide +kernel) rfl
theorem cl_X12_546 : gCV RX12 546 yX12_reachE cX12_reachE 8 (some .boolean) 4 := ⟨g_mk [.methodLink RX12 546 yX12_reachE, .instanceMethod yX12_reachE, .selects yX12_reachE.cls yX12_reachE yX12_reachE, .initialized yX12_reachE.cls] (gWs_all kw_2453) (List.forall_mem_cons.mpr ⟨kw_2450, List.forall_mem_cons.mpr ⟨kw_2452, List.forall_mem_cons.mpr ⟨kw_138, List.forall_mem_cons.mpr ⟨kw_257, fun _ h => nomatch h⟩⟩⟩⟩), rfl, by decide +kernel, by decide +kernel, by decide +kernel⟩
theorem kw_2449 : Cond.code yX12_reach cX12_reach 6 (some .boolean) ∈ gWs := List.mem_filter.mpr ⟨gMt10 _ (List.mem_of_getElem? (i := 52) rfl), rfl⟩
theorem kw_2446 : Cond.methodLink RX12 538 yX12_reach ∈ gWs := List.mem_filter.mpr ⟨gMt10 _ (List.mem_of_getElem? (i := 49) rfl), rfl⟩
theorem kw_2448 : Cond.instanceMethod yX12_reach ∈ gWs := List.mem_filter.mpr ⟨gMt10 _ (List.mem_of_getElem? (i := 51) rfl), rfl⟩
theorem kw_137 : Cond.selects RX12 yX12_reach yX12_reach ∈ gWs := gWm 137 (by decide +kernel) rfl
theorem cl_X12_538 : gCV RX12 538 yX12_reach cX12_reach 6 (some .boolean) 4 := ⟨g_mk [.methodLink RX12 538 yX12_reach, .instanceMethod yX12_reach, .selects yX12_reach.cls yX12_reach yX12_reach, .initialized yX12_reach.cls] (gWs_all kw_2449) (List.forall_mem_cons.mpr ⟨kw_2446, List.forall_mem_cons.mpr ⟨kw_2448, List.forall_mem_cons.mpr ⟨kw_137, List.forall_mem_cons.mpr ⟨kw_257, fun _ h => nomatch h⟩⟩⟩⟩), rfl, by decide +kernel, by decide +kernel, by decide +kernel⟩
theorem kw_1968 : Cond.fieldLink RX12 48 "WordTongueModel" "faultOf" "I" ∈ gWs := List.mem_filter.mpr ⟨gMt8 _ (List.mem_of_getElem? (i := 51) rfl), rfl⟩
theorem fl_X12_48 : gFL RX12 48 12 12 .int false := ⟨RX12, TX12, 119, tyX12, rfl, by decide, inW_RX12, kw_1968, tyX12_ok, nmX12, rfl, by decide +kernel, fun h => by cases h⟩
theorem kw_1969 : Cond.fieldLink RX12 51 "WordTongueModel" "faultAt" "I" ∈ gWs := List.mem_filter.mpr ⟨gMt8 _ (List.mem_of_getElem? (i := 52) rfl), rfl⟩
theorem fl_X12_51 : gFL RX12 51 12 13 .int false := ⟨RX12, TX12, 119, tyX12, rfl, by decide, inW_RX12, kw_1969, tyX12_ok, nmX12, rfl, by decide +kernel, fun h => by cases h⟩
theorem kw_2005 : Cond.fieldLink RX12 160 "WordTongueModel" "entries" "I" ∈ gWs := List.mem_filter.mpr ⟨gMt8 _ (List.mem_of_getElem? (i := 88) rfl), rfl⟩
theorem fl_X12_160 : gFL RX12 160 12 49 .int false := ⟨RX12, TX12, 119, tyX12, rfl, by decide, inW_RX12, kw_2005, tyX12_ok, nmX12, rfl, by decide +kernel, fun h => by cases h⟩
theorem kw_2006 : Cond.fieldLink RX12 163 "WordTongueModel" "eName" "[I" ∈ gWs := List.mem_filter.mpr ⟨gMt8 _ (List.mem_of_getElem? (i := 89) rfl), rfl⟩
theorem fl_X12_163 : gFL RX12 163 12 50 (.array .int) true := ⟨RX12, TX12, 119, tyX12, rfl, by decide, inW_RX12, kw_2006, tyX12_ok, nmX12, rfl, by decide +kernel, fun _ => rfl⟩
theorem kw_2007 : Cond.fieldLink RX12 166 "WordTongueModel" "eKind" "[I" ∈ gWs := List.mem_filter.mpr ⟨gMt8 _ (List.mem_of_getElem? (i := 90) rfl), rfl⟩
theorem fl_X12_166 : gFL RX12 166 12 51 (.array .int) true := ⟨RX12, TX12, 119, tyX12, rfl, by decide, inW_RX12, kw_2007, tyX12_ok, nmX12, rfl, by decide +kernel, fun _ => rfl⟩
theorem kw_2008 : Cond.fieldLink RX12 169 "WordTongueModel" "eValue" "[I" ∈ gWs := List.mem_filter.mpr ⟨gMt8 _ (List.mem_of_getElem? (i := 91) rfl), rfl⟩
theorem fl_X12_169 : gFL RX12 169 12 52 (.array .int) true := ⟨RX12, TX12, 119, tyX12, rfl, by decide, inW_RX12, kw_2008, tyX12_ok, nmX12, rfl, by decide +kernel, fun _ => rfl⟩
theorem kw_2009 : Cond.fieldLink RX12 172 "WordTongueModel" "eState" "[I" ∈ gWs := List.mem_filter.mpr ⟨gMt8 _ (List.mem_of_getElem? (i := 92) rfl), rfl⟩
theorem fl_X12_172 : gFL RX12 172 12 53 (.array .int) true := ⟨RX12, TX12, 119, tyX12, rfl, by decide, inW_RX12, kw_2009, tyX12_ok, nmX12, rfl, by decide +kernel, fun _ => rfl⟩
theorem kw_2010 : Cond.fieldLink RX12 175 "WordTongueModel" "eOther" "[I" ∈ gWs := List.mem_filter.mpr ⟨gMt8 _ (List.mem_of_getElem? (i := 93) rfl), rfl⟩
theorem fl_X12_175 : gFL RX12 175 12 54 (.array .int) true := ⟨RX12, TX12, 119, tyX12, rfl, by decide, inW_RX12, kw_2010, tyX12_ok, nmX12, rfl, by decide +kernel, fun _ => rfl⟩
theorem kw_2013 : Cond.fieldLink RX12 184 "WordTongueModel" "eTok" "[I" ∈ gWs := List.mem_filter.mpr ⟨gMt8 _ (List.mem_of_getElem? (i := 96) rfl), rfl⟩
theorem fl_X12_184 : gFL RX12 184 12 57 (.array .int) true := ⟨RX12, TX12, 119, tyX12, rfl, by decide, inW_RX12, kw_2013, tyX12_ok, nmX12, rfl, by decide +kernel, fun _ => rfl⟩
theorem kw_2612 : Cond.code yX12_place cX12_place 2 (some .int) ∈ gWs := List.mem_filter.mpr ⟨gMt10 _ (List.mem_of_getElem? (i := 215) rfl), rfl⟩
theorem kw_2609 : Cond.methodLink RX12 613 yX12_place ∈ gWs := List.mem_filter.mpr ⟨gMt10 _ (List.mem_of_getElem? (i := 212) rfl), rfl⟩
theorem kw_2611 : Cond.instanceMethod yX12_place ∈ gWs := List.mem_filter.mpr ⟨gMt10 _ (List.mem_of_getElem? (i := 214) rfl), rfl⟩
theorem kw_170 : Cond.selects RX12 yX12_place yX12_place ∈ gWs := gWm 170 (by decide +kernel) rfl
theorem cl_X12_613 : gCV RX12 613 yX12_place cX12_place 2 (some .int) 1 := ⟨g_mk [.methodLink RX12 613 yX12_place, .instanceMethod yX12_place, .selects yX12_place.cls yX12_place yX12_place, .initialized yX12_place.cls] (gWs_all kw_2612) (List.forall_mem_cons.mpr ⟨kw_2609, List.forall_mem_cons.mpr ⟨kw_2611, List.forall_mem_cons.mpr ⟨kw_170, List.forall_mem_cons.mpr ⟨kw_257, fun _ h => nomatch h⟩⟩⟩⟩), rfl, by decide +kernel, by decide +kernel, by decide +kernel⟩
theorem kw_2011 : Cond.fieldLink RX12 178 "WordTongueModel" "blockBase" "I" ∈ gWs := List.mem_filter.mpr ⟨gMt8 _ (List.mem_of_getElem? (i := 94) rfl), rfl⟩
theorem fl_X12_178 : gFL RX12 178 12 55 .int false := ⟨RX12, TX12, 119, tyX12, rfl, by decide, inW_RX12, kw_2011, tyX12_ok, nmX12, rfl, by decide +kernel, fun h => by cases h⟩
theorem kw_2556 : Cond.code yX12_entry cX12_entry 6 (some .int) ∈ gWs := List.mem_filter.mpr ⟨gMt10 _ (List.mem_of_getElem? (i := 159) rfl), rfl⟩
theorem kw_2553 : Cond.methodLink RX12 609 yX12_entry ∈ gWs := List.mem_filter.mpr ⟨gMt10 _ (List.mem_of_getElem? (i := 156) rfl), rfl⟩
theorem kw_2555 : Cond.instanceMethod yX12_entry ∈ gWs := List.mem_filter.mpr ⟨gMt10 _ (List.mem_of_getElem? (i := 158) rfl), rfl⟩
theorem kw_161 : Cond.selects RX12 yX12_entry yX12_entry ∈ gWs := gWm 161 (by decide +kernel) rfl
theorem cl_X12_609 : gCV RX12 609 yX12_entry cX12_entry 6 (some .int) 5 := ⟨g_mk [.methodLink RX12 609 yX12_entry, .instanceMethod yX12_entry, .selects yX12_entry.cls yX12_entry yX12_entry, .initialized yX12_entry.cls] (gWs_all kw_2556) (List.forall_mem_cons.mpr ⟨kw_2553, List.forall_mem_cons.mpr ⟨kw_2555, List.forall_mem_cons.mpr ⟨kw_161, List.forall_mem_cons.mpr ⟨kw_257, fun _ h => nomatch h⟩⟩⟩⟩), rfl, by decide +kernel, by decide +kernel, by decide +kernel⟩
theorem kw_2620 : Cond.code yX12_tokenOfTwice cX12_tokenOfTwice 3 (some .int) ∈ gWs := List.mem_filter.mpr ⟨gMt10 _ (List.mem_of_getElem? (i := 223) rfl), rfl⟩
theorem kw_2617 : Cond.methodLink RX12 602 yX12_tokenOfTwice ∈ gWs := List.mem_filter.mpr ⟨gMt10 _ (List.mem_of_getElem? (i := 220) rfl), rfl⟩
theorem kw_2619 : Cond.instanceMethod yX12_tokenOfTwice ∈ gWs := List.mem_filter.mpr ⟨gMt10 _ (List.mem_of_getElem? (i := 222) rfl), rfl⟩
theorem kw_172 : Cond.selects RX12 yX12_tokenOfTwice yX12_tokenOfTwice ∈ gWs := gWm 172 (by decide +kernel) rfl
theorem cl_X12_602 : gCV RX12 602 yX12_tokenOfTwice cX12_tokenOfTwice 3 (some .int) 2 := ⟨g_mk [.methodLink RX12 602 yX12_tokenOfTwice, .instanceMethod yX12_tokenOfTwice, .selects yX12_tokenOfTwice.cls yX12_tokenOfTwice yX12_tokenOfTwice, .initialized yX12_tokenOfTwice.cls] (gWs_all kw_2620) (List.forall_mem_cons.mpr ⟨kw_2617, List.forall_mem_cons.mpr ⟨kw_2619, List.forall_mem_cons.mpr ⟨kw_172, List.forall_mem_cons.mpr ⟨kw_257, fun _ h => nomatch h⟩⟩⟩⟩), rfl, by decide +kernel, by decide +kernel, by decide +kernel⟩
theorem kw_2538 : Cond.code yX12_fault cX12_fault 3 none ∈ gWs := List.mem_filter.mpr ⟨gMt10 _ (List.mem_of_getElem? (i := 141) rfl), rfl⟩
theorem kw_2535 : Cond.methodLink RX12 605 yX12_fault ∈ gWs := List.mem_filter.mpr ⟨gMt10 _ (List.mem_of_getElem? (i := 138) rfl), rfl⟩
theorem kw_2537 : Cond.instanceMethod yX12_fault ∈ gWs := List.mem_filter.mpr ⟨gMt10 _ (List.mem_of_getElem? (i := 140) rfl), rfl⟩
theorem kw_157 : Cond.selects RX12 yX12_fault yX12_fault ∈ gWs := gWm 157 (by decide +kernel) rfl
theorem cl_X12_605 : gCV RX12 605 yX12_fault cX12_fault 3 none 2 := ⟨g_mk [.methodLink RX12 605 yX12_fault, .instanceMethod yX12_fault, .selects yX12_fault.cls yX12_fault yX12_fault, .initialized yX12_fault.cls] (gWs_all kw_2538) (List.forall_mem_cons.mpr ⟨kw_2535, List.forall_mem_cons.mpr ⟨kw_2537, List.forall_mem_cons.mpr ⟨kw_157, List.forall_mem_cons.mpr ⟨kw_257, fun _ h => nomatch h⟩⟩⟩⟩), rfl, by decide +kernel, by decide +kernel, by decide +kernel⟩
theorem kw_2608 : Cond.code yX12_means cX12_means 3 (some .int) ∈ gWs := List.mem_filter.mpr ⟨gMt10 _ (List.mem_of_getElem? (i := 211) rfl), rfl⟩
theorem kw_2605 : Cond.methodLink RX12 619 yX12_means ∈ gWs := List.mem_filter.mpr ⟨gMt10 _ (List.mem_of_getElem? (i := 208) rfl), rfl⟩
theorem kw_2607 : Cond.instanceMethod yX12_means ∈ gWs := List.mem_filter.mpr ⟨gMt10 _ (List.mem_of_getElem? (i := 210) rfl), rfl⟩
theorem kw_169 : Cond.selects RX12 yX12_means yX12_means ∈ gWs := gWm 169 (by decide +kernel) rfl
theorem cl_X12_619 : gCV RX12 619 yX12_means cX12_means 3 (some .int) 1 := ⟨g_mk [.methodLink RX12 619 yX12_means, .instanceMethod yX12_means, .selects yX12_means.cls yX12_means yX12_means, .initialized yX12_means.cls] (gWs_all kw_2608) (List.forall_mem_cons.mpr ⟨kw_2605, List.forall_mem_cons.mpr ⟨kw_2607, List.forall_mem_cons.mpr ⟨kw_169, List.forall_mem_cons.mpr ⟨kw_257, fun _ h => nomatch h⟩⟩⟩⟩), rfl, by decide +kernel, by decide +kernel, by decide +kernel⟩
theorem kw_2016 : Cond.fieldLink RX12 194 "WordTongueModel" "walk" "[I" ∈ gWs := List.mem_filter.mpr ⟨gMt8 _ (List.mem_of_getElem? (i := 99) rfl), rfl⟩
theorem fl_X12_194 : gFL RX12 194 12 60 (.array .int) true := ⟨RX12, TX12, 119, tyX12, rfl, by decide, inW_RX12, kw_2016, tyX12_ok, nmX12, rfl, by decide +kernel, fun _ => rfl⟩
theorem kw_2632 : Cond.code yX12_isKName cX12_isKName 3 (some .boolean) ∈ gWs := List.mem_filter.mpr ⟨gMt10 _ (List.mem_of_getElem? (i := 235) rfl), rfl⟩
theorem kw_2629 : Cond.methodLink RX12 616 yX12_isKName ∈ gWs := List.mem_filter.mpr ⟨gMt10 _ (List.mem_of_getElem? (i := 232) rfl), rfl⟩
theorem kw_2631 : Cond.instanceMethod yX12_isKName ∈ gWs := List.mem_filter.mpr ⟨gMt10 _ (List.mem_of_getElem? (i := 234) rfl), rfl⟩
theorem kw_175 : Cond.selects RX12 yX12_isKName yX12_isKName ∈ gWs := gWm 175 (by decide +kernel) rfl
theorem cl_X12_616 : gCV RX12 616 yX12_isKName cX12_isKName 3 (some .boolean) 1 := ⟨g_mk [.methodLink RX12 616 yX12_isKName, .instanceMethod yX12_isKName, .selects yX12_isKName.cls yX12_isKName yX12_isKName, .initialized yX12_isKName.cls] (gWs_all kw_2632) (List.forall_mem_cons.mpr ⟨kw_2629, List.forall_mem_cons.mpr ⟨kw_2631, List.forall_mem_cons.mpr ⟨kw_175, List.forall_mem_cons.mpr ⟨kw_257, fun _ h => nomatch h⟩⟩⟩⟩), rfl, by decide +kernel, by decide +kernel, by decide +kernel⟩
theorem kw_2654 : Cond.code yX12_shifted cX12_shifted 3 (some .int) ∈ gWs := List.mem_filter.mpr ⟨gMt11 _ (List.mem_of_getElem? (i := 17) rfl), rfl⟩
theorem kw_2652 : Cond.methodLink RX12 628 yX12_shifted ∈ gWs := List.mem_filter.mpr ⟨gMt11 _ (List.mem_of_getElem? (i := 15) rfl), rfl⟩
theorem kw_2653 : Cond.static yX12_shifted ∈ gWs := List.mem_filter.mpr ⟨gMt11 _ (List.mem_of_getElem? (i := 16) rfl), rfl⟩
theorem cl_X12_628 : gCS RX12 628 yX12_shifted cX12_shifted 3 (some .int) 3 := ⟨g_mk [.methodLink RX12 628 yX12_shifted, .static yX12_shifted, .initialized yX12_shifted.cls] (gWs_all kw_2654) (List.forall_mem_cons.mpr ⟨kw_2652, List.forall_mem_cons.mpr ⟨kw_2653, List.forall_mem_cons.mpr ⟨kw_257, fun _ h => nomatch h⟩⟩⟩), ⟨by decide +kernel, by decide +kernel, by decide +kernel⟩⟩
theorem kw_2651 : Cond.code yX12_remainder cX12_remainder 2 (some .int) ∈ gWs := List.mem_filter.mpr ⟨gMt11 _ (List.mem_of_getElem? (i := 14) rfl), rfl⟩
theorem kw_2649 : Cond.methodLink RX12 625 yX12_remainder ∈ gWs := List.mem_filter.mpr ⟨gMt11 _ (List.mem_of_getElem? (i := 12) rfl), rfl⟩
theorem kw_2650 : Cond.static yX12_remainder ∈ gWs := List.mem_filter.mpr ⟨gMt11 _ (List.mem_of_getElem? (i := 13) rfl), rfl⟩
theorem cl_X12_625 : gCS RX12 625 yX12_remainder cX12_remainder 2 (some .int) 2 := ⟨g_mk [.methodLink RX12 625 yX12_remainder, .static yX12_remainder, .initialized yX12_remainder.cls] (gWs_all kw_2651) (List.forall_mem_cons.mpr ⟨kw_2649, List.forall_mem_cons.mpr ⟨kw_2650, List.forall_mem_cons.mpr ⟨kw_257, fun _ h => nomatch h⟩⟩⟩), ⟨by decide +kernel, by decide +kernel, by decide +kernel⟩⟩
theorem kw_2648 : Cond.code yX12_quotient cX12_quotient 2 (some .int) ∈ gWs := List.mem_filter.mpr ⟨gMt11 _ (List.mem_of_getElem? (i := 11) rfl), rfl⟩
theorem kw_2646 : Cond.methodLink RX12 622 yX12_quotient ∈ gWs := List.mem_filter.mpr ⟨gMt11 _ (List.mem_of_getElem? (i := 9) rfl), rfl⟩
theorem kw_2647 : Cond.static yX12_quotient ∈ gWs := List.mem_filter.mpr ⟨gMt11 _ (List.mem_of_getElem? (i := 10) rfl), rfl⟩
theorem cl_X12_622 : gCS RX12 622 yX12_quotient cX12_quotient 2 (some .int) 2 := ⟨g_mk [.methodLink RX12 622 yX12_quotient, .static yX12_quotient, .initialized yX12_quotient.cls] (gWs_all kw_2648) (List.forall_mem_cons.mpr ⟨kw_2646, List.forall_mem_cons.mpr ⟨kw_2647, List.forall_mem_cons.mpr ⟨kw_257, fun _ h => nomatch h⟩⟩⟩), ⟨by decide +kernel, by decide +kernel, by decide +kernel⟩⟩
theorem kw_2017 : Cond.fieldLink RX12 197 "WordTongueModel" "step" "[I" ∈ gWs := List.mem_filter.mpr ⟨gMt8 _ (List.mem_of_getElem? (i := 100) rfl), rfl⟩
theorem fl_X12_197 : gFL RX12 197 12 61 (.array .int) true := ⟨RX12, TX12, 119, tyX12, rfl, by decide, inW_RX12, kw_2017, tyX12_ok, nmX12, rfl, by decide +kernel, fun _ => rfl⟩
theorem kw_2628 : Cond.code yX12_isK cX12_isK 8 (some .boolean) ∈ gWs := List.mem_filter.mpr ⟨gMt10 _ (List.mem_of_getElem? (i := 231) rfl), rfl⟩
theorem kw_2625 : Cond.methodLink RX12 632 yX12_isK ∈ gWs := List.mem_filter.mpr ⟨gMt10 _ (List.mem_of_getElem? (i := 228) rfl), rfl⟩
theorem kw_2627 : Cond.instanceMethod yX12_isK ∈ gWs := List.mem_filter.mpr ⟨gMt10 _ (List.mem_of_getElem? (i := 230) rfl), rfl⟩
theorem kw_174 : Cond.selects RX12 yX12_isK yX12_isK ∈ gWs := gWm 174 (by decide +kernel) rfl
theorem cl_X12_632 : gCV RX12 632 yX12_isK cX12_isK 8 (some .boolean) 1 := ⟨g_mk [.methodLink RX12 632 yX12_isK, .instanceMethod yX12_isK, .selects yX12_isK.cls yX12_isK yX12_isK, .initialized yX12_isK.cls] (gWs_all kw_2628) (List.forall_mem_cons.mpr ⟨kw_2625, List.forall_mem_cons.mpr ⟨kw_2627, List.forall_mem_cons.mpr ⟨kw_174, List.forall_mem_cons.mpr ⟨kw_257, fun _ h => nomatch h⟩⟩⟩⟩), rfl, by decide +kernel, by decide +kernel, by decide +kernel⟩
theorem kw_2014 : Cond.fieldLink RX12 187 "WordTongueModel" "kGood" "Z" ∈ gWs := List.mem_filter.mpr ⟨gMt8 _ (List.mem_of_getElem? (i := 97) rfl), rfl⟩
theorem fl_X12_187 : gFL RX12 187 12 58 .boolean false := ⟨RX12, TX12, 119, tyX12, rfl, by decide, inW_RX12, kw_2014, tyX12_ok, nmX12, rfl, by decide +kernel, fun h => by cases h⟩
theorem kw_2015 : Cond.fieldLink RX12 191 "WordTongueModel" "kValue" "I" ∈ gWs := List.mem_filter.mpr ⟨gMt8 _ (List.mem_of_getElem? (i := 98) rfl), rfl⟩
theorem fl_X12_191 : gFL RX12 191 12 59 .int false := ⟨RX12, TX12, 119, tyX12, rfl, by decide, inW_RX12, kw_2015, tyX12_ok, nmX12, rfl, by decide +kernel, fun h => by cases h⟩
theorem kw_2018 : Cond.fieldLink RX12 200 "WordTongueModel" "kWork" "[I" ∈ gWs := List.mem_filter.mpr ⟨gMt8 _ (List.mem_of_getElem? (i := 101) rfl), rfl⟩
theorem fl_X12_200 : gFL RX12 200 12 62 (.array .int) true := ⟨RX12, TX12, 119, tyX12, rfl, by decide, inW_RX12, kw_2018, tyX12_ok, nmX12, rfl, by decide +kernel, fun _ => rfl⟩
theorem kw_2645 : Cond.code yX12_worked cX12_worked 3 (some .int) ∈ gWs := List.mem_filter.mpr ⟨gMt11 _ (List.mem_of_getElem? (i := 8) rfl), rfl⟩
theorem kw_2643 : Cond.methodLink RX12 644 yX12_worked ∈ gWs := List.mem_filter.mpr ⟨gMt11 _ (List.mem_of_getElem? (i := 6) rfl), rfl⟩
theorem kw_2644 : Cond.static yX12_worked ∈ gWs := List.mem_filter.mpr ⟨gMt11 _ (List.mem_of_getElem? (i := 7) rfl), rfl⟩
theorem cl_X12_644 : gCS RX12 644 yX12_worked cX12_worked 3 (some .int) 3 := ⟨g_mk [.methodLink RX12 644 yX12_worked, .static yX12_worked, .initialized yX12_worked.cls] (gWs_all kw_2645) (List.forall_mem_cons.mpr ⟨kw_2643, List.forall_mem_cons.mpr ⟨kw_2644, List.forall_mem_cons.mpr ⟨kw_257, fun _ h => nomatch h⟩⟩⟩), ⟨by decide +kernel, by decide +kernel, by decide +kernel⟩⟩
theorem kw_2636 : Cond.code yX12_later cX12_later 3 (some .int) ∈ gWs := List.mem_filter.mpr ⟨gMt10 _ (List.mem_of_getElem? (i := 239) rfl), rfl⟩
theorem kw_2633 : Cond.methodLink RX12 635 yX12_later ∈ gWs := List.mem_filter.mpr ⟨gMt10 _ (List.mem_of_getElem? (i := 236) rfl), rfl⟩
theorem kw_2635 : Cond.instanceMethod yX12_later ∈ gWs := List.mem_filter.mpr ⟨gMt10 _ (List.mem_of_getElem? (i := 238) rfl), rfl⟩
theorem kw_176 : Cond.selects RX12 yX12_later yX12_later ∈ gWs := gWm 176 (by decide +kernel) rfl
theorem cl_X12_635 : gCV RX12 635 yX12_later cX12_later 3 (some .int) 2 := ⟨g_mk [.methodLink RX12 635 yX12_later, .instanceMethod yX12_later, .selects yX12_later.cls yX12_later yX12_later, .initialized yX12_later.cls] (gWs_all kw_2636) (List.forall_mem_cons.mpr ⟨kw_2633, List.forall_mem_cons.mpr ⟨kw_2635, List.forall_mem_cons.mpr ⟨kw_176, List.forall_mem_cons.mpr ⟨kw_257, fun _ h => nomatch h⟩⟩⟩⟩), rfl, by decide +kernel, by decide +kernel, by decide +kernel⟩
theorem kw_2642 : Cond.code yX12_related cX12_related 3 (some .boolean) ∈ gWs := List.mem_filter.mpr ⟨gMt11 _ (List.mem_of_getElem? (i := 5) rfl), rfl⟩
theorem kw_2640 : Cond.methodLink RX12 641 yX12_related ∈ gWs := List.mem_filter.mpr ⟨gMt11 _ (List.mem_of_getElem? (i := 3) rfl), rfl⟩
theorem kw_2641 : Cond.static yX12_related ∈ gWs := List.mem_filter.mpr ⟨gMt11 _ (List.mem_of_getElem? (i := 4) rfl), rfl⟩
theorem cl_X12_641 : gCS RX12 641 yX12_related cX12_related 3 (some .boolean) 3 := ⟨g_mk [.methodLink RX12 641 yX12_related, .static yX12_related, .initialized yX12_related.cls] (gWs_all kw_2642) (List.forall_mem_cons.mpr ⟨kw_2640, List.forall_mem_cons.mpr ⟨kw_2641, List.forall_mem_cons.mpr ⟨kw_257, fun _ h => nomatch h⟩⟩⟩), ⟨by decide +kernel, by decide +kernel, by decide +kernel⟩⟩
theorem kw_2639 : Cond.code yX12_signed cX12_signed 2 (some .int) ∈ gWs := List.mem_filter.mpr ⟨gMt11 _ (List.mem_of_getElem? (i := 2) rfl), rfl⟩
theorem kw_2637 : Cond.methodLink RX12 638 yX12_signed ∈ gWs := List.mem_filter.mpr ⟨gMt11 _ (List.mem_of_getElem? (i := 0) rfl), rfl⟩
theorem kw_2638 : Cond.static yX12_signed ∈ gWs := List.mem_filter.mpr ⟨gMt11 _ (List.mem_of_getElem? (i := 1) rfl), rfl⟩
theorem cl_X12_638 : gCS RX12 638 yX12_signed cX12_signed 2 (some .int) 2 := ⟨g_mk [.methodLink RX12 638 yX12_signed, .static yX12_signed, .initialized yX12_signed.cls] (gWs_all kw_2639) (List.forall_mem_cons.mpr ⟨kw_2637, List.forall_mem_cons.mpr ⟨kw_2638, List.forall_mem_cons.mpr ⟨kw_257, fun _ h => nomatch h⟩⟩⟩), ⟨by decide +kernel, by decide +kernel, by decide +kernel⟩⟩
theorem kw_2020 : Cond.fieldLink RX12 206 "WordTongueModel" "cTask" "[I" ∈ gWs := List.mem_filter.mpr ⟨gMt8 _ (List.mem_of_getElem? (i := 103) rfl), rfl⟩
theorem fl_X12_206 : gFL RX12 206 12 64 (.array .int) true := ⟨RX12, TX12, 119, tyX12, rfl, by decide, inW_RX12, kw_2020, tyX12_ok, nmX12, rfl, by decide +kernel, fun _ => rfl⟩
theorem kw_2019 : Cond.fieldLink RX12 203 "WordTongueModel" "tasks" "I" ∈ gWs := List.mem_filter.mpr ⟨gMt8 _ (List.mem_of_getElem? (i := 102) rfl), rfl⟩
theorem fl_X12_203 : gFL RX12 203 12 63 .int false := ⟨RX12, TX12, 119, tyX12, rfl, by decide, inW_RX12, kw_2019, tyX12_ok, nmX12, rfl, by decide +kernel, fun h => by cases h⟩
theorem kw_2021 : Cond.fieldLink RX12 209 "WordTongueModel" "cNode" "[I" ∈ gWs := List.mem_filter.mpr ⟨gMt8 _ (List.mem_of_getElem? (i := 104) rfl), rfl⟩
theorem fl_X12_209 : gFL RX12 209 12 65 (.array .int) true := ⟨RX12, TX12, 119, tyX12, rfl, by decide, inW_RX12, kw_2021, tyX12_ok, nmX12, rfl, by decide +kernel, fun _ => rfl⟩
theorem kw_2022 : Cond.fieldLink RX12 212 "WordTongueModel" "cAux" "[I" ∈ gWs := List.mem_filter.mpr ⟨gMt8 _ (List.mem_of_getElem? (i := 105) rfl), rfl⟩
theorem fl_X12_212 : gFL RX12 212 12 66 (.array .int) true := ⟨RX12, TX12, 119, tyX12, rfl, by decide, inW_RX12, kw_2022, tyX12_ok, nmX12, rfl, by decide +kernel, fun _ => rfl⟩
theorem kw_2024 : Cond.fieldLink RX12 219 "WordTongueModel" "save" "[I" ∈ gWs := List.mem_filter.mpr ⟨gMt8 _ (List.mem_of_getElem? (i := 107) rfl), rfl⟩
theorem fl_X12_219 : gFL RX12 219 12 68 (.array .int) true := ⟨RX12, TX12, 119, tyX12, rfl, by decide, inW_RX12, kw_2024, tyX12_ok, nmX12, rfl, by decide +kernel, fun _ => rfl⟩
theorem kw_2023 : Cond.fieldLink RX12 215 "WordTongueModel" "saved" "I" ∈ gWs := List.mem_filter.mpr ⟨gMt8 _ (List.mem_of_getElem? (i := 106) rfl), rfl⟩
theorem fl_X12_215 : gFL RX12 215 12 67 .int false := ⟨RX12, TX12, 119, tyX12, rfl, by decide, inW_RX12, kw_2023, tyX12_ok, nmX12, rfl, by decide +kernel, fun h => by cases h⟩
theorem kw_2040 : Cond.fieldLink RX12 267 "WordTongueModel" "inits" "I" ∈ gWs := List.mem_filter.mpr ⟨gMt8 _ (List.mem_of_getElem? (i := 123) rfl), rfl⟩
theorem fl_X12_267 : gFL RX12 267 12 84 .int false := ⟨RX12, TX12, 119, tyX12, rfl, by decide, inW_RX12, kw_2040, tyX12_ok, nmX12, rfl, by decide +kernel, fun h => by cases h⟩
theorem kw_2041 : Cond.fieldLink RX12 270 "WordTongueModel" "initAt" "[I" ∈ gWs := List.mem_filter.mpr ⟨gMt8 _ (List.mem_of_getElem? (i := 124) rfl), rfl⟩
theorem fl_X12_270 : gFL RX12 270 12 85 (.array .int) true := ⟨RX12, TX12, 119, tyX12, rfl, by decide, inW_RX12, kw_2041, tyX12_ok, nmX12, rfl, by decide +kernel, fun _ => rfl⟩
theorem kw_2042 : Cond.fieldLink RX12 273 "WordTongueModel" "initValue" "[I" ∈ gWs := List.mem_filter.mpr ⟨gMt8 _ (List.mem_of_getElem? (i := 125) rfl), rfl⟩
theorem fl_X12_273 : gFL RX12 273 12 86 (.array .int) true := ⟨RX12, TX12, 119, tyX12, rfl, by decide, inW_RX12, kw_2042, tyX12_ok, nmX12, rfl, by decide +kernel, fun _ => rfl⟩
theorem kw_2588 : Cond.code yX12_turn cX12_turn 7 none ∈ gWs := List.mem_filter.mpr ⟨gMt10 _ (List.mem_of_getElem? (i := 191) rfl), rfl⟩
theorem kw_2585 : Cond.methodLink RX12 650 yX12_turn ∈ gWs := List.mem_filter.mpr ⟨gMt10 _ (List.mem_of_getElem? (i := 188) rfl), rfl⟩
theorem kw_2587 : Cond.instanceMethod yX12_turn ∈ gWs := List.mem_filter.mpr ⟨gMt10 _ (List.mem_of_getElem? (i := 190) rfl), rfl⟩
theorem kw_164 : Cond.selects RX12 yX12_turn yX12_turn ∈ gWs := gWm 164 (by decide +kernel) rfl
theorem cl_X12_650 : gCV RX12 650 yX12_turn cX12_turn 7 none 1 := ⟨g_mk [.methodLink RX12 650 yX12_turn, .instanceMethod yX12_turn, .selects yX12_turn.cls yX12_turn yX12_turn, .initialized yX12_turn.cls] (gWs_all kw_2588) (List.forall_mem_cons.mpr ⟨kw_2585, List.forall_mem_cons.mpr ⟨kw_2587, List.forall_mem_cons.mpr ⟨kw_164, List.forall_mem_cons.mpr ⟨kw_257, fun _ h => nomatch h⟩⟩⟩⟩), rfl, by decide +kernel, by decide +kernel, by decide +kernel⟩
theorem kw_2584 : Cond.code yX12_task cX12_task 4 none ∈ gWs := List.mem_filter.mpr ⟨gMt10 _ (List.mem_of_getElem? (i := 187) rfl), rfl⟩
theorem kw_2581 : Cond.methodLink RX12 647 yX12_task ∈ gWs := List.mem_filter.mpr ⟨gMt10 _ (List.mem_of_getElem? (i := 184) rfl), rfl⟩
theorem kw_2583 : Cond.instanceMethod yX12_task ∈ gWs := List.mem_filter.mpr ⟨gMt10 _ (List.mem_of_getElem? (i := 186) rfl), rfl⟩
theorem kw_163 : Cond.selects RX12 yX12_task yX12_task ∈ gWs := gWm 163 (by decide +kernel) rfl
theorem cl_X12_647 : gCV RX12 647 yX12_task cX12_task 4 none 3 := ⟨g_mk [.methodLink RX12 647 yX12_task, .instanceMethod yX12_task, .selects yX12_task.cls yX12_task yX12_task, .initialized yX12_task.cls] (gWs_all kw_2584) (List.forall_mem_cons.mpr ⟨kw_2581, List.forall_mem_cons.mpr ⟨kw_2583, List.forall_mem_cons.mpr ⟨kw_163, List.forall_mem_cons.mpr ⟨kw_257, fun _ h => nomatch h⟩⟩⟩⟩), rfl, by decide +kernel, by decide +kernel, by decide +kernel⟩
theorem kw_2552 : Cond.constant RX12 697 2000000 ∈ gWs := List.mem_filter.mpr ⟨gMt10 _ (List.mem_of_getElem? (i := 155) rfl), rfl⟩
theorem kw_2547 : Cond.constantLong RX12 653 96010929194318 ∈ gWs := List.mem_filter.mpr ⟨gMt10 _ (List.mem_of_getElem? (i := 150) rfl), rfl⟩
theorem kw_2551 : Cond.code yX12_lib cX12_lib 8 none ∈ gWs := List.mem_filter.mpr ⟨gMt10 _ (List.mem_of_getElem? (i := 154) rfl), rfl⟩
theorem kw_2548 : Cond.methodLink RX12 655 yX12_lib ∈ gWs := List.mem_filter.mpr ⟨gMt10 _ (List.mem_of_getElem? (i := 151) rfl), rfl⟩
theorem kw_2550 : Cond.instanceMethod yX12_lib ∈ gWs := List.mem_filter.mpr ⟨gMt10 _ (List.mem_of_getElem? (i := 153) rfl), rfl⟩
theorem kw_160 : Cond.selects RX12 yX12_lib yX12_lib ∈ gWs := gWm 160 (by decide +kernel) rfl
theorem cl_X12_655 : gCV RX12 655 yX12_lib cX12_lib 8 none 3 := ⟨g_mk [.methodLink RX12 655 yX12_lib, .instanceMethod yX12_lib, .selects yX12_lib.cls yX12_lib yX12_lib, .initialized yX12_lib.cls] (gWs_all kw_2551) (List.forall_mem_cons.mpr ⟨kw_2548, List.forall_mem_cons.mpr ⟨kw_2550, List.forall_mem_cons.mpr ⟨kw_160, List.forall_mem_cons.mpr ⟨kw_257, fun _ h => nomatch h⟩⟩⟩⟩), rfl, by decide +kernel, by decide +kernel, by decide +kernel⟩
theorem kw_2557 : Cond.constantLong RX12 659 96010929194323 ∈ gWs := List.mem_filter.mpr ⟨gMt10 _ (List.mem_of_getElem? (i := 160) rfl), rfl⟩
theorem kw_2558 : Cond.constantLong RX12 661 1465008968 ∈ gWs := List.mem_filter.mpr ⟨gMt10 _ (List.mem_of_getElem? (i := 161) rfl), rfl⟩
theorem kw_2559 : Cond.constantLong RX12 663 22031289427775045 ∈ gWs := List.mem_filter.mpr ⟨gMt10 _ (List.mem_of_getElem? (i := 162) rfl), rfl⟩
theorem kw_2560 : Cond.constantLong RX12 665 1380205384 ∈ gWs := List.mem_filter.mpr ⟨gMt10 _ (List.mem_of_getElem? (i := 163) rfl), rfl⟩
theorem kw_2561 : Cond.constantLong RX12 667 1398034256 ∈ gWs := List.mem_filter.mpr ⟨gMt10 _ (List.mem_of_getElem? (i := 164) rfl), rfl⟩
theorem kw_2562 : Cond.constantLong RX12 669 4276819 ∈ gWs := List.mem_filter.mpr ⟨gMt10 _ (List.mem_of_getElem? (i := 165) rfl), rfl⟩
theorem kw_2563 : Cond.constantLong RX12 671 93794876015432 ∈ gWs := List.mem_filter.mpr ⟨gMt10 _ (List.mem_of_getElem? (i := 166) rfl), rfl⟩
theorem kw_2564 : Cond.constantLong RX12 673 6000285938907105614 ∈ gWs := List.mem_filter.mpr ⟨gMt10 _ (List.mem_of_getElem? (i := 167) rfl), rfl⟩
theorem kw_2565 : Cond.constantLong RX12 675 5264724 ∈ gWs := List.mem_filter.mpr ⟨gMt10 _ (List.mem_of_getElem? (i := 168) rfl), rfl⟩
theorem kw_2566 : Cond.constantLong RX12 677 6000285938907107157 ∈ gWs := List.mem_filter.mpr ⟨gMt10 _ (List.mem_of_getElem? (i := 169) rfl), rfl⟩
theorem kw_2567 : Cond.constantLong RX12 679 1414550868 ∈ gWs := List.mem_filter.mpr ⟨gMt10 _ (List.mem_of_getElem? (i := 170) rfl), rfl⟩
theorem kw_2568 : Cond.constantLong RX12 681 90457770643012 ∈ gWs := List.mem_filter.mpr ⟨gMt10 _ (List.mem_of_getElem? (i := 171) rfl), rfl⟩
theorem kw_2569 : Cond.constantLong RX12 683 78363093255491 ∈ gWs := List.mem_filter.mpr ⟨gMt10 _ (List.mem_of_getElem? (i := 172) rfl), rfl⟩
theorem kw_2570 : Cond.constantLong RX12 685 19793705839248707 ∈ gWs := List.mem_filter.mpr ⟨gMt10 _ (List.mem_of_getElem? (i := 173) rfl), rfl⟩
theorem kw_2571 : Cond.constantLong RX12 687 18384196524721475 ∈ gWs := List.mem_filter.mpr ⟨gMt10 _ (List.mem_of_getElem? (i := 174) rfl), rfl⟩
theorem kw_2572 : Cond.constantLong RX12 689 85028747102550 ∈ gWs := List.mem_filter.mpr ⟨gMt10 _ (List.mem_of_getElem? (i := 175) rfl), rfl⟩
theorem kw_2573 : Cond.constantLong RX12 691 96010929194308 ∈ gWs := List.mem_filter.mpr ⟨gMt10 _ (List.mem_of_getElem? (i := 176) rfl), rfl⟩
theorem kw_2574 : Cond.constantLong RX12 693 6292172255678448984 ∈ gWs := List.mem_filter.mpr ⟨gMt10 _ (List.mem_of_getElem? (i := 177) rfl), rfl⟩
theorem kw_2575 : Cond.constantLong RX12 695 353349223502 ∈ gWs := List.mem_filter.mpr ⟨gMt10 _ (List.mem_of_getElem? (i := 178) rfl), rfl⟩
theorem kw_2029 : Cond.fieldLink RX12 234 "WordTongueModel" "routine" "I" ∈ gWs := List.mem_filter.mpr ⟨gMt8 _ (List.mem_of_getElem? (i := 112) rfl), rfl⟩
theorem fl_X12_234 : gFL RX12 234 12 73 .int false := ⟨RX12, TX12, 119, tyX12, rfl, by decide, inW_RX12, kw_2029, tyX12_ok, nmX12, rfl, by decide +kernel, fun h => by cases h⟩
theorem kw_2580 : Cond.code yX12_children cX12_children 5 none ∈ gWs := List.mem_filter.mpr ⟨gMt10 _ (List.mem_of_getElem? (i := 183) rfl), rfl⟩
theorem kw_2577 : Cond.methodLink RX12 703 yX12_children ∈ gWs := List.mem_filter.mpr ⟨gMt10 _ (List.mem_of_getElem? (i := 180) rfl), rfl⟩
theorem kw_2579 : Cond.instanceMethod yX12_children ∈ gWs := List.mem_filter.mpr ⟨gMt10 _ (List.mem_of_getElem? (i := 182) rfl), rfl⟩
theorem kw_162 : Cond.selects RX12 yX12_children yX12_children ∈ gWs := gWm 162 (by decide +kernel) rfl
theorem cl_X12_703 : gCV RX12 703 yX12_children cX12_children 5 none 2 := ⟨g_mk [.methodLink RX12 703 yX12_children, .instanceMethod yX12_children, .selects yX12_children.cls yX12_children yX12_children, .initialized yX12_children.cls] (gWs_all kw_2580) (List.forall_mem_cons.mpr ⟨kw_2577, List.forall_mem_cons.mpr ⟨kw_2579, List.forall_mem_cons.mpr ⟨kw_162, List.forall_mem_cons.mpr ⟨kw_257, fun _ h => nomatch h⟩⟩⟩⟩), rfl, by decide +kernel, by decide +kernel, by decide +kernel⟩
theorem kw_2604 : Cond.code yX12_nameToken cX12_nameToken 2 (some .int) ∈ gWs := List.mem_filter.mpr ⟨gMt10 _ (List.mem_of_getElem? (i := 207) rfl), rfl⟩
theorem kw_2601 : Cond.methodLink RX12 749 yX12_nameToken ∈ gWs := List.mem_filter.mpr ⟨gMt10 _ (List.mem_of_getElem? (i := 204) rfl), rfl⟩
theorem kw_2603 : Cond.instanceMethod yX12_nameToken ∈ gWs := List.mem_filter.mpr ⟨gMt10 _ (List.mem_of_getElem? (i := 206) rfl), rfl⟩
theorem kw_168 : Cond.selects RX12 yX12_nameToken yX12_nameToken ∈ gWs := gWm 168 (by decide +kernel) rfl
theorem cl_X12_749 : gCV RX12 749 yX12_nameToken cX12_nameToken 2 (some .int) 1 := ⟨g_mk [.methodLink RX12 749 yX12_nameToken, .instanceMethod yX12_nameToken, .selects yX12_nameToken.cls yX12_nameToken yX12_nameToken, .initialized yX12_nameToken.cls] (gWs_all kw_2604) (List.forall_mem_cons.mpr ⟨kw_2601, List.forall_mem_cons.mpr ⟨kw_2603, List.forall_mem_cons.mpr ⟨kw_168, List.forall_mem_cons.mpr ⟨kw_257, fun _ h => nomatch h⟩⟩⟩⟩), rfl, by decide +kernel, by decide +kernel, by decide +kernel⟩
theorem kw_2616 : Cond.code yX12_declare cX12_declare 8 (some .int) ∈ gWs := List.mem_filter.mpr ⟨gMt10 _ (List.mem_of_getElem? (i := 219) rfl), rfl⟩
theorem kw_2613 : Cond.methodLink RX12 752 yX12_declare ∈ gWs := List.mem_filter.mpr ⟨gMt10 _ (List.mem_of_getElem? (i := 216) rfl), rfl⟩
theorem kw_2615 : Cond.instanceMethod yX12_declare ∈ gWs := List.mem_filter.mpr ⟨gMt10 _ (List.mem_of_getElem? (i := 218) rfl), rfl⟩
theorem kw_171 : Cond.selects RX12 yX12_declare yX12_declare ∈ gWs := gWm 171 (by decide +kernel) rfl
theorem cl_X12_752 : gCV RX12 752 yX12_declare cX12_declare 8 (some .int) 6 := ⟨g_mk [.methodLink RX12 752 yX12_declare, .instanceMethod yX12_declare, .selects yX12_declare.cls yX12_declare yX12_declare, .initialized yX12_declare.cls] (gWs_all kw_2616) (List.forall_mem_cons.mpr ⟨kw_2613, List.forall_mem_cons.mpr ⟨kw_2615, List.forall_mem_cons.mpr ⟨kw_171, List.forall_mem_cons.mpr ⟨kw_257, fun _ h => nomatch h⟩⟩⟩⟩), rfl, by decide +kernel, by decide +kernel, by decide +kernel⟩
theorem kw_2039 : Cond.fieldLink RX12 264 "WordTongueModel" "startName" "I" ∈ gWs := List.mem_filter.mpr ⟨gMt8 _ (List.mem_of_getElem? (i := 122) rfl), rfl⟩
theorem fl_X12_264 : gFL RX12 264 12 83 .int false := ⟨RX12, TX12, 119, tyX12, rfl, by decide, inW_RX12, kw_2039, tyX12_ok, nmX12, rfl, by decide +kernel, fun h => by cases h⟩
theorem kw_2038 : Cond.fieldLink RX12 261 "WordTongueModel" "start" "I" ∈ gWs := List.mem_filter.mpr ⟨gMt8 _ (List.mem_of_getElem? (i := 121) rfl), rfl⟩
theorem fl_X12_261 : gFL RX12 261 12 82 .int false := ⟨RX12, TX12, 119, tyX12, rfl, by decide, inW_RX12, kw_2038, tyX12_ok, nmX12, rfl, by decide +kernel, fun h => by cases h⟩
theorem kw_2624 : Cond.code yX12_constant cX12_constant 10 none ∈ gWs := List.mem_filter.mpr ⟨gMt10 _ (List.mem_of_getElem? (i := 227) rfl), rfl⟩
theorem kw_2621 : Cond.methodLink RX12 756 yX12_constant ∈ gWs := List.mem_filter.mpr ⟨gMt10 _ (List.mem_of_getElem? (i := 224) rfl), rfl⟩
theorem kw_2623 : Cond.instanceMethod yX12_constant ∈ gWs := List.mem_filter.mpr ⟨gMt10 _ (List.mem_of_getElem? (i := 226) rfl), rfl⟩
theorem kw_173 : Cond.selects RX12 yX12_constant yX12_constant ∈ gWs := gWm 173 (by decide +kernel) rfl
theorem cl_X12_756 : gCV RX12 756 yX12_constant cX12_constant 10 none 1 := ⟨g_mk [.methodLink RX12 756 yX12_constant, .instanceMethod yX12_constant, .selects yX12_constant.cls yX12_constant yX12_constant, .initialized yX12_constant.cls] (gWs_all kw_2624) (List.forall_mem_cons.mpr ⟨kw_2621, List.forall_mem_cons.mpr ⟨kw_2623, List.forall_mem_cons.mpr ⟨kw_173, List.forall_mem_cons.mpr ⟨kw_257, fun _ h => nomatch h⟩⟩⟩⟩), rfl, by decide +kernel, by decide +kernel, by decide +kernel⟩
theorem kw_2037 : Cond.fieldLink RX12 258 "WordTongueModel" "words" "I" ∈ gWs := List.mem_filter.mpr ⟨gMt8 _ (List.mem_of_getElem? (i := 120) rfl), rfl⟩
theorem fl_X12_258 : gFL RX12 258 12 81 .int false := ⟨RX12, TX12, 119, tyX12, rfl, by decide, inW_RX12, kw_2037, tyX12_ok, nmX12, rfl, by decide +kernel, fun h => by cases h⟩
theorem kw_2658 : Cond.code yX12_init_ cX12_init_ 3 none ∈ gWs := List.mem_filter.mpr ⟨gMt11 _ (List.mem_of_getElem? (i := 21) rfl), rfl⟩
theorem kw_2655 : Cond.methodLink RX12 759 yX12_init_ ∈ gWs := List.mem_filter.mpr ⟨gMt11 _ (List.mem_of_getElem? (i := 18) rfl), rfl⟩
theorem kw_2657 : Cond.instanceMethod yX12_init_ ∈ gWs := List.mem_filter.mpr ⟨gMt11 _ (List.mem_of_getElem? (i := 20) rfl), rfl⟩
theorem kw_177 : Cond.selects RX12 yX12_init_ yX12_init_ ∈ gWs := gWm 177 (by decide +kernel) rfl
theorem cl_X12_759 : gCV RX12 759 yX12_init_ cX12_init_ 3 none 2 := ⟨g_mk [.methodLink RX12 759 yX12_init_, .instanceMethod yX12_init_, .selects yX12_init_.cls yX12_init_ yX12_init_, .initialized yX12_init_.cls] (gWs_all kw_2658) (List.forall_mem_cons.mpr ⟨kw_2655, List.forall_mem_cons.mpr ⟨kw_2657, List.forall_mem_cons.mpr ⟨kw_177, List.forall_mem_cons.mpr ⟨kw_257, fun _ h => nomatch h⟩⟩⟩⟩), rfl, by decide +kernel, by decide +kernel, by decide +kernel⟩
theorem kw_2600 : Cond.code yX12_letRoutines cX12_letRoutines 6 none ∈ gWs := List.mem_filter.mpr ⟨gMt10 _ (List.mem_of_getElem? (i := 203) rfl), rfl⟩
theorem kw_2597 : Cond.methodLink RX12 746 yX12_letRoutines ∈ gWs := List.mem_filter.mpr ⟨gMt10 _ (List.mem_of_getElem? (i := 200) rfl), rfl⟩
theorem kw_2599 : Cond.instanceMethod yX12_letRoutines ∈ gWs := List.mem_filter.mpr ⟨gMt10 _ (List.mem_of_getElem? (i := 202) rfl), rfl⟩
theorem kw_167 : Cond.selects RX12 yX12_letRoutines yX12_letRoutines ∈ gWs := gWm 167 (by decide +kernel) rfl
theorem cl_X12_746 : gCV RX12 746 yX12_letRoutines cX12_letRoutines 6 none 1 := ⟨g_mk [.methodLink RX12 746 yX12_letRoutines, .instanceMethod yX12_letRoutines, .selects yX12_letRoutines.cls yX12_letRoutines yX12_letRoutines, .initialized yX12_letRoutines.cls] (gWs_all kw_2600) (List.forall_mem_cons.mpr ⟨kw_2597, List.forall_mem_cons.mpr ⟨kw_2599, List.forall_mem_cons.mpr ⟨kw_167, List.forall_mem_cons.mpr ⟨kw_257, fun _ h => nomatch h⟩⟩⟩⟩), rfl, by decide +kernel, by decide +kernel, by decide +kernel⟩
theorem kw_2030 : Cond.fieldLink RX12 237 "WordTongueModel" "inUse" "I" ∈ gWs := List.mem_filter.mpr ⟨gMt8 _ (List.mem_of_getElem? (i := 113) rfl), rfl⟩
theorem fl_X12_237 : gFL RX12 237 12 74 .int false := ⟨RX12, TX12, 119, tyX12, rfl, by decide, inW_RX12, kw_2030, tyX12_ok, nmX12, rfl, by decide +kernel, fun h => by cases h⟩
theorem kw_2670 : Cond.code yX12_put cX12_put 2 none ∈ gWs := List.mem_filter.mpr ⟨gMt11 _ (List.mem_of_getElem? (i := 33) rfl), rfl⟩
theorem kw_2667 : Cond.methodLink RX12 763 yX12_put ∈ gWs := List.mem_filter.mpr ⟨gMt11 _ (List.mem_of_getElem? (i := 30) rfl), rfl⟩
theorem kw_2669 : Cond.instanceMethod yX12_put ∈ gWs := List.mem_filter.mpr ⟨gMt11 _ (List.mem_of_getElem? (i := 32) rfl), rfl⟩
theorem kw_180 : Cond.selects RX12 yX12_put yX12_put ∈ gWs := gWm 180 (by decide +kernel) rfl
theorem cl_X12_763 : gCV RX12 763 yX12_put cX12_put 2 none 1 := ⟨g_mk [.methodLink RX12 763 yX12_put, .instanceMethod yX12_put, .selects yX12_put.cls yX12_put yX12_put, .initialized yX12_put.cls] (gWs_all kw_2670) (List.forall_mem_cons.mpr ⟨kw_2667, List.forall_mem_cons.mpr ⟨kw_2669, List.forall_mem_cons.mpr ⟨kw_180, List.forall_mem_cons.mpr ⟨kw_257, fun _ h => nomatch h⟩⟩⟩⟩), rfl, by decide +kernel, by decide +kernel, by decide +kernel⟩
theorem kw_2033 : Cond.fieldLink RX12 246 "WordTongueModel" "valof" "I" ∈ gWs := List.mem_filter.mpr ⟨gMt8 _ (List.mem_of_getElem? (i := 116) rfl), rfl⟩
theorem fl_X12_246 : gFL RX12 246 12 77 .int false := ⟨RX12, TX12, 119, tyX12, rfl, by decide, inW_RX12, kw_2033, tyX12_ok, nmX12, rfl, by decide +kernel, fun h => by cases h⟩
theorem kw_2035 : Cond.fieldLink RX12 252 "WordTongueModel" "loops" "I" ∈ gWs := List.mem_filter.mpr ⟨gMt8 _ (List.mem_of_getElem? (i := 118) rfl), rfl⟩
theorem fl_X12_252 : gFL RX12 252 12 79 .int false := ⟨RX12, TX12, 119, tyX12, rfl, by decide, inW_RX12, kw_2035, tyX12_ok, nmX12, rfl, by decide +kernel, fun h => by cases h⟩
theorem kw_2032 : Cond.fieldLink RX12 243 "WordTongueModel" "gives" "Z" ∈ gWs := List.mem_filter.mpr ⟨gMt8 _ (List.mem_of_getElem? (i := 115) rfl), rfl⟩
theorem fl_X12_243 : gFL RX12 243 12 76 .boolean false := ⟨RX12, TX12, 119, tyX12, rfl, by decide, inW_RX12, kw_2032, tyX12_ok, nmX12, rfl, by decide +kernel, fun h => by cases h⟩
theorem kw_2036 : Cond.fieldLink RX12 255 "WordTongueModel" "switches" "I" ∈ gWs := List.mem_filter.mpr ⟨gMt8 _ (List.mem_of_getElem? (i := 119) rfl), rfl⟩
theorem fl_X12_255 : gFL RX12 255 12 80 .int false := ⟨RX12, TX12, 119, tyX12, rfl, by decide, inW_RX12, kw_2036, tyX12_ok, nmX12, rfl, by decide +kernel, fun h => by cases h⟩
theorem kw_2678 : Cond.code yX12_goesTo cX12_goesTo 3 none ∈ gWs := List.mem_filter.mpr ⟨gMt11 _ (List.mem_of_getElem? (i := 41) rfl), rfl⟩
theorem kw_2675 : Cond.methodLink RX12 779 yX12_goesTo ∈ gWs := List.mem_filter.mpr ⟨gMt11 _ (List.mem_of_getElem? (i := 38) rfl), rfl⟩
theorem kw_2677 : Cond.instanceMethod yX12_goesTo ∈ gWs := List.mem_filter.mpr ⟨gMt11 _ (List.mem_of_getElem? (i := 40) rfl), rfl⟩
theorem kw_182 : Cond.selects RX12 yX12_goesTo yX12_goesTo ∈ gWs := gWm 182 (by decide +kernel) rfl
theorem cl_X12_779 : gCV RX12 779 yX12_goesTo cX12_goesTo 3 none 1 := ⟨g_mk [.methodLink RX12 779 yX12_goesTo, .instanceMethod yX12_goesTo, .selects yX12_goesTo.cls yX12_goesTo yX12_goesTo, .initialized yX12_goesTo.cls] (gWs_all kw_2678) (List.forall_mem_cons.mpr ⟨kw_2675, List.forall_mem_cons.mpr ⟨kw_2677, List.forall_mem_cons.mpr ⟨kw_182, List.forall_mem_cons.mpr ⟨kw_257, fun _ h => nomatch h⟩⟩⟩⟩), rfl, by decide +kernel, by decide +kernel, by decide +kernel⟩
theorem kw_2666 : Cond.code yX12_beginBlock cX12_beginBlock 1 none ∈ gWs := List.mem_filter.mpr ⟨gMt11 _ (List.mem_of_getElem? (i := 29) rfl), rfl⟩
theorem kw_2663 : Cond.methodLink RX12 770 yX12_beginBlock ∈ gWs := List.mem_filter.mpr ⟨gMt11 _ (List.mem_of_getElem? (i := 26) rfl), rfl⟩
theorem kw_2665 : Cond.instanceMethod yX12_beginBlock ∈ gWs := List.mem_filter.mpr ⟨gMt11 _ (List.mem_of_getElem? (i := 28) rfl), rfl⟩
theorem kw_179 : Cond.selects RX12 yX12_beginBlock yX12_beginBlock ∈ gWs := gWm 179 (by decide +kernel) rfl
theorem cl_X12_770 : gCV RX12 770 yX12_beginBlock cX12_beginBlock 1 none 0 := ⟨g_mk [.methodLink RX12 770 yX12_beginBlock, .instanceMethod yX12_beginBlock, .selects yX12_beginBlock.cls yX12_beginBlock yX12_beginBlock, .initialized yX12_beginBlock.cls] (gWs_all kw_2666) (List.forall_mem_cons.mpr ⟨kw_2663, List.forall_mem_cons.mpr ⟨kw_2665, List.forall_mem_cons.mpr ⟨kw_179, List.forall_mem_cons.mpr ⟨kw_257, fun _ h => nomatch h⟩⟩⟩⟩), rfl, by decide +kernel, by decide +kernel, by decide +kernel⟩
theorem kw_2674 : Cond.code yX12_labelsOf cX12_labelsOf 4 none ∈ gWs := List.mem_filter.mpr ⟨gMt11 _ (List.mem_of_getElem? (i := 37) rfl), rfl⟩
theorem kw_2671 : Cond.methodLink RX12 773 yX12_labelsOf ∈ gWs := List.mem_filter.mpr ⟨gMt11 _ (List.mem_of_getElem? (i := 34) rfl), rfl⟩
theorem kw_2673 : Cond.instanceMethod yX12_labelsOf ∈ gWs := List.mem_filter.mpr ⟨gMt11 _ (List.mem_of_getElem? (i := 36) rfl), rfl⟩
theorem kw_181 : Cond.selects RX12 yX12_labelsOf yX12_labelsOf ∈ gWs := gWm 181 (by decide +kernel) rfl
theorem cl_X12_773 : gCV RX12 773 yX12_labelsOf cX12_labelsOf 4 none 1 := ⟨g_mk [.methodLink RX12 773 yX12_labelsOf, .instanceMethod yX12_labelsOf, .selects yX12_labelsOf.cls yX12_labelsOf yX12_labelsOf, .initialized yX12_labelsOf.cls] (gWs_all kw_2674) (List.forall_mem_cons.mpr ⟨kw_2671, List.forall_mem_cons.mpr ⟨kw_2673, List.forall_mem_cons.mpr ⟨kw_181, List.forall_mem_cons.mpr ⟨kw_257, fun _ h => nomatch h⟩⟩⟩⟩), rfl, by decide +kernel, by decide +kernel, by decide +kernel⟩
theorem kw_2034 : Cond.fieldLink RX12 249 "WordTongueModel" "valofs" "I" ∈ gWs := List.mem_filter.mpr ⟨gMt8 _ (List.mem_of_getElem? (i := 117) rfl), rfl⟩
theorem fl_X12_249 : gFL RX12 249 12 78 .int false := ⟨RX12, TX12, 119, tyX12, rfl, by decide, inW_RX12, kw_2034, tyX12_ok, nmX12, rfl, by decide +kernel, fun h => by cases h⟩
theorem kw_2690 : Cond.code yX12_string cX12_string 9 none ∈ gWs := List.mem_filter.mpr ⟨gMt11 _ (List.mem_of_getElem? (i := 53) rfl), rfl⟩
theorem kw_2687 : Cond.methodLink RX12 785 yX12_string ∈ gWs := List.mem_filter.mpr ⟨gMt11 _ (List.mem_of_getElem? (i := 50) rfl), rfl⟩
theorem kw_2689 : Cond.instanceMethod yX12_string ∈ gWs := List.mem_filter.mpr ⟨gMt11 _ (List.mem_of_getElem? (i := 52) rfl), rfl⟩
theorem kw_185 : Cond.selects RX12 yX12_string yX12_string ∈ gWs := gWm 185 (by decide +kernel) rfl
theorem cl_X12_785 : gCV RX12 785 yX12_string cX12_string 9 none 1 := ⟨g_mk [.methodLink RX12 785 yX12_string, .instanceMethod yX12_string, .selects yX12_string.cls yX12_string yX12_string, .initialized yX12_string.cls] (gWs_all kw_2690) (List.forall_mem_cons.mpr ⟨kw_2687, List.forall_mem_cons.mpr ⟨kw_2689, List.forall_mem_cons.mpr ⟨kw_185, List.forall_mem_cons.mpr ⟨kw_257, fun _ h => nomatch h⟩⟩⟩⟩), rfl, by decide +kernel, by decide +kernel, by decide +kernel⟩
theorem kw_2686 : Cond.code yX12_named cX12_named 3 (some .int) ∈ gWs := List.mem_filter.mpr ⟨gMt11 _ (List.mem_of_getElem? (i := 49) rfl), rfl⟩
theorem kw_2683 : Cond.methodLink RX12 782 yX12_named ∈ gWs := List.mem_filter.mpr ⟨gMt11 _ (List.mem_of_getElem? (i := 46) rfl), rfl⟩
theorem kw_2685 : Cond.instanceMethod yX12_named ∈ gWs := List.mem_filter.mpr ⟨gMt11 _ (List.mem_of_getElem? (i := 48) rfl), rfl⟩
theorem kw_184 : Cond.selects RX12 yX12_named yX12_named ∈ gWs := gWm 184 (by decide +kernel) rfl
theorem cl_X12_782 : gCV RX12 782 yX12_named cX12_named 3 (some .int) 1 := ⟨g_mk [.methodLink RX12 782 yX12_named, .instanceMethod yX12_named, .selects yX12_named.cls yX12_named yX12_named, .initialized yX12_named.cls] (gWs_all kw_2686) (List.forall_mem_cons.mpr ⟨kw_2683, List.forall_mem_cons.mpr ⟨kw_2685, List.forall_mem_cons.mpr ⟨kw_184, List.forall_mem_cons.mpr ⟨kw_257, fun _ h => nomatch h⟩⟩⟩⟩), rfl, by decide +kernel, by decide +kernel, by decide +kernel⟩
theorem kw_2025 : Cond.fieldLink RX12 222 "WordTongueModel" "routines" "I" ∈ gWs := List.mem_filter.mpr ⟨gMt8 _ (List.mem_of_getElem? (i := 108) rfl), rfl⟩
theorem fl_X12_222 : gFL RX12 222 12 69 .int false := ⟨RX12, TX12, 119, tyX12, rfl, by decide, inW_RX12, kw_2025, tyX12_ok, nmX12, rfl, by decide +kernel, fun h => by cases h⟩
theorem kw_2699 : Cond.constant RX12 762 1000000 ∈ gWs := List.mem_filter.mpr ⟨gMt11 _ (List.mem_of_getElem? (i := 62) rfl), rfl⟩
theorem kw_2031 : Cond.fieldLink RX12 240 "WordTongueModel" "mostUse" "I" ∈ gWs := List.mem_filter.mpr ⟨gMt8 _ (List.mem_of_getElem? (i := 114) rfl), rfl⟩
theorem fl_X12_240 : gFL RX12 240 12 75 .int false := ⟨RX12, TX12, 119, tyX12, rfl, by decide, inW_RX12, kw_2031, tyX12_ok, nmX12, rfl, by decide +kernel, fun h => by cases h⟩
theorem kw_2027 : Cond.fieldLink RX12 228 "WordTongueModel" "rParams" "[I" ∈ gWs := List.mem_filter.mpr ⟨gMt8 _ (List.mem_of_getElem? (i := 110) rfl), rfl⟩
theorem fl_X12_228 : gFL RX12 228 12 71 (.array .int) true := ⟨RX12, TX12, 119, tyX12, rfl, by decide, inW_RX12, kw_2027, tyX12_ok, nmX12, rfl, by decide +kernel, fun _ => rfl⟩
theorem kw_2028 : Cond.fieldLink RX12 231 "WordTongueModel" "rBody" "[I" ∈ gWs := List.mem_filter.mpr ⟨gMt8 _ (List.mem_of_getElem? (i := 111) rfl), rfl⟩
theorem fl_X12_231 : gFL RX12 231 12 72 (.array .int) true := ⟨RX12, TX12, 119, tyX12, rfl, by decide, inW_RX12, kw_2028, tyX12_ok, nmX12, rfl, by decide +kernel, fun _ => rfl⟩
theorem kw_2026 : Cond.fieldLink RX12 225 "WordTongueModel" "rMax" "[I" ∈ gWs := List.mem_filter.mpr ⟨gMt8 _ (List.mem_of_getElem? (i := 109) rfl), rfl⟩
theorem fl_X12_225 : gFL RX12 225 12 70 (.array .int) true := ⟨RX12, TX12, 119, tyX12, rfl, by decide, inW_RX12, kw_2026, tyX12_ok, nmX12, rfl, by decide +kernel, fun _ => rfl⟩
theorem kw_2707 : Cond.code yX12_pull cX12_pull 1 (some .int) ∈ gWs := List.mem_filter.mpr ⟨gMt11 _ (List.mem_of_getElem? (i := 70) rfl), rfl⟩
theorem kw_2704 : Cond.methodLink RX12 743 yX12_pull ∈ gWs := List.mem_filter.mpr ⟨gMt11 _ (List.mem_of_getElem? (i := 67) rfl), rfl⟩
theorem kw_2706 : Cond.instanceMethod yX12_pull ∈ gWs := List.mem_filter.mpr ⟨gMt11 _ (List.mem_of_getElem? (i := 69) rfl), rfl⟩
theorem kw_189 : Cond.selects RX12 yX12_pull yX12_pull ∈ gWs := gWm 189 (by decide +kernel) rfl
theorem cl_X12_743 : gCV RX12 743 yX12_pull cX12_pull 1 (some .int) 0 := ⟨g_mk [.methodLink RX12 743 yX12_pull, .instanceMethod yX12_pull, .selects yX12_pull.cls yX12_pull yX12_pull, .initialized yX12_pull.cls] (gWs_all kw_2707) (List.forall_mem_cons.mpr ⟨kw_2704, List.forall_mem_cons.mpr ⟨kw_2706, List.forall_mem_cons.mpr ⟨kw_189, List.forall_mem_cons.mpr ⟨kw_257, fun _ h => nomatch h⟩⟩⟩⟩), rfl, by decide +kernel, by decide +kernel, by decide +kernel⟩
theorem kw_2716 : Cond.constant RX12 766 40000 ∈ gWs := List.mem_filter.mpr ⟨gMt11 _ (List.mem_of_getElem? (i := 79) rfl), rfl⟩
theorem kw_2715 : Cond.code yX12_uses cX12_uses 2 none ∈ gWs := List.mem_filter.mpr ⟨gMt11 _ (List.mem_of_getElem? (i := 78) rfl), rfl⟩
theorem kw_2712 : Cond.methodLink RX12 767 yX12_uses ∈ gWs := List.mem_filter.mpr ⟨gMt11 _ (List.mem_of_getElem? (i := 75) rfl), rfl⟩
theorem kw_2714 : Cond.instanceMethod yX12_uses ∈ gWs := List.mem_filter.mpr ⟨gMt11 _ (List.mem_of_getElem? (i := 77) rfl), rfl⟩
theorem kw_191 : Cond.selects RX12 yX12_uses yX12_uses ∈ gWs := gWm 191 (by decide +kernel) rfl
theorem cl_X12_767 : gCV RX12 767 yX12_uses cX12_uses 2 none 1 := ⟨g_mk [.methodLink RX12 767 yX12_uses, .instanceMethod yX12_uses, .selects yX12_uses.cls yX12_uses yX12_uses, .initialized yX12_uses.cls] (gWs_all kw_2715) (List.forall_mem_cons.mpr ⟨kw_2712, List.forall_mem_cons.mpr ⟨kw_2714, List.forall_mem_cons.mpr ⟨kw_191, List.forall_mem_cons.mpr ⟨kw_257, fun _ h => nomatch h⟩⟩⟩⟩), rfl, by decide +kernel, by decide +kernel, by decide +kernel⟩
theorem kw_2732 : Cond.code yX12_isTwice cX12_isTwice 5 (some .boolean) ∈ gWs := List.mem_filter.mpr ⟨gMt11 _ (List.mem_of_getElem? (i := 95) rfl), rfl⟩
theorem kw_2729 : Cond.methodLink RX12 776 yX12_isTwice ∈ gWs := List.mem_filter.mpr ⟨gMt11 _ (List.mem_of_getElem? (i := 92) rfl), rfl⟩
theorem kw_2731 : Cond.instanceMethod yX12_isTwice ∈ gWs := List.mem_filter.mpr ⟨gMt11 _ (List.mem_of_getElem? (i := 94) rfl), rfl⟩
theorem kw_195 : Cond.selects RX12 yX12_isTwice yX12_isTwice ∈ gWs := gWm 195 (by decide +kernel) rfl
theorem cl_X12_776 : gCV RX12 776 yX12_isTwice cX12_isTwice 5 (some .boolean) 2 := ⟨g_mk [.methodLink RX12 776 yX12_isTwice, .instanceMethod yX12_isTwice, .selects yX12_isTwice.cls yX12_isTwice yX12_isTwice, .initialized yX12_isTwice.cls] (gWs_all kw_2732) (List.forall_mem_cons.mpr ⟨kw_2729, List.forall_mem_cons.mpr ⟨kw_2731, List.forall_mem_cons.mpr ⟨kw_195, List.forall_mem_cons.mpr ⟨kw_257, fun _ h => nomatch h⟩⟩⟩⟩), rfl, by decide +kernel, by decide +kernel, by decide +kernel⟩
theorem kw_2694 : Cond.code yX12_placeOf cX12_placeOf 6 none ∈ gWs := List.mem_filter.mpr ⟨gMt11 _ (List.mem_of_getElem? (i := 57) rfl), rfl⟩
theorem kw_2691 : Cond.methodLink RX12 718 yX12_placeOf ∈ gWs := List.mem_filter.mpr ⟨gMt11 _ (List.mem_of_getElem? (i := 54) rfl), rfl⟩
theorem kw_2693 : Cond.instanceMethod yX12_placeOf ∈ gWs := List.mem_filter.mpr ⟨gMt11 _ (List.mem_of_getElem? (i := 56) rfl), rfl⟩
theorem kw_186 : Cond.selects RX12 yX12_placeOf yX12_placeOf ∈ gWs := gWm 186 (by decide +kernel) rfl
theorem cl_X12_718 : gCV RX12 718 yX12_placeOf cX12_placeOf 6 none 2 := ⟨g_mk [.methodLink RX12 718 yX12_placeOf, .instanceMethod yX12_placeOf, .selects yX12_placeOf.cls yX12_placeOf yX12_placeOf, .initialized yX12_placeOf.cls] (gWs_all kw_2694) (List.forall_mem_cons.mpr ⟨kw_2691, List.forall_mem_cons.mpr ⟨kw_2693, List.forall_mem_cons.mpr ⟨kw_186, List.forall_mem_cons.mpr ⟨kw_257, fun _ h => nomatch h⟩⟩⟩⟩), rfl, by decide +kernel, by decide +kernel, by decide +kernel⟩
theorem kw_2736 : Cond.code yX12_part cX12_part 3 none ∈ gWs := List.mem_filter.mpr ⟨gMt11 _ (List.mem_of_getElem? (i := 99) rfl), rfl⟩
theorem kw_2733 : Cond.methodLink RX12 740 yX12_part ∈ gWs := List.mem_filter.mpr ⟨gMt11 _ (List.mem_of_getElem? (i := 96) rfl), rfl⟩
theorem kw_2735 : Cond.instanceMethod yX12_part ∈ gWs := List.mem_filter.mpr ⟨gMt11 _ (List.mem_of_getElem? (i := 98) rfl), rfl⟩
theorem kw_196 : Cond.selects RX12 yX12_part yX12_part ∈ gWs := gWm 196 (by decide +kernel) rfl
theorem cl_X12_740 : gCV RX12 740 yX12_part cX12_part 3 none 1 := ⟨g_mk [.methodLink RX12 740 yX12_part, .instanceMethod yX12_part, .selects yX12_part.cls yX12_part yX12_part, .initialized yX12_part.cls] (gWs_all kw_2736) (List.forall_mem_cons.mpr ⟨kw_2733, List.forall_mem_cons.mpr ⟨kw_2735, List.forall_mem_cons.mpr ⟨kw_196, List.forall_mem_cons.mpr ⟨kw_257, fun _ h => nomatch h⟩⟩⟩⟩), rfl, by decide +kernel, by decide +kernel, by decide +kernel⟩
theorem kw_2728 : Cond.code yX12_switchOf cX12_switchOf 7 none ∈ gWs := List.mem_filter.mpr ⟨gMt11 _ (List.mem_of_getElem? (i := 91) rfl), rfl⟩
theorem kw_2725 : Cond.methodLink RX12 737 yX12_switchOf ∈ gWs := List.mem_filter.mpr ⟨gMt11 _ (List.mem_of_getElem? (i := 88) rfl), rfl⟩
theorem kw_2727 : Cond.instanceMethod yX12_switchOf ∈ gWs := List.mem_filter.mpr ⟨gMt11 _ (List.mem_of_getElem? (i := 90) rfl), rfl⟩
theorem kw_194 : Cond.selects RX12 yX12_switchOf yX12_switchOf ∈ gWs := gWm 194 (by decide +kernel) rfl
theorem cl_X12_737 : gCV RX12 737 yX12_switchOf cX12_switchOf 7 none 1 := ⟨g_mk [.methodLink RX12 737 yX12_switchOf, .instanceMethod yX12_switchOf, .selects yX12_switchOf.cls yX12_switchOf yX12_switchOf, .initialized yX12_switchOf.cls] (gWs_all kw_2728) (List.forall_mem_cons.mpr ⟨kw_2725, List.forall_mem_cons.mpr ⟨kw_2727, List.forall_mem_cons.mpr ⟨kw_194, List.forall_mem_cons.mpr ⟨kw_257, fun _ h => nomatch h⟩⟩⟩⟩), rfl, by decide +kernel, by decide +kernel, by decide +kernel⟩
theorem kw_2724 : Cond.code yX12_forName cX12_forName 5 none ∈ gWs := List.mem_filter.mpr ⟨gMt11 _ (List.mem_of_getElem? (i := 87) rfl), rfl⟩
theorem kw_2721 : Cond.methodLink RX12 734 yX12_forName ∈ gWs := List.mem_filter.mpr ⟨gMt11 _ (List.mem_of_getElem? (i := 84) rfl), rfl⟩
theorem kw_2723 : Cond.instanceMethod yX12_forName ∈ gWs := List.mem_filter.mpr ⟨gMt11 _ (List.mem_of_getElem? (i := 86) rfl), rfl⟩
theorem kw_193 : Cond.selects RX12 yX12_forName yX12_forName ∈ gWs := gWm 193 (by decide +kernel) rfl
theorem cl_X12_734 : gCV RX12 734 yX12_forName cX12_forName 5 none 1 := ⟨g_mk [.methodLink RX12 734 yX12_forName, .instanceMethod yX12_forName, .selects yX12_forName.cls yX12_forName yX12_forName, .initialized yX12_forName.cls] (gWs_all kw_2724) (List.forall_mem_cons.mpr ⟨kw_2721, List.forall_mem_cons.mpr ⟨kw_2723, List.forall_mem_cons.mpr ⟨kw_193, List.forall_mem_cons.mpr ⟨kw_257, fun _ h => nomatch h⟩⟩⟩⟩), rfl, by decide +kernel, by decide +kernel, by decide +kernel⟩
theorem kw_2720 : Cond.code yX12_blockEnds cX12_blockEnds 2 none ∈ gWs := List.mem_filter.mpr ⟨gMt11 _ (List.mem_of_getElem? (i := 83) rfl), rfl⟩
theorem kw_2717 : Cond.methodLink RX12 731 yX12_blockEnds ∈ gWs := List.mem_filter.mpr ⟨gMt11 _ (List.mem_of_getElem? (i := 80) rfl), rfl⟩
theorem kw_2719 : Cond.instanceMethod yX12_blockEnds ∈ gWs := List.mem_filter.mpr ⟨gMt11 _ (List.mem_of_getElem? (i := 82) rfl), rfl⟩
theorem kw_192 : Cond.selects RX12 yX12_blockEnds yX12_blockEnds ∈ gWs := gWm 192 (by decide +kernel) rfl
theorem cl_X12_731 : gCV RX12 731 yX12_blockEnds cX12_blockEnds 2 none 1 := ⟨g_mk [.methodLink RX12 731 yX12_blockEnds, .instanceMethod yX12_blockEnds, .selects yX12_blockEnds.cls yX12_blockEnds yX12_blockEnds, .initialized yX12_blockEnds.cls] (gWs_all kw_2720) (List.forall_mem_cons.mpr ⟨kw_2717, List.forall_mem_cons.mpr ⟨kw_2719, List.forall_mem_cons.mpr ⟨kw_192, List.forall_mem_cons.mpr ⟨kw_257, fun _ h => nomatch h⟩⟩⟩⟩), rfl, by decide +kernel, by decide +kernel, by decide +kernel⟩
theorem kw_2711 : Cond.code yX12_varsEnd cX12_varsEnd 5 none ∈ gWs := List.mem_filter.mpr ⟨gMt11 _ (List.mem_of_getElem? (i := 74) rfl), rfl⟩
theorem kw_2708 : Cond.methodLink RX12 728 yX12_varsEnd ∈ gWs := List.mem_filter.mpr ⟨gMt11 _ (List.mem_of_getElem? (i := 71) rfl), rfl⟩
theorem kw_2710 : Cond.instanceMethod yX12_varsEnd ∈ gWs := List.mem_filter.mpr ⟨gMt11 _ (List.mem_of_getElem? (i := 73) rfl), rfl⟩
theorem kw_190 : Cond.selects RX12 yX12_varsEnd yX12_varsEnd ∈ gWs := gWm 190 (by decide +kernel) rfl
theorem cl_X12_728 : gCV RX12 728 yX12_varsEnd cX12_varsEnd 5 none 1 := ⟨g_mk [.methodLink RX12 728 yX12_varsEnd, .instanceMethod yX12_varsEnd, .selects yX12_varsEnd.cls yX12_varsEnd yX12_varsEnd, .initialized yX12_varsEnd.cls] (gWs_all kw_2711) (List.forall_mem_cons.mpr ⟨kw_2708, List.forall_mem_cons.mpr ⟨kw_2710, List.forall_mem_cons.mpr ⟨kw_190, List.forall_mem_cons.mpr ⟨kw_257, fun _ h => nomatch h⟩⟩⟩⟩), rfl, by decide +kernel, by decide +kernel, by decide +kernel⟩
theorem kw_2703 : Cond.code yX12_routineEnds cX12_routineEnds 2 none ∈ gWs := List.mem_filter.mpr ⟨gMt11 _ (List.mem_of_getElem? (i := 66) rfl), rfl⟩
theorem kw_2700 : Cond.methodLink RX12 725 yX12_routineEnds ∈ gWs := List.mem_filter.mpr ⟨gMt11 _ (List.mem_of_getElem? (i := 63) rfl), rfl⟩
theorem kw_2702 : Cond.instanceMethod yX12_routineEnds ∈ gWs := List.mem_filter.mpr ⟨gMt11 _ (List.mem_of_getElem? (i := 65) rfl), rfl⟩
theorem kw_188 : Cond.selects RX12 yX12_routineEnds yX12_routineEnds ∈ gWs := gWm 188 (by decide +kernel) rfl
theorem cl_X12_725 : gCV RX12 725 yX12_routineEnds cX12_routineEnds 2 none 1 := ⟨g_mk [.methodLink RX12 725 yX12_routineEnds, .instanceMethod yX12_routineEnds, .selects yX12_routineEnds.cls yX12_routineEnds yX12_routineEnds, .initialized yX12_routineEnds.cls] (gWs_all kw_2703) (List.forall_mem_cons.mpr ⟨kw_2700, List.forall_mem_cons.mpr ⟨kw_2702, List.forall_mem_cons.mpr ⟨kw_188, List.forall_mem_cons.mpr ⟨kw_257, fun _ h => nomatch h⟩⟩⟩⟩), rfl, by decide +kernel, by decide +kernel, by decide +kernel⟩
theorem kw_2698 : Cond.code yX12_routineOf cX12_routineOf 5 none ∈ gWs := List.mem_filter.mpr ⟨gMt11 _ (List.mem_of_getElem? (i := 61) rfl), rfl⟩
theorem kw_2695 : Cond.methodLink RX12 722 yX12_routineOf ∈ gWs := List.mem_filter.mpr ⟨gMt11 _ (List.mem_of_getElem? (i := 58) rfl), rfl⟩
theorem kw_2697 : Cond.instanceMethod yX12_routineOf ∈ gWs := List.mem_filter.mpr ⟨gMt11 _ (List.mem_of_getElem? (i := 60) rfl), rfl⟩
theorem kw_187 : Cond.selects RX12 yX12_routineOf yX12_routineOf ∈ gWs := gWm 187 (by decide +kernel) rfl
theorem cl_X12_722 : gCV RX12 722 yX12_routineOf cX12_routineOf 5 none 2 := ⟨g_mk [.methodLink RX12 722 yX12_routineOf, .instanceMethod yX12_routineOf, .selects yX12_routineOf.cls yX12_routineOf yX12_routineOf, .initialized yX12_routineOf.cls] (gWs_all kw_2698) (List.forall_mem_cons.mpr ⟨kw_2695, List.forall_mem_cons.mpr ⟨kw_2697, List.forall_mem_cons.mpr ⟨kw_187, List.forall_mem_cons.mpr ⟨kw_257, fun _ h => nomatch h⟩⟩⟩⟩), rfl, by decide +kernel, by decide +kernel, by decide +kernel⟩
theorem kw_2682 : Cond.code yX12_expressionOf cX12_expressionOf 4 none ∈ gWs := List.mem_filter.mpr ⟨gMt11 _ (List.mem_of_getElem? (i := 45) rfl), rfl⟩
theorem kw_2679 : Cond.methodLink RX12 715 yX12_expressionOf ∈ gWs := List.mem_filter.mpr ⟨gMt11 _ (List.mem_of_getElem? (i := 42) rfl), rfl⟩
theorem kw_2681 : Cond.instanceMethod yX12_expressionOf ∈ gWs := List.mem_filter.mpr ⟨gMt11 _ (List.mem_of_getElem? (i := 44) rfl), rfl⟩
theorem kw_183 : Cond.selects RX12 yX12_expressionOf yX12_expressionOf ∈ gWs := gWm 183 (by decide +kernel) rfl
theorem cl_X12_715 : gCV RX12 715 yX12_expressionOf cX12_expressionOf 4 none 1 := ⟨g_mk [.methodLink RX12 715 yX12_expressionOf, .instanceMethod yX12_expressionOf, .selects yX12_expressionOf.cls yX12_expressionOf yX12_expressionOf, .initialized yX12_expressionOf.cls] (gWs_all kw_2682) (List.forall_mem_cons.mpr ⟨kw_2679, List.forall_mem_cons.mpr ⟨kw_2681, List.forall_mem_cons.mpr ⟨kw_183, List.forall_mem_cons.mpr ⟨kw_257, fun _ h => nomatch h⟩⟩⟩⟩), rfl, by decide +kernel, by decide +kernel, by decide +kernel⟩
theorem kw_2662 : Cond.code yX12_commandOf cX12_commandOf 7 none ∈ gWs := List.mem_filter.mpr ⟨gMt11 _ (List.mem_of_getElem? (i := 25) rfl), rfl⟩
theorem kw_2659 : Cond.methodLink RX12 712 yX12_commandOf ∈ gWs := List.mem_filter.mpr ⟨gMt11 _ (List.mem_of_getElem? (i := 22) rfl), rfl⟩
theorem kw_2661 : Cond.instanceMethod yX12_commandOf ∈ gWs := List.mem_filter.mpr ⟨gMt11 _ (List.mem_of_getElem? (i := 24) rfl), rfl⟩
theorem kw_178 : Cond.selects RX12 yX12_commandOf yX12_commandOf ∈ gWs := gWm 178 (by decide +kernel) rfl
theorem cl_X12_712 : gCV RX12 712 yX12_commandOf cX12_commandOf 7 none 1 := ⟨g_mk [.methodLink RX12 712 yX12_commandOf, .instanceMethod yX12_commandOf, .selects yX12_commandOf.cls yX12_commandOf yX12_commandOf, .initialized yX12_commandOf.cls] (gWs_all kw_2662) (List.forall_mem_cons.mpr ⟨kw_2659, List.forall_mem_cons.mpr ⟨kw_2661, List.forall_mem_cons.mpr ⟨kw_178, List.forall_mem_cons.mpr ⟨kw_257, fun _ h => nomatch h⟩⟩⟩⟩), rfl, by decide +kernel, by decide +kernel, by decide +kernel⟩
theorem kw_2596 : Cond.code yX12_declaration cX12_declaration 5 none ∈ gWs := List.mem_filter.mpr ⟨gMt10 _ (List.mem_of_getElem? (i := 199) rfl), rfl⟩
theorem kw_2593 : Cond.methodLink RX12 709 yX12_declaration ∈ gWs := List.mem_filter.mpr ⟨gMt10 _ (List.mem_of_getElem? (i := 196) rfl), rfl⟩
theorem kw_2595 : Cond.instanceMethod yX12_declaration ∈ gWs := List.mem_filter.mpr ⟨gMt10 _ (List.mem_of_getElem? (i := 198) rfl), rfl⟩
theorem kw_166 : Cond.selects RX12 yX12_declaration yX12_declaration ∈ gWs := gWm 166 (by decide +kernel) rfl
theorem cl_X12_709 : gCV RX12 709 yX12_declaration cX12_declaration 5 none 1 := ⟨g_mk [.methodLink RX12 709 yX12_declaration, .instanceMethod yX12_declaration, .selects yX12_declaration.cls yX12_declaration yX12_declaration, .initialized yX12_declaration.cls] (gWs_all kw_2596) (List.forall_mem_cons.mpr ⟨kw_2593, List.forall_mem_cons.mpr ⟨kw_2595, List.forall_mem_cons.mpr ⟨kw_166, List.forall_mem_cons.mpr ⟨kw_257, fun _ h => nomatch h⟩⟩⟩⟩), rfl, by decide +kernel, by decide +kernel, by decide +kernel⟩
theorem kw_2546 : Cond.code yX12_library cX12_library 1 none ∈ gWs := List.mem_filter.mpr ⟨gMt10 _ (List.mem_of_getElem? (i := 149) rfl), rfl⟩
theorem kw_2543 : Cond.methodLink RX12 698 yX12_library ∈ gWs := List.mem_filter.mpr ⟨gMt10 _ (List.mem_of_getElem? (i := 146) rfl), rfl⟩
theorem kw_2545 : Cond.instanceMethod yX12_library ∈ gWs := List.mem_filter.mpr ⟨gMt10 _ (List.mem_of_getElem? (i := 148) rfl), rfl⟩
theorem kw_159 : Cond.selects RX12 yX12_library yX12_library ∈ gWs := gWm 159 (by decide +kernel) rfl
theorem cl_X12_698 : gCV RX12 698 yX12_library cX12_library 1 none 0 := ⟨g_mk [.methodLink RX12 698 yX12_library, .instanceMethod yX12_library, .selects yX12_library.cls yX12_library yX12_library, .initialized yX12_library.cls] (gWs_all kw_2546) (List.forall_mem_cons.mpr ⟨kw_2543, List.forall_mem_cons.mpr ⟨kw_2545, List.forall_mem_cons.mpr ⟨kw_159, List.forall_mem_cons.mpr ⟨kw_257, fun _ h => nomatch h⟩⟩⟩⟩), rfl, by decide +kernel, by decide +kernel, by decide +kernel⟩
theorem kw_2592 : Cond.code yX12_go cX12_go 4 none ∈ gWs := List.mem_filter.mpr ⟨gMt10 _ (List.mem_of_getElem? (i := 195) rfl), rfl⟩
theorem kw_2589 : Cond.methodLink RX12 706 yX12_go ∈ gWs := List.mem_filter.mpr ⟨gMt10 _ (List.mem_of_getElem? (i := 192) rfl), rfl⟩
theorem kw_2591 : Cond.instanceMethod yX12_go ∈ gWs := List.mem_filter.mpr ⟨gMt10 _ (List.mem_of_getElem? (i := 194) rfl), rfl⟩
theorem kw_165 : Cond.selects RX12 yX12_go yX12_go ∈ gWs := gWm 165 (by decide +kernel) rfl
theorem cl_X12_706 : gCV RX12 706 yX12_go cX12_go 4 none 3 := ⟨g_mk [.methodLink RX12 706 yX12_go, .instanceMethod yX12_go, .selects yX12_go.cls yX12_go yX12_go, .initialized yX12_go.cls] (gWs_all kw_2592) (List.forall_mem_cons.mpr ⟨kw_2589, List.forall_mem_cons.mpr ⟨kw_2591, List.forall_mem_cons.mpr ⟨kw_165, List.forall_mem_cons.mpr ⟨kw_257, fun _ h => nomatch h⟩⟩⟩⟩), rfl, by decide +kernel, by decide +kernel, by decide +kernel⟩
theorem kw_2576 : Cond.constantLong RX12 701 357895852628 ∈ gWs := List.mem_filter.mpr ⟨gMt10 _ (List.mem_of_getElem? (i := 179) rfl), rfl⟩
theorem kw_2043 : Cond.fieldLink RX12 276 "WordTongueModel" "todo" "I" ∈ gWs := List.mem_filter.mpr ⟨gMt8 _ (List.mem_of_getElem? (i := 126) rfl), rfl⟩
theorem fl_X12_276 : gFL RX12 276 12 87 .int false := ⟨RX12, TX12, 119, tyX12, rfl, by decide, inW_RX12, kw_2043, tyX12_ok, nmX12, rfl, by decide +kernel, fun h => by cases h⟩
theorem kw_2044 : Cond.fieldLink RX12 280 "WordTongueModel" "xTask" "[I" ∈ gWs := List.mem_filter.mpr ⟨gMt8 _ (List.mem_of_getElem? (i := 127) rfl), rfl⟩
theorem fl_X12_280 : gFL RX12 280 12 88 (.array .int) false := ⟨RX12, TX12, 119, tyX12, rfl, by decide, inW_RX12, kw_2044, tyX12_ok, nmX12, rfl, by decide +kernel, fun h => by cases h⟩
theorem kw_2045 : Cond.fieldLink RX12 283 "WordTongueModel" "xNode" "[I" ∈ gWs := List.mem_filter.mpr ⟨gMt8 _ (List.mem_of_getElem? (i := 128) rfl), rfl⟩
theorem fl_X12_283 : gFL RX12 283 12 89 (.array .int) false := ⟨RX12, TX12, 119, tyX12, rfl, by decide, inW_RX12, kw_2045, tyX12_ok, nmX12, rfl, by decide +kernel, fun h => by cases h⟩
theorem kw_2046 : Cond.fieldLink RX12 286 "WordTongueModel" "xAux" "[I" ∈ gWs := List.mem_filter.mpr ⟨gMt8 _ (List.mem_of_getElem? (i := 129) rfl), rfl⟩
theorem fl_X12_286 : gFL RX12 286 12 90 (.array .int) false := ⟨RX12, TX12, 119, tyX12, rfl, by decide, inW_RX12, kw_2046, tyX12_ok, nmX12, rfl, by decide +kernel, fun h => by cases h⟩
theorem kw_2058 : Cond.fieldLink RX12 324 "WordTongueModel" "ended" "Z" ∈ gWs := List.mem_filter.mpr ⟨gMt8 _ (List.mem_of_getElem? (i := 141) rfl), rfl⟩
theorem fl_X12_324 : gFL RX12 324 12 102 .boolean false := ⟨RX12, TX12, 119, tyX12, rfl, by decide, inW_RX12, kw_2058, tyX12_ok, nmX12, rfl, by decide +kernel, fun h => by cases h⟩
theorem kw_2059 : Cond.fieldLink RX12 327 "WordTongueModel" "answer" "I" ∈ gWs := List.mem_filter.mpr ⟨gMt8 _ (List.mem_of_getElem? (i := 142) rfl), rfl⟩
theorem fl_X12_327 : gFL RX12 327 12 103 .int false := ⟨RX12, TX12, 119, tyX12, rfl, by decide, inW_RX12, kw_2059, tyX12_ok, nmX12, rfl, by decide +kernel, fun h => by cases h⟩
theorem kw_2060 : Cond.fieldLink RX12 330 "WordTongueModel" "result" "I" ∈ gWs := List.mem_filter.mpr ⟨gMt8 _ (List.mem_of_getElem? (i := 143) rfl), rfl⟩
theorem fl_X12_330 : gFL RX12 330 12 104 .int false := ⟨RX12, TX12, 119, tyX12, rfl, by decide, inW_RX12, kw_2060, tyX12_ok, nmX12, rfl, by decide +kernel, fun h => by cases h⟩
theorem kw_2057 : Cond.fieldLink RX12 321 "WordTongueModel" "fuelLeft" "I" ∈ gWs := List.mem_filter.mpr ⟨gMt8 _ (List.mem_of_getElem? (i := 140) rfl), rfl⟩
theorem fl_X12_321 : gFL RX12 321 12 101 .int false := ⟨RX12, TX12, 119, tyX12, rfl, by decide, inW_RX12, kw_2057, tyX12_ok, nmX12, rfl, by decide +kernel, fun h => by cases h⟩
theorem kw_2773 : Cond.code yX12_err cX12_err 2 none ∈ gWs := List.mem_filter.mpr ⟨gMt11 _ (List.mem_of_getElem? (i := 136) rfl), rfl⟩
theorem kw_2770 : Cond.methodLink RX12 792 yX12_err ∈ gWs := List.mem_filter.mpr ⟨gMt11 _ (List.mem_of_getElem? (i := 133) rfl), rfl⟩
theorem kw_2772 : Cond.instanceMethod yX12_err ∈ gWs := List.mem_filter.mpr ⟨gMt11 _ (List.mem_of_getElem? (i := 135) rfl), rfl⟩
theorem kw_200 : Cond.selects RX12 yX12_err yX12_err ∈ gWs := gWm 200 (by decide +kernel) rfl
theorem cl_X12_792 : gCV RX12 792 yX12_err cX12_err 2 none 1 := ⟨g_mk [.methodLink RX12 792 yX12_err, .instanceMethod yX12_err, .selects yX12_err.cls yX12_err yX12_err, .initialized yX12_err.cls] (gWs_all kw_2773) (List.forall_mem_cons.mpr ⟨kw_2770, List.forall_mem_cons.mpr ⟨kw_2772, List.forall_mem_cons.mpr ⟨kw_200, List.forall_mem_cons.mpr ⟨kw_257, fun _ h => nomatch h⟩⟩⟩⟩), rfl, by decide +kernel, by decide +kernel, by decide +kernel⟩
theorem kw_2047 : Cond.fieldLink RX12 289 "WordTongueModel" "vals" "I" ∈ gWs := List.mem_filter.mpr ⟨gMt8 _ (List.mem_of_getElem? (i := 130) rfl), rfl⟩
theorem fl_X12_289 : gFL RX12 289 12 91 .int false := ⟨RX12, TX12, 119, tyX12, rfl, by decide, inW_RX12, kw_2047, tyX12_ok, nmX12, rfl, by decide +kernel, fun h => by cases h⟩
theorem kw_2048 : Cond.fieldLink RX12 293 "WordTongueModel" "val" "[I" ∈ gWs := List.mem_filter.mpr ⟨gMt8 _ (List.mem_of_getElem? (i := 131) rfl), rfl⟩
theorem fl_X12_293 : gFL RX12 293 12 92 (.array .int) false := ⟨RX12, TX12, 119, tyX12, rfl, by decide, inW_RX12, kw_2048, tyX12_ok, nmX12, rfl, by decide +kernel, fun h => by cases h⟩
theorem kw_2055 : Cond.fieldLink RX12 315 "WordTongueModel" "size" "I" ∈ gWs := List.mem_filter.mpr ⟨gMt8 _ (List.mem_of_getElem? (i := 138) rfl), rfl⟩
theorem fl_X12_315 : gFL RX12 315 12 99 .int false := ⟨RX12, TX12, 119, tyX12, rfl, by decide, inW_RX12, kw_2055, tyX12_ok, nmX12, rfl, by decide +kernel, fun h => by cases h⟩
theorem kw_2054 : Cond.fieldLink RX12 312 "WordTongueModel" "store" "[I" ∈ gWs := List.mem_filter.mpr ⟨gMt8 _ (List.mem_of_getElem? (i := 137) rfl), rfl⟩
theorem fl_X12_312 : gFL RX12 312 12 98 (.array .int) true := ⟨RX12, TX12, 119, tyX12, rfl, by decide, inW_RX12, kw_2054, tyX12_ok, nmX12, rfl, by decide +kernel, fun _ => rfl⟩
theorem kw_2052 : Cond.fieldLink RX12 305 "WordTongueModel" "base" "I" ∈ gWs := List.mem_filter.mpr ⟨gMt8 _ (List.mem_of_getElem? (i := 135) rfl), rfl⟩
theorem fl_X12_305 : gFL RX12 305 12 96 .int false := ⟨RX12, TX12, 119, tyX12, rfl, by decide, inW_RX12, kw_2052, tyX12_ok, nmX12, rfl, by decide +kernel, fun h => by cases h⟩
theorem kw_2781 : Cond.code yX12_todoTask cX12_todoTask 4 none ∈ gWs := List.mem_filter.mpr ⟨gMt11 _ (List.mem_of_getElem? (i := 144) rfl), rfl⟩
theorem kw_2778 : Cond.methodLink RX12 801 yX12_todoTask ∈ gWs := List.mem_filter.mpr ⟨gMt11 _ (List.mem_of_getElem? (i := 141) rfl), rfl⟩
theorem kw_2780 : Cond.instanceMethod yX12_todoTask ∈ gWs := List.mem_filter.mpr ⟨gMt11 _ (List.mem_of_getElem? (i := 143) rfl), rfl⟩
theorem kw_202 : Cond.selects RX12 yX12_todoTask yX12_todoTask ∈ gWs := gWm 202 (by decide +kernel) rfl
theorem cl_X12_801 : gCV RX12 801 yX12_todoTask cX12_todoTask 4 none 3 := ⟨g_mk [.methodLink RX12 801 yX12_todoTask, .instanceMethod yX12_todoTask, .selects yX12_todoTask.cls yX12_todoTask yX12_todoTask, .initialized yX12_todoTask.cls] (gWs_all kw_2781) (List.forall_mem_cons.mpr ⟨kw_2778, List.forall_mem_cons.mpr ⟨kw_2780, List.forall_mem_cons.mpr ⟨kw_202, List.forall_mem_cons.mpr ⟨kw_257, fun _ h => nomatch h⟩⟩⟩⟩), rfl, by decide +kernel, by decide +kernel, by decide +kernel⟩
theorem kw_2800 : Cond.code yX12_wordOf cX12_wordOf 2 (some .int) ∈ gWs := List.mem_filter.mpr ⟨gMt11 _ (List.mem_of_getElem? (i := 163) rfl), rfl⟩
theorem kw_2797 : Cond.methodLink RX12 798 yX12_wordOf ∈ gWs := List.mem_filter.mpr ⟨gMt11 _ (List.mem_of_getElem? (i := 160) rfl), rfl⟩
theorem kw_2799 : Cond.instanceMethod yX12_wordOf ∈ gWs := List.mem_filter.mpr ⟨gMt11 _ (List.mem_of_getElem? (i := 162) rfl), rfl⟩
theorem kw_206 : Cond.selects RX12 yX12_wordOf yX12_wordOf ∈ gWs := gWm 206 (by decide +kernel) rfl
theorem cl_X12_798 : gCV RX12 798 yX12_wordOf cX12_wordOf 2 (some .int) 1 := ⟨g_mk [.methodLink RX12 798 yX12_wordOf, .instanceMethod yX12_wordOf, .selects yX12_wordOf.cls yX12_wordOf yX12_wordOf, .initialized yX12_wordOf.cls] (gWs_all kw_2800) (List.forall_mem_cons.mpr ⟨kw_2797, List.forall_mem_cons.mpr ⟨kw_2799, List.forall_mem_cons.mpr ⟨kw_206, List.forall_mem_cons.mpr ⟨kw_257, fun _ h => nomatch h⟩⟩⟩⟩), rfl, by decide +kernel, by decide +kernel, by decide +kernel⟩
theorem kw_2796 : Cond.code yX12_push cX12_push 2 none ∈ gWs := List.mem_filter.mpr ⟨gMt11 _ (List.mem_of_getElem? (i := 159) rfl), rfl⟩
theorem kw_2793 : Cond.methodLink RX12 795 yX12_push ∈ gWs := List.mem_filter.mpr ⟨gMt11 _ (List.mem_of_getElem? (i := 156) rfl), rfl⟩
theorem kw_2795 : Cond.instanceMethod yX12_push ∈ gWs := List.mem_filter.mpr ⟨gMt11 _ (List.mem_of_getElem? (i := 158) rfl), rfl⟩
theorem kw_205 : Cond.selects RX12 yX12_push yX12_push ∈ gWs := gWm 205 (by decide +kernel) rfl
theorem cl_X12_795 : gCV RX12 795 yX12_push cX12_push 2 none 1 := ⟨g_mk [.methodLink RX12 795 yX12_push, .instanceMethod yX12_push, .selects yX12_push.cls yX12_push yX12_push, .initialized yX12_push.cls] (gWs_all kw_2796) (List.forall_mem_cons.mpr ⟨kw_2793, List.forall_mem_cons.mpr ⟨kw_2795, List.forall_mem_cons.mpr ⟨kw_205, List.forall_mem_cons.mpr ⟨kw_257, fun _ h => nomatch h⟩⟩⟩⟩), rfl, by decide +kernel, by decide +kernel, by decide +kernel⟩
theorem kw_2808 : Cond.code yX12_turnTodo cX12_turnTodo 7 none ∈ gWs := List.mem_filter.mpr ⟨gMt11 _ (List.mem_of_getElem? (i := 171) rfl), rfl⟩
theorem kw_2805 : Cond.methodLink RX12 807 yX12_turnTodo ∈ gWs := List.mem_filter.mpr ⟨gMt11 _ (List.mem_of_getElem? (i := 168) rfl), rfl⟩
theorem kw_2807 : Cond.instanceMethod yX12_turnTodo ∈ gWs := List.mem_filter.mpr ⟨gMt11 _ (List.mem_of_getElem? (i := 170) rfl), rfl⟩
theorem kw_208 : Cond.selects RX12 yX12_turnTodo yX12_turnTodo ∈ gWs := gWm 208 (by decide +kernel) rfl
theorem cl_X12_807 : gCV RX12 807 yX12_turnTodo cX12_turnTodo 7 none 1 := ⟨g_mk [.methodLink RX12 807 yX12_turnTodo, .instanceMethod yX12_turnTodo, .selects yX12_turnTodo.cls yX12_turnTodo yX12_turnTodo, .initialized yX12_turnTodo.cls] (gWs_all kw_2808) (List.forall_mem_cons.mpr ⟨kw_2805, List.forall_mem_cons.mpr ⟨kw_2807, List.forall_mem_cons.mpr ⟨kw_208, List.forall_mem_cons.mpr ⟨kw_257, fun _ h => nomatch h⟩⟩⟩⟩), rfl, by decide +kernel, by decide +kernel, by decide +kernel⟩
theorem kw_2804 : Cond.code yX12_address cX12_address 3 none ∈ gWs := List.mem_filter.mpr ⟨gMt11 _ (List.mem_of_getElem? (i := 167) rfl), rfl⟩
theorem kw_2801 : Cond.methodLink RX12 804 yX12_address ∈ gWs := List.mem_filter.mpr ⟨gMt11 _ (List.mem_of_getElem? (i := 164) rfl), rfl⟩
theorem kw_2803 : Cond.instanceMethod yX12_address ∈ gWs := List.mem_filter.mpr ⟨gMt11 _ (List.mem_of_getElem? (i := 166) rfl), rfl⟩
theorem kw_207 : Cond.selects RX12 yX12_address yX12_address ∈ gWs := gWm 207 (by decide +kernel) rfl
theorem cl_X12_804 : gCV RX12 804 yX12_address cX12_address 3 none 1 := ⟨g_mk [.methodLink RX12 804 yX12_address, .instanceMethod yX12_address, .selects yX12_address.cls yX12_address yX12_address, .initialized yX12_address.cls] (gWs_all kw_2804) (List.forall_mem_cons.mpr ⟨kw_2801, List.forall_mem_cons.mpr ⟨kw_2803, List.forall_mem_cons.mpr ⟨kw_207, List.forall_mem_cons.mpr ⟨kw_257, fun _ h => nomatch h⟩⟩⟩⟩), rfl, by decide +kernel, by decide +kernel, by decide +kernel⟩
theorem kw_2816 : Cond.code yX12_pop cX12_pop 1 (some .int) ∈ gWs := List.mem_filter.mpr ⟨gMt11 _ (List.mem_of_getElem? (i := 179) rfl), rfl⟩
theorem kw_2813 : Cond.methodLink RX12 810 yX12_pop ∈ gWs := List.mem_filter.mpr ⟨gMt11 _ (List.mem_of_getElem? (i := 176) rfl), rfl⟩
theorem kw_2815 : Cond.instanceMethod yX12_pop ∈ gWs := List.mem_filter.mpr ⟨gMt11 _ (List.mem_of_getElem? (i := 178) rfl), rfl⟩
theorem kw_210 : Cond.selects RX12 yX12_pop yX12_pop ∈ gWs := gWm 210 (by decide +kernel) rfl
theorem cl_X12_810 : gCV RX12 810 yX12_pop cX12_pop 1 (some .int) 0 := ⟨g_mk [.methodLink RX12 810 yX12_pop, .instanceMethod yX12_pop, .selects yX12_pop.cls yX12_pop yX12_pop, .initialized yX12_pop.cls] (gWs_all kw_2816) (List.forall_mem_cons.mpr ⟨kw_2813, List.forall_mem_cons.mpr ⟨kw_2815, List.forall_mem_cons.mpr ⟨kw_210, List.forall_mem_cons.mpr ⟨kw_257, fun _ h => nomatch h⟩⟩⟩⟩), rfl, by decide +kernel, by decide +kernel, by decide +kernel⟩
theorem kw_2820 : Cond.code yX12_read cX12_read 3 (some .int) ∈ gWs := List.mem_filter.mpr ⟨gMt11 _ (List.mem_of_getElem? (i := 183) rfl), rfl⟩
theorem kw_2817 : Cond.methodLink RX12 813 yX12_read ∈ gWs := List.mem_filter.mpr ⟨gMt11 _ (List.mem_of_getElem? (i := 180) rfl), rfl⟩
theorem kw_2819 : Cond.instanceMethod yX12_read ∈ gWs := List.mem_filter.mpr ⟨gMt11 _ (List.mem_of_getElem? (i := 182) rfl), rfl⟩
theorem kw_211 : Cond.selects RX12 yX12_read yX12_read ∈ gWs := gWm 211 (by decide +kernel) rfl
theorem cl_X12_813 : gCV RX12 813 yX12_read cX12_read 3 (some .int) 1 := ⟨g_mk [.methodLink RX12 813 yX12_read, .instanceMethod yX12_read, .selects yX12_read.cls yX12_read yX12_read, .initialized yX12_read.cls] (gWs_all kw_2820) (List.forall_mem_cons.mpr ⟨kw_2817, List.forall_mem_cons.mpr ⟨kw_2819, List.forall_mem_cons.mpr ⟨kw_211, List.forall_mem_cons.mpr ⟨kw_257, fun _ h => nomatch h⟩⟩⟩⟩), rfl, by decide +kernel, by decide +kernel, by decide +kernel⟩
theorem kw_2062 : Cond.fieldLink RX12 336 "WordTongueModel" "gots" "I" ∈ gWs := List.mem_filter.mpr ⟨gMt8 _ (List.mem_of_getElem? (i := 145) rfl), rfl⟩
theorem fl_X12_336 : gFL RX12 336 12 106 .int false := ⟨RX12, TX12, 119, tyX12, rfl, by decide, inW_RX12, kw_2062, tyX12_ok, nmX12, rfl, by decide +kernel, fun h => by cases h⟩
theorem kw_2063 : Cond.fieldLink RX12 339 "WordTongueModel" "gotAt" "[I" ∈ gWs := List.mem_filter.mpr ⟨gMt8 _ (List.mem_of_getElem? (i := 146) rfl), rfl⟩
theorem fl_X12_339 : gFL RX12 339 12 107 (.array .int) true := ⟨RX12, TX12, 119, tyX12, rfl, by decide, inW_RX12, kw_2063, tyX12_ok, nmX12, rfl, by decide +kernel, fun _ => rfl⟩
theorem kw_2769 : Cond.code yX12_burns cX12_burns 1 (some .boolean) ∈ gWs := List.mem_filter.mpr ⟨gMt11 _ (List.mem_of_getElem? (i := 132) rfl), rfl⟩
theorem kw_2766 : Cond.methodLink RX12 817 yX12_burns ∈ gWs := List.mem_filter.mpr ⟨gMt11 _ (List.mem_of_getElem? (i := 129) rfl), rfl⟩
theorem kw_2768 : Cond.instanceMethod yX12_burns ∈ gWs := List.mem_filter.mpr ⟨gMt11 _ (List.mem_of_getElem? (i := 131) rfl), rfl⟩
theorem kw_199 : Cond.selects RX12 yX12_burns yX12_burns ∈ gWs := gWm 199 (by decide +kernel) rfl
theorem cl_X12_817 : gCV RX12 817 yX12_burns cX12_burns 1 (some .boolean) 0 := ⟨g_mk [.methodLink RX12 817 yX12_burns, .instanceMethod yX12_burns, .selects yX12_burns.cls yX12_burns yX12_burns, .initialized yX12_burns.cls] (gWs_all kw_2769) (List.forall_mem_cons.mpr ⟨kw_2766, List.forall_mem_cons.mpr ⟨kw_2768, List.forall_mem_cons.mpr ⟨kw_199, List.forall_mem_cons.mpr ⟨kw_257, fun _ h => nomatch h⟩⟩⟩⟩), rfl, by decide +kernel, by decide +kernel, by decide +kernel⟩
theorem kw_2051 : Cond.fieldLink RX12 302 "WordTongueModel" "under" "I" ∈ gWs := List.mem_filter.mpr ⟨gMt8 _ (List.mem_of_getElem? (i := 134) rfl), rfl⟩
theorem fl_X12_302 : gFL RX12 302 12 95 .int false := ⟨RX12, TX12, 119, tyX12, rfl, by decide, inW_RX12, kw_2051, tyX12_ok, nmX12, rfl, by decide +kernel, fun h => by cases h⟩
theorem kw_2777 : Cond.code yX12_limit cX12_limit 1 (some .int) ∈ gWs := List.mem_filter.mpr ⟨gMt11 _ (List.mem_of_getElem? (i := 140) rfl), rfl⟩
theorem kw_2774 : Cond.methodLink RX12 820 yX12_limit ∈ gWs := List.mem_filter.mpr ⟨gMt11 _ (List.mem_of_getElem? (i := 137) rfl), rfl⟩
theorem kw_2776 : Cond.instanceMethod yX12_limit ∈ gWs := List.mem_filter.mpr ⟨gMt11 _ (List.mem_of_getElem? (i := 139) rfl), rfl⟩
theorem kw_201 : Cond.selects RX12 yX12_limit yX12_limit ∈ gWs := gWm 201 (by decide +kernel) rfl
theorem cl_X12_820 : gCV RX12 820 yX12_limit cX12_limit 1 (some .int) 0 := ⟨g_mk [.methodLink RX12 820 yX12_limit, .instanceMethod yX12_limit, .selects yX12_limit.cls yX12_limit yX12_limit, .initialized yX12_limit.cls] (gWs_all kw_2777) (List.forall_mem_cons.mpr ⟨kw_2774, List.forall_mem_cons.mpr ⟨kw_2776, List.forall_mem_cons.mpr ⟨kw_201, List.forall_mem_cons.mpr ⟨kw_257, fun _ h => nomatch h⟩⟩⟩⟩), rfl, by decide +kernel, by decide +kernel, by decide +kernel⟩
theorem kw_2049 : Cond.fieldLink RX12 296 "WordTongueModel" "backB" "[I" ∈ gWs := List.mem_filter.mpr ⟨gMt8 _ (List.mem_of_getElem? (i := 132) rfl), rfl⟩
theorem fl_X12_296 : gFL RX12 296 12 93 (.array .int) true := ⟨RX12, TX12, 119, tyX12, rfl, by decide, inW_RX12, kw_2049, tyX12_ok, nmX12, rfl, by decide +kernel, fun _ => rfl⟩
theorem kw_2050 : Cond.fieldLink RX12 299 "WordTongueModel" "backR" "[I" ∈ gWs := List.mem_filter.mpr ⟨gMt8 _ (List.mem_of_getElem? (i := 133) rfl), rfl⟩
theorem fl_X12_299 : gFL RX12 299 12 94 (.array .int) true := ⟨RX12, TX12, 119, tyX12, rfl, by decide, inW_RX12, kw_2050, tyX12_ok, nmX12, rfl, by decide +kernel, fun _ => rfl⟩
theorem kw_2053 : Cond.fieldLink RX12 308 "WordTongueModel" "running" "I" ∈ gWs := List.mem_filter.mpr ⟨gMt8 _ (List.mem_of_getElem? (i := 136) rfl), rfl⟩
theorem fl_X12_308 : gFL RX12 308 12 97 .int false := ⟨RX12, TX12, 119, tyX12, rfl, by decide, inW_RX12, kw_2053, tyX12_ok, nmX12, rfl, by decide +kernel, fun h => by cases h⟩
theorem kw_2073 : Cond.fieldLink RX12 369 "WordTongueModel" "outNow" "I" ∈ gWs := List.mem_filter.mpr ⟨gMt8 _ (List.mem_of_getElem? (i := 156) rfl), rfl⟩
theorem fl_X12_369 : gFL RX12 369 12 117 .int false := ⟨RX12, TX12, 119, tyX12, rfl, by decide, inW_RX12, kw_2073, tyX12_ok, nmX12, rfl, by decide +kernel, fun h => by cases h⟩
theorem kw_2072 : Cond.fieldLink RX12 366 "WordTongueModel" "outLen" "[I" ∈ gWs := List.mem_filter.mpr ⟨gMt8 _ (List.mem_of_getElem? (i := 155) rfl), rfl⟩
theorem fl_X12_366 : gFL RX12 366 12 116 (.array .int) true := ⟨RX12, TX12, 119, tyX12, rfl, by decide, inW_RX12, kw_2072, tyX12_ok, nmX12, rfl, by decide +kernel, fun _ => rfl⟩
theorem kw_2071 : Cond.fieldLink RX12 363 "WordTongueModel" "output" "[B" ∈ gWs := List.mem_filter.mpr ⟨gMt8 _ (List.mem_of_getElem? (i := 154) rfl), rfl⟩
theorem fl_X12_363 : gFL RX12 363 12 115 (.array .byte) true := ⟨RX12, TX12, 119, tyX12, rfl, by decide, inW_RX12, kw_2071, tyX12_ok, nmX12, rfl, by decide +kernel, fun _ => rfl⟩
theorem kw_2074 : Cond.fieldLink RX12 372 "WordTongueModel" "figures" "[B" ∈ gWs := List.mem_filter.mpr ⟨gMt8 _ (List.mem_of_getElem? (i := 157) rfl), rfl⟩
theorem fl_X12_372 : gFL RX12 372 12 118 (.array .byte) true := ⟨RX12, TX12, 119, tyX12, rfl, by decide, inW_RX12, kw_2074, tyX12_ok, nmX12, rfl, by decide +kernel, fun _ => rfl⟩
theorem kw_2847 : Cond.code yX12_outByte cX12_outByte 3 none ∈ gWs := List.mem_filter.mpr ⟨gMt11 _ (List.mem_of_getElem? (i := 210) rfl), rfl⟩
theorem kw_2844 : Cond.methodLink RX12 834 yX12_outByte ∈ gWs := List.mem_filter.mpr ⟨gMt11 _ (List.mem_of_getElem? (i := 207) rfl), rfl⟩
theorem kw_2846 : Cond.instanceMethod yX12_outByte ∈ gWs := List.mem_filter.mpr ⟨gMt11 _ (List.mem_of_getElem? (i := 209) rfl), rfl⟩
theorem kw_217 : Cond.selects RX12 yX12_outByte yX12_outByte ∈ gWs := gWm 217 (by decide +kernel) rfl
theorem cl_X12_834 : gCV RX12 834 yX12_outByte cX12_outByte 3 none 1 := ⟨g_mk [.methodLink RX12 834 yX12_outByte, .instanceMethod yX12_outByte, .selects yX12_outByte.cls yX12_outByte yX12_outByte, .initialized yX12_outByte.cls] (gWs_all kw_2847) (List.forall_mem_cons.mpr ⟨kw_2844, List.forall_mem_cons.mpr ⟨kw_2846, List.forall_mem_cons.mpr ⟨kw_217, List.forall_mem_cons.mpr ⟨kw_257, fun _ h => nomatch h⟩⟩⟩⟩), rfl, by decide +kernel, by decide +kernel, by decide +kernel⟩
theorem kw_2842 : Cond.constantLong RX12 830 48 ∈ gWs := List.mem_filter.mpr ⟨gMt11 _ (List.mem_of_getElem? (i := 205) rfl), rfl⟩
theorem kw_2843 : Cond.constantLong RX12 832 10 ∈ gWs := List.mem_filter.mpr ⟨gMt11 _ (List.mem_of_getElem? (i := 206) rfl), rfl⟩
theorem kw_2070 : Cond.fieldLink RX12 360 "WordTongueModel" "inNow" "I" ∈ gWs := List.mem_filter.mpr ⟨gMt8 _ (List.mem_of_getElem? (i := 153) rfl), rfl⟩
theorem fl_X12_360 : gFL RX12 360 12 114 .int false := ⟨RX12, TX12, 119, tyX12, rfl, by decide, inW_RX12, kw_2070, tyX12_ok, nmX12, rfl, by decide +kernel, fun h => by cases h⟩
theorem kw_2069 : Cond.fieldLink RX12 357 "WordTongueModel" "inAt" "[I" ∈ gWs := List.mem_filter.mpr ⟨gMt8 _ (List.mem_of_getElem? (i := 152) rfl), rfl⟩
theorem fl_X12_357 : gFL RX12 357 12 113 (.array .int) true := ⟨RX12, TX12, 119, tyX12, rfl, by decide, inW_RX12, kw_2069, tyX12_ok, nmX12, rfl, by decide +kernel, fun _ => rfl⟩
theorem kw_2068 : Cond.fieldLink RX12 354 "WordTongueModel" "inLen" "[I" ∈ gWs := List.mem_filter.mpr ⟨gMt8 _ (List.mem_of_getElem? (i := 151) rfl), rfl⟩
theorem fl_X12_354 : gFL RX12 354 12 112 (.array .int) true := ⟨RX12, TX12, 119, tyX12, rfl, by decide, inW_RX12, kw_2068, tyX12_ok, nmX12, rfl, by decide +kernel, fun _ => rfl⟩
theorem kw_2065 : Cond.fieldLink RX12 345 "WordTongueModel" "input" "[B" ∈ gWs := List.mem_filter.mpr ⟨gMt8 _ (List.mem_of_getElem? (i := 148) rfl), rfl⟩
theorem fl_X12_345 : gFL RX12 345 12 109 (.array .byte) true := ⟨RX12, TX12, 119, tyX12, rfl, by decide, inW_RX12, kw_2065, tyX12_ok, nmX12, rfl, by decide +kernel, fun _ => rfl⟩
theorem kw_2064 : Cond.fieldLink RX12 342 "WordTongueModel" "gotLen" "[I" ∈ gWs := List.mem_filter.mpr ⟨gMt8 _ (List.mem_of_getElem? (i := 147) rfl), rfl⟩
theorem fl_X12_342 : gFL RX12 342 12 108 (.array .int) true := ⟨RX12, TX12, 119, tyX12, rfl, by decide, inW_RX12, kw_2064, tyX12_ok, nmX12, rfl, by decide +kernel, fun _ => rfl⟩
theorem kw_2863 : Cond.code yX12_layVector cX12_layVector 8 (some .int) ∈ gWs := List.mem_filter.mpr ⟨gMt11 _ (List.mem_of_getElem? (i := 226) rfl), rfl⟩
theorem kw_2860 : Cond.methodLink RX12 846 yX12_layVector ∈ gWs := List.mem_filter.mpr ⟨gMt11 _ (List.mem_of_getElem? (i := 223) rfl), rfl⟩
theorem kw_2862 : Cond.instanceMethod yX12_layVector ∈ gWs := List.mem_filter.mpr ⟨gMt11 _ (List.mem_of_getElem? (i := 225) rfl), rfl⟩
theorem kw_221 : Cond.selects RX12 yX12_layVector yX12_layVector ∈ gWs := gWm 221 (by decide +kernel) rfl
theorem cl_X12_846 : gCV RX12 846 yX12_layVector cX12_layVector 8 (some .int) 4 := ⟨g_mk [.methodLink RX12 846 yX12_layVector, .instanceMethod yX12_layVector, .selects yX12_layVector.cls yX12_layVector yX12_layVector, .initialized yX12_layVector.cls] (gWs_all kw_2863) (List.forall_mem_cons.mpr ⟨kw_2860, List.forall_mem_cons.mpr ⟨kw_2862, List.forall_mem_cons.mpr ⟨kw_221, List.forall_mem_cons.mpr ⟨kw_257, fun _ h => nomatch h⟩⟩⟩⟩), rfl, by decide +kernel, by decide +kernel, by decide +kernel⟩
theorem kw_2875 : Cond.code yX12_peek cX12_peek 2 (some .int) ∈ gWs := List.mem_filter.mpr ⟨gMt11 _ (List.mem_of_getElem? (i := 238) rfl), rfl⟩
theorem kw_2872 : Cond.methodLink RX12 837 yX12_peek ∈ gWs := List.mem_filter.mpr ⟨gMt11 _ (List.mem_of_getElem? (i := 235) rfl), rfl⟩
theorem kw_2874 : Cond.instanceMethod yX12_peek ∈ gWs := List.mem_filter.mpr ⟨gMt11 _ (List.mem_of_getElem? (i := 237) rfl), rfl⟩
theorem kw_224 : Cond.selects RX12 yX12_peek yX12_peek ∈ gWs := gWm 224 (by decide +kernel) rfl
theorem cl_X12_837 : gCV RX12 837 yX12_peek cX12_peek 2 (some .int) 0 := ⟨g_mk [.methodLink RX12 837 yX12_peek, .instanceMethod yX12_peek, .selects yX12_peek.cls yX12_peek yX12_peek, .initialized yX12_peek.cls] (gWs_all kw_2875) (List.forall_mem_cons.mpr ⟨kw_2872, List.forall_mem_cons.mpr ⟨kw_2874, List.forall_mem_cons.mpr ⟨kw_224, List.forall_mem_cons.mpr ⟨kw_257, fun _ h => nomatch h⟩⟩⟩⟩), rfl, by decide +kernel, by decide +kernel, by decide +kernel⟩
theorem kw_2756 : Cond.code yX12_isBlank cX12_isBlank 1 (some .boolean) ∈ gWs := List.mem_filter.mpr ⟨gMt11 _ (List.mem_of_getElem? (i := 119) rfl), rfl⟩
theorem kw_2754 : Cond.methodLink RX12 840 yX12_isBlank ∈ gWs := List.mem_filter.mpr ⟨gMt11 _ (List.mem_of_getElem? (i := 117) rfl), rfl⟩
theorem kw_2755 : Cond.static yX12_isBlank ∈ gWs := List.mem_filter.mpr ⟨gMt11 _ (List.mem_of_getElem? (i := 118) rfl), rfl⟩
theorem cl_X12_840 : gCS RX12 840 yX12_isBlank cX12_isBlank 1 (some .boolean) 1 := ⟨g_mk [.methodLink RX12 840 yX12_isBlank, .static yX12_isBlank, .initialized yX12_isBlank.cls] (gWs_all kw_2756) (List.forall_mem_cons.mpr ⟨kw_2754, List.forall_mem_cons.mpr ⟨kw_2755, List.forall_mem_cons.mpr ⟨kw_257, fun _ h => nomatch h⟩⟩⟩), ⟨by decide +kernel, by decide +kernel, by decide +kernel⟩⟩
theorem kw_2066 : Cond.fieldLink RX12 348 "WordTongueModel" "runEnd" "[I" ∈ gWs := List.mem_filter.mpr ⟨gMt8 _ (List.mem_of_getElem? (i := 149) rfl), rfl⟩
theorem fl_X12_348 : gFL RX12 348 12 110 (.array .int) true := ⟨RX12, TX12, 119, tyX12, rfl, by decide, inW_RX12, kw_2066, tyX12_ok, nmX12, rfl, by decide +kernel, fun _ => rfl⟩
theorem kw_2067 : Cond.fieldLink RX12 351 "WordTongueModel" "digitsFrom" "[I" ∈ gWs := List.mem_filter.mpr ⟨gMt8 _ (List.mem_of_getElem? (i := 150) rfl), rfl⟩
theorem fl_X12_351 : gFL RX12 351 12 111 (.array .int) true := ⟨RX12, TX12, 119, tyX12, rfl, by decide, inW_RX12, kw_2067, tyX12_ok, nmX12, rfl, by decide +kernel, fun _ => rfl⟩
theorem kw_2855 : Cond.code yX12_nextByte cX12_nextByte 2 (some .int) ∈ gWs := List.mem_filter.mpr ⟨gMt11 _ (List.mem_of_getElem? (i := 218) rfl), rfl⟩
theorem kw_2852 : Cond.methodLink RX12 843 yX12_nextByte ∈ gWs := List.mem_filter.mpr ⟨gMt11 _ (List.mem_of_getElem? (i := 215) rfl), rfl⟩
theorem kw_2854 : Cond.instanceMethod yX12_nextByte ∈ gWs := List.mem_filter.mpr ⟨gMt11 _ (List.mem_of_getElem? (i := 217) rfl), rfl⟩
theorem kw_219 : Cond.selects RX12 yX12_nextByte yX12_nextByte ∈ gWs := gWm 219 (by decide +kernel) rfl
theorem cl_X12_843 : gCV RX12 843 yX12_nextByte cX12_nextByte 2 (some .int) 0 := ⟨g_mk [.methodLink RX12 843 yX12_nextByte, .instanceMethod yX12_nextByte, .selects yX12_nextByte.cls yX12_nextByte yX12_nextByte, .initialized yX12_nextByte.cls] (gWs_all kw_2855) (List.forall_mem_cons.mpr ⟨kw_2852, List.forall_mem_cons.mpr ⟨kw_2854, List.forall_mem_cons.mpr ⟨kw_219, List.forall_mem_cons.mpr ⟨kw_257, fun _ h => nomatch h⟩⟩⟩⟩), rfl, by decide +kernel, by decide +kernel, by decide +kernel⟩
theorem kw_2765 : Cond.code yX12_enter cX12_enter 7 none ∈ gWs := List.mem_filter.mpr ⟨gMt11 _ (List.mem_of_getElem? (i := 128) rfl), rfl⟩
theorem kw_2762 : Cond.methodLink RX12 827 yX12_enter ∈ gWs := List.mem_filter.mpr ⟨gMt11 _ (List.mem_of_getElem? (i := 125) rfl), rfl⟩
theorem kw_2764 : Cond.instanceMethod yX12_enter ∈ gWs := List.mem_filter.mpr ⟨gMt11 _ (List.mem_of_getElem? (i := 127) rfl), rfl⟩
theorem kw_198 : Cond.selects RX12 yX12_enter yX12_enter ∈ gWs := gWm 198 (by decide +kernel) rfl
theorem cl_X12_827 : gCV RX12 827 yX12_enter cX12_enter 7 none 3 := ⟨g_mk [.methodLink RX12 827 yX12_enter, .instanceMethod yX12_enter, .selects yX12_enter.cls yX12_enter yX12_enter, .initialized yX12_enter.cls] (gWs_all kw_2765) (List.forall_mem_cons.mpr ⟨kw_2762, List.forall_mem_cons.mpr ⟨kw_2764, List.forall_mem_cons.mpr ⟨kw_198, List.forall_mem_cons.mpr ⟨kw_257, fun _ h => nomatch h⟩⟩⟩⟩), rfl, by decide +kernel, by decide +kernel, by decide +kernel⟩
theorem kw_2829 : Cond.constant RX12 823 2000018 ∈ gWs := List.mem_filter.mpr ⟨gMt11 _ (List.mem_of_getElem? (i := 192) rfl), rfl⟩
theorem kw_2837 : Cond.code yX12_arg cX12_arg 3 (some .int) ∈ gWs := List.mem_filter.mpr ⟨gMt11 _ (List.mem_of_getElem? (i := 200) rfl), rfl⟩
theorem kw_2834 : Cond.methodLink RX12 850 yX12_arg ∈ gWs := List.mem_filter.mpr ⟨gMt11 _ (List.mem_of_getElem? (i := 197) rfl), rfl⟩
theorem kw_2836 : Cond.instanceMethod yX12_arg ∈ gWs := List.mem_filter.mpr ⟨gMt11 _ (List.mem_of_getElem? (i := 199) rfl), rfl⟩
theorem kw_215 : Cond.selects RX12 yX12_arg yX12_arg ∈ gWs := gWm 215 (by decide +kernel) rfl
theorem cl_X12_850 : gCV RX12 850 yX12_arg cX12_arg 3 (some .int) 2 := ⟨g_mk [.methodLink RX12 850 yX12_arg, .instanceMethod yX12_arg, .selects yX12_arg.cls yX12_arg yX12_arg, .initialized yX12_arg.cls] (gWs_all kw_2837) (List.forall_mem_cons.mpr ⟨kw_2834, List.forall_mem_cons.mpr ⟨kw_2836, List.forall_mem_cons.mpr ⟨kw_215, List.forall_mem_cons.mpr ⟨kw_257, fun _ h => nomatch h⟩⟩⟩⟩), rfl, by decide +kernel, by decide +kernel, by decide +kernel⟩
theorem kw_2879 : Cond.code yX12_toVector cX12_toVector 5 none ∈ gWs := List.mem_filter.mpr ⟨gMt12 _ (List.mem_of_getElem? (i := 2) rfl), rfl⟩
theorem kw_2876 : Cond.methodLink RX12 868 yX12_toVector ∈ gWs := List.mem_filter.mpr ⟨gMt11 _ (List.mem_of_getElem? (i := 239) rfl), rfl⟩
theorem kw_2878 : Cond.instanceMethod yX12_toVector ∈ gWs := List.mem_filter.mpr ⟨gMt12 _ (List.mem_of_getElem? (i := 1) rfl), rfl⟩
theorem kw_225 : Cond.selects RX12 yX12_toVector yX12_toVector ∈ gWs := gWm 225 (by decide +kernel) rfl
theorem cl_X12_868 : gCV RX12 868 yX12_toVector cX12_toVector 5 none 3 := ⟨g_mk [.methodLink RX12 868 yX12_toVector, .instanceMethod yX12_toVector, .selects yX12_toVector.cls yX12_toVector yX12_toVector, .initialized yX12_toVector.cls] (gWs_all kw_2879) (List.forall_mem_cons.mpr ⟨kw_2876, List.forall_mem_cons.mpr ⟨kw_2878, List.forall_mem_cons.mpr ⟨kw_225, List.forall_mem_cons.mpr ⟨kw_257, fun _ h => nomatch h⟩⟩⟩⟩), rfl, by decide +kernel, by decide +kernel, by decide +kernel⟩
theorem kw_2871 : Cond.code yX12_readNumber cX12_readNumber 5 (some .int) ∈ gWs := List.mem_filter.mpr ⟨gMt11 _ (List.mem_of_getElem? (i := 234) rfl), rfl⟩
theorem kw_2868 : Cond.methodLink RX12 865 yX12_readNumber ∈ gWs := List.mem_filter.mpr ⟨gMt11 _ (List.mem_of_getElem? (i := 231) rfl), rfl⟩
theorem kw_2870 : Cond.instanceMethod yX12_readNumber ∈ gWs := List.mem_filter.mpr ⟨gMt11 _ (List.mem_of_getElem? (i := 233) rfl), rfl⟩
theorem kw_223 : Cond.selects RX12 yX12_readNumber yX12_readNumber ∈ gWs := gWm 223 (by decide +kernel) rfl
theorem cl_X12_865 : gCV RX12 865 yX12_readNumber cX12_readNumber 5 (some .int) 0 := ⟨g_mk [.methodLink RX12 865 yX12_readNumber, .instanceMethod yX12_readNumber, .selects yX12_readNumber.cls yX12_readNumber yX12_readNumber, .initialized yX12_readNumber.cls] (gWs_all kw_2871) (List.forall_mem_cons.mpr ⟨kw_2868, List.forall_mem_cons.mpr ⟨kw_2870, List.forall_mem_cons.mpr ⟨kw_223, List.forall_mem_cons.mpr ⟨kw_257, fun _ h => nomatch h⟩⟩⟩⟩), rfl, by decide +kernel, by decide +kernel, by decide +kernel⟩
theorem kw_2867 : Cond.code yX12_freeVector cX12_freeVector 3 none ∈ gWs := List.mem_filter.mpr ⟨gMt11 _ (List.mem_of_getElem? (i := 230) rfl), rfl⟩
theorem kw_2864 : Cond.methodLink RX12 862 yX12_freeVector ∈ gWs := List.mem_filter.mpr ⟨gMt11 _ (List.mem_of_getElem? (i := 227) rfl), rfl⟩
theorem kw_2866 : Cond.instanceMethod yX12_freeVector ∈ gWs := List.mem_filter.mpr ⟨gMt11 _ (List.mem_of_getElem? (i := 229) rfl), rfl⟩
theorem kw_222 : Cond.selects RX12 yX12_freeVector yX12_freeVector ∈ gWs := gWm 222 (by decide +kernel) rfl
theorem cl_X12_862 : gCV RX12 862 yX12_freeVector cX12_freeVector 3 none 1 := ⟨g_mk [.methodLink RX12 862 yX12_freeVector, .instanceMethod yX12_freeVector, .selects yX12_freeVector.cls yX12_freeVector yX12_freeVector, .initialized yX12_freeVector.cls] (gWs_all kw_2867) (List.forall_mem_cons.mpr ⟨kw_2864, List.forall_mem_cons.mpr ⟨kw_2866, List.forall_mem_cons.mpr ⟨kw_222, List.forall_mem_cons.mpr ⟨kw_257, fun _ h => nomatch h⟩⟩⟩⟩), rfl, by decide +kernel, by decide +kernel, by decide +kernel⟩
theorem kw_2859 : Cond.code yX12_getVector cX12_getVector 8 (some .int) ∈ gWs := List.mem_filter.mpr ⟨gMt11 _ (List.mem_of_getElem? (i := 222) rfl), rfl⟩
theorem kw_2856 : Cond.methodLink RX12 859 yX12_getVector ∈ gWs := List.mem_filter.mpr ⟨gMt11 _ (List.mem_of_getElem? (i := 219) rfl), rfl⟩
theorem kw_2858 : Cond.instanceMethod yX12_getVector ∈ gWs := List.mem_filter.mpr ⟨gMt11 _ (List.mem_of_getElem? (i := 221) rfl), rfl⟩
theorem kw_220 : Cond.selects RX12 yX12_getVector yX12_getVector ∈ gWs := gWm 220 (by decide +kernel) rfl
theorem cl_X12_859 : gCV RX12 859 yX12_getVector cX12_getVector 8 (some .int) 1 := ⟨g_mk [.methodLink RX12 859 yX12_getVector, .instanceMethod yX12_getVector, .selects yX12_getVector.cls yX12_getVector yX12_getVector, .initialized yX12_getVector.cls] (gWs_all kw_2859) (List.forall_mem_cons.mpr ⟨kw_2856, List.forall_mem_cons.mpr ⟨kw_2858, List.forall_mem_cons.mpr ⟨kw_220, List.forall_mem_cons.mpr ⟨kw_257, fun _ h => nomatch h⟩⟩⟩⟩), rfl, by decide +kernel, by decide +kernel, by decide +kernel⟩
theorem kw_2851 : Cond.code yX12_writeString cX12_writeString 4 none ∈ gWs := List.mem_filter.mpr ⟨gMt11 _ (List.mem_of_getElem? (i := 214) rfl), rfl⟩
theorem kw_2848 : Cond.methodLink RX12 856 yX12_writeString ∈ gWs := List.mem_filter.mpr ⟨gMt11 _ (List.mem_of_getElem? (i := 211) rfl), rfl⟩
theorem kw_2850 : Cond.instanceMethod yX12_writeString ∈ gWs := List.mem_filter.mpr ⟨gMt11 _ (List.mem_of_getElem? (i := 213) rfl), rfl⟩
theorem kw_218 : Cond.selects RX12 yX12_writeString yX12_writeString ∈ gWs := gWm 218 (by decide +kernel) rfl
theorem cl_X12_856 : gCV RX12 856 yX12_writeString cX12_writeString 4 none 1 := ⟨g_mk [.methodLink RX12 856 yX12_writeString, .instanceMethod yX12_writeString, .selects yX12_writeString.cls yX12_writeString yX12_writeString, .initialized yX12_writeString.cls] (gWs_all kw_2851) (List.forall_mem_cons.mpr ⟨kw_2848, List.forall_mem_cons.mpr ⟨kw_2850, List.forall_mem_cons.mpr ⟨kw_218, List.forall_mem_cons.mpr ⟨kw_257, fun _ h => nomatch h⟩⟩⟩⟩), rfl, by decide +kernel, by decide +kernel, by decide +kernel⟩
theorem kw_2841 : Cond.code yX12_decimal cX12_decimal 9 none ∈ gWs := List.mem_filter.mpr ⟨gMt11 _ (List.mem_of_getElem? (i := 204) rfl), rfl⟩
theorem kw_2838 : Cond.methodLink RX12 853 yX12_decimal ∈ gWs := List.mem_filter.mpr ⟨gMt11 _ (List.mem_of_getElem? (i := 201) rfl), rfl⟩
theorem kw_2840 : Cond.instanceMethod yX12_decimal ∈ gWs := List.mem_filter.mpr ⟨gMt11 _ (List.mem_of_getElem? (i := 203) rfl), rfl⟩
theorem kw_216 : Cond.selects RX12 yX12_decimal yX12_decimal ∈ gWs := gWm 216 (by decide +kernel) rfl
theorem cl_X12_853 : gCV RX12 853 yX12_decimal cX12_decimal 9 none 2 := ⟨g_mk [.methodLink RX12 853 yX12_decimal, .instanceMethod yX12_decimal, .selects yX12_decimal.cls yX12_decimal yX12_decimal, .initialized yX12_decimal.cls] (gWs_all kw_2841) (List.forall_mem_cons.mpr ⟨kw_2838, List.forall_mem_cons.mpr ⟨kw_2840, List.forall_mem_cons.mpr ⟨kw_216, List.forall_mem_cons.mpr ⟨kw_257, fun _ h => nomatch h⟩⟩⟩⟩), rfl, by decide +kernel, by decide +kernel, by decide +kernel⟩
theorem kw_2833 : Cond.code yX12_libraryCall cX12_libraryCall 14 none ∈ gWs := List.mem_filter.mpr ⟨gMt11 _ (List.mem_of_getElem? (i := 196) rfl), rfl⟩
theorem kw_2830 : Cond.methodLink RX12 824 yX12_libraryCall ∈ gWs := List.mem_filter.mpr ⟨gMt11 _ (List.mem_of_getElem? (i := 193) rfl), rfl⟩
theorem kw_2832 : Cond.instanceMethod yX12_libraryCall ∈ gWs := List.mem_filter.mpr ⟨gMt11 _ (List.mem_of_getElem? (i := 195) rfl), rfl⟩
theorem kw_214 : Cond.selects RX12 yX12_libraryCall yX12_libraryCall ∈ gWs := gWm 214 (by decide +kernel) rfl
theorem cl_X12_824 : gCV RX12 824 yX12_libraryCall cX12_libraryCall 14 none 3 := ⟨g_mk [.methodLink RX12 824 yX12_libraryCall, .instanceMethod yX12_libraryCall, .selects yX12_libraryCall.cls yX12_libraryCall yX12_libraryCall, .initialized yX12_libraryCall.cls] (gWs_all kw_2833) (List.forall_mem_cons.mpr ⟨kw_2830, List.forall_mem_cons.mpr ⟨kw_2832, List.forall_mem_cons.mpr ⟨kw_214, List.forall_mem_cons.mpr ⟨kw_257, fun _ h => nomatch h⟩⟩⟩⟩), rfl, by decide +kernel, by decide +kernel, by decide +kernel⟩
theorem kw_2887 : Cond.code yX12_assign cX12_assign 3 none ∈ gWs := List.mem_filter.mpr ⟨gMt12 _ (List.mem_of_getElem? (i := 10) rfl), rfl⟩
theorem kw_2884 : Cond.methodLink RX12 871 yX12_assign ∈ gWs := List.mem_filter.mpr ⟨gMt12 _ (List.mem_of_getElem? (i := 7) rfl), rfl⟩
theorem kw_2886 : Cond.instanceMethod yX12_assign ∈ gWs := List.mem_filter.mpr ⟨gMt12 _ (List.mem_of_getElem? (i := 9) rfl), rfl⟩
theorem kw_227 : Cond.selects RX12 yX12_assign yX12_assign ∈ gWs := gWm 227 (by decide +kernel) rfl
theorem cl_X12_871 : gCV RX12 871 yX12_assign cX12_assign 3 none 2 := ⟨g_mk [.methodLink RX12 871 yX12_assign, .instanceMethod yX12_assign, .selects yX12_assign.cls yX12_assign yX12_assign, .initialized yX12_assign.cls] (gWs_all kw_2887) (List.forall_mem_cons.mpr ⟨kw_2884, List.forall_mem_cons.mpr ⟨kw_2886, List.forall_mem_cons.mpr ⟨kw_227, List.forall_mem_cons.mpr ⟨kw_257, fun _ h => nomatch h⟩⟩⟩⟩), rfl, by decide +kernel, by decide +kernel, by decide +kernel⟩
theorem kw_2895 : Cond.code yX12_write cX12_write 4 none ∈ gWs := List.mem_filter.mpr ⟨gMt12 _ (List.mem_of_getElem? (i := 18) rfl), rfl⟩
theorem kw_2892 : Cond.methodLink RX12 874 yX12_write ∈ gWs := List.mem_filter.mpr ⟨gMt12 _ (List.mem_of_getElem? (i := 15) rfl), rfl⟩
theorem kw_2894 : Cond.instanceMethod yX12_write ∈ gWs := List.mem_filter.mpr ⟨gMt12 _ (List.mem_of_getElem? (i := 17) rfl), rfl⟩
theorem kw_229 : Cond.selects RX12 yX12_write yX12_write ∈ gWs := gWm 229 (by decide +kernel) rfl
theorem cl_X12_874 : gCV RX12 874 yX12_write cX12_write 4 none 2 := ⟨g_mk [.methodLink RX12 874 yX12_write, .instanceMethod yX12_write, .selects yX12_write.cls yX12_write yX12_write, .initialized yX12_write.cls] (gWs_all kw_2895) (List.forall_mem_cons.mpr ⟨kw_2892, List.forall_mem_cons.mpr ⟨kw_2894, List.forall_mem_cons.mpr ⟨kw_229, List.forall_mem_cons.mpr ⟨kw_257, fun _ h => nomatch h⟩⟩⟩⟩), rfl, by decide +kernel, by decide +kernel, by decide +kernel⟩
theorem kw_2903 : Cond.code yX12_isStep cX12_isStep 4 (some .boolean) ∈ gWs := List.mem_filter.mpr ⟨gMt12 _ (List.mem_of_getElem? (i := 26) rfl), rfl⟩
theorem kw_2900 : Cond.methodLink RX12 878 yX12_isStep ∈ gWs := List.mem_filter.mpr ⟨gMt12 _ (List.mem_of_getElem? (i := 23) rfl), rfl⟩
theorem kw_2902 : Cond.instanceMethod yX12_isStep ∈ gWs := List.mem_filter.mpr ⟨gMt12 _ (List.mem_of_getElem? (i := 25) rfl), rfl⟩
theorem kw_231 : Cond.selects RX12 yX12_isStep yX12_isStep ∈ gWs := gWm 231 (by decide +kernel) rfl
theorem cl_X12_878 : gCV RX12 878 yX12_isStep cX12_isStep 4 (some .boolean) 3 := ⟨g_mk [.methodLink RX12 878 yX12_isStep, .instanceMethod yX12_isStep, .selects yX12_isStep.cls yX12_isStep yX12_isStep, .initialized yX12_isStep.cls] (gWs_all kw_2903) (List.forall_mem_cons.mpr ⟨kw_2900, List.forall_mem_cons.mpr ⟨kw_2902, List.forall_mem_cons.mpr ⟨kw_231, List.forall_mem_cons.mpr ⟨kw_257, fun _ h => nomatch h⟩⟩⟩⟩), rfl, by decide +kernel, by decide +kernel, by decide +kernel⟩
theorem kw_2923 : Cond.code yX12_choose cX12_choose 7 none ∈ gWs := List.mem_filter.mpr ⟨gMt12 _ (List.mem_of_getElem? (i := 46) rfl), rfl⟩
theorem kw_2920 : Cond.methodLink RX12 914 yX12_choose ∈ gWs := List.mem_filter.mpr ⟨gMt12 _ (List.mem_of_getElem? (i := 43) rfl), rfl⟩
theorem kw_2922 : Cond.instanceMethod yX12_choose ∈ gWs := List.mem_filter.mpr ⟨gMt12 _ (List.mem_of_getElem? (i := 45) rfl), rfl⟩
theorem kw_236 : Cond.selects RX12 yX12_choose yX12_choose ∈ gWs := gWm 236 (by decide +kernel) rfl
theorem cl_X12_914 : gCV RX12 914 yX12_choose cX12_choose 7 none 1 := ⟨g_mk [.methodLink RX12 914 yX12_choose, .instanceMethod yX12_choose, .selects yX12_choose.cls yX12_choose yX12_choose, .initialized yX12_choose.cls] (gWs_all kw_2923) (List.forall_mem_cons.mpr ⟨kw_2920, List.forall_mem_cons.mpr ⟨kw_2922, List.forall_mem_cons.mpr ⟨kw_236, List.forall_mem_cons.mpr ⟨kw_257, fun _ h => nomatch h⟩⟩⟩⟩), rfl, by decide +kernel, by decide +kernel, by decide +kernel⟩
theorem kw_2919 : Cond.code yX12_variables cX12_variables 7 none ∈ gWs := List.mem_filter.mpr ⟨gMt12 _ (List.mem_of_getElem? (i := 42) rfl), rfl⟩
theorem kw_2916 : Cond.methodLink RX12 911 yX12_variables ∈ gWs := List.mem_filter.mpr ⟨gMt12 _ (List.mem_of_getElem? (i := 39) rfl), rfl⟩
theorem kw_2918 : Cond.instanceMethod yX12_variables ∈ gWs := List.mem_filter.mpr ⟨gMt12 _ (List.mem_of_getElem? (i := 41) rfl), rfl⟩
theorem kw_235 : Cond.selects RX12 yX12_variables yX12_variables ∈ gWs := gWm 235 (by decide +kernel) rfl
theorem cl_X12_911 : gCV RX12 911 yX12_variables cX12_variables 7 none 1 := ⟨g_mk [.methodLink RX12 911 yX12_variables, .instanceMethod yX12_variables, .selects yX12_variables.cls yX12_variables yX12_variables, .initialized yX12_variables.cls] (gWs_all kw_2919) (List.forall_mem_cons.mpr ⟨kw_2916, List.forall_mem_cons.mpr ⟨kw_2918, List.forall_mem_cons.mpr ⟨kw_235, List.forall_mem_cons.mpr ⟨kw_257, fun _ h => nomatch h⟩⟩⟩⟩), rfl, by decide +kernel, by decide +kernel, by decide +kernel⟩
theorem kw_2915 : Cond.code yX12_returns cX12_returns 4 none ∈ gWs := List.mem_filter.mpr ⟨gMt12 _ (List.mem_of_getElem? (i := 38) rfl), rfl⟩
theorem kw_2912 : Cond.methodLink RX12 908 yX12_returns ∈ gWs := List.mem_filter.mpr ⟨gMt12 _ (List.mem_of_getElem? (i := 35) rfl), rfl⟩
theorem kw_2914 : Cond.instanceMethod yX12_returns ∈ gWs := List.mem_filter.mpr ⟨gMt12 _ (List.mem_of_getElem? (i := 37) rfl), rfl⟩
theorem kw_234 : Cond.selects RX12 yX12_returns yX12_returns ∈ gWs := gWm 234 (by decide +kernel) rfl
theorem cl_X12_908 : gCV RX12 908 yX12_returns cX12_returns 4 none 2 := ⟨g_mk [.methodLink RX12 908 yX12_returns, .instanceMethod yX12_returns, .selects yX12_returns.cls yX12_returns yX12_returns, .initialized yX12_returns.cls] (gWs_all kw_2915) (List.forall_mem_cons.mpr ⟨kw_2912, List.forall_mem_cons.mpr ⟨kw_2914, List.forall_mem_cons.mpr ⟨kw_234, List.forall_mem_cons.mpr ⟨kw_257, fun _ h => nomatch h⟩⟩⟩⟩), rfl, by decide +kernel, by decide +kernel, by decide +kernel⟩
theorem kw_2911 : Cond.code yX12_section cX12_section 6 none ∈ gWs := List.mem_filter.mpr ⟨gMt12 _ (List.mem_of_getElem? (i := 34) rfl), rfl⟩
theorem kw_2908 : Cond.methodLink RX12 905 yX12_section ∈ gWs := List.mem_filter.mpr ⟨gMt12 _ (List.mem_of_getElem? (i := 31) rfl), rfl⟩
theorem kw_2910 : Cond.instanceMethod yX12_section ∈ gWs := List.mem_filter.mpr ⟨gMt12 _ (List.mem_of_getElem? (i := 33) rfl), rfl⟩
theorem kw_233 : Cond.selects RX12 yX12_section yX12_section ∈ gWs := gWm 233 (by decide +kernel) rfl
theorem cl_X12_905 : gCV RX12 905 yX12_section cX12_section 6 none 2 := ⟨g_mk [.methodLink RX12 905 yX12_section, .instanceMethod yX12_section, .selects yX12_section.cls yX12_section yX12_section, .initialized yX12_section.cls] (gWs_all kw_2911) (List.forall_mem_cons.mpr ⟨kw_2908, List.forall_mem_cons.mpr ⟨kw_2910, List.forall_mem_cons.mpr ⟨kw_233, List.forall_mem_cons.mpr ⟨kw_257, fun _ h => nomatch h⟩⟩⟩⟩), rfl, by decide +kernel, by decide +kernel, by decide +kernel⟩
theorem kw_2907 : Cond.code yX12_asked cX12_asked 4 none ∈ gWs := List.mem_filter.mpr ⟨gMt12 _ (List.mem_of_getElem? (i := 30) rfl), rfl⟩
theorem kw_2904 : Cond.methodLink RX12 902 yX12_asked ∈ gWs := List.mem_filter.mpr ⟨gMt12 _ (List.mem_of_getElem? (i := 27) rfl), rfl⟩
theorem kw_2906 : Cond.instanceMethod yX12_asked ∈ gWs := List.mem_filter.mpr ⟨gMt12 _ (List.mem_of_getElem? (i := 29) rfl), rfl⟩
theorem kw_232 : Cond.selects RX12 yX12_asked yX12_asked ∈ gWs := gWm 232 (by decide +kernel) rfl
theorem cl_X12_902 : gCV RX12 902 yX12_asked cX12_asked 4 none 1 := ⟨g_mk [.methodLink RX12 902 yX12_asked, .instanceMethod yX12_asked, .selects yX12_asked.cls yX12_asked yX12_asked, .initialized yX12_asked.cls] (gWs_all kw_2907) (List.forall_mem_cons.mpr ⟨kw_2904, List.forall_mem_cons.mpr ⟨kw_2906, List.forall_mem_cons.mpr ⟨kw_232, List.forall_mem_cons.mpr ⟨kw_257, fun _ h => nomatch h⟩⟩⟩⟩), rfl, by decide +kernel, by decide +kernel, by decide +kernel⟩
theorem kw_2899 : Cond.code yX12_loop cX12_loop 7 none ∈ gWs := List.mem_filter.mpr ⟨gMt12 _ (List.mem_of_getElem? (i := 22) rfl), rfl⟩
theorem kw_2896 : Cond.methodLink RX12 899 yX12_loop ∈ gWs := List.mem_filter.mpr ⟨gMt12 _ (List.mem_of_getElem? (i := 19) rfl), rfl⟩
theorem kw_2898 : Cond.instanceMethod yX12_loop ∈ gWs := List.mem_filter.mpr ⟨gMt12 _ (List.mem_of_getElem? (i := 21) rfl), rfl⟩
theorem kw_230 : Cond.selects RX12 yX12_loop yX12_loop ∈ gWs := gWm 230 (by decide +kernel) rfl
theorem cl_X12_899 : gCV RX12 899 yX12_loop cX12_loop 7 none 2 := ⟨g_mk [.methodLink RX12 899 yX12_loop, .instanceMethod yX12_loop, .selects yX12_loop.cls yX12_loop yX12_loop, .initialized yX12_loop.cls] (gWs_all kw_2899) (List.forall_mem_cons.mpr ⟨kw_2896, List.forall_mem_cons.mpr ⟨kw_2898, List.forall_mem_cons.mpr ⟨kw_230, List.forall_mem_cons.mpr ⟨kw_257, fun _ h => nomatch h⟩⟩⟩⟩), rfl, by decide +kernel, by decide +kernel, by decide +kernel⟩
theorem kw_2891 : Cond.code yX12_stores cX12_stores 8 none ∈ gWs := List.mem_filter.mpr ⟨gMt12 _ (List.mem_of_getElem? (i := 14) rfl), rfl⟩
theorem kw_2888 : Cond.methodLink RX12 896 yX12_stores ∈ gWs := List.mem_filter.mpr ⟨gMt12 _ (List.mem_of_getElem? (i := 11) rfl), rfl⟩
theorem kw_2890 : Cond.instanceMethod yX12_stores ∈ gWs := List.mem_filter.mpr ⟨gMt12 _ (List.mem_of_getElem? (i := 13) rfl), rfl⟩
theorem kw_228 : Cond.selects RX12 yX12_stores yX12_stores ∈ gWs := gWm 228 (by decide +kernel) rfl
theorem cl_X12_896 : gCV RX12 896 yX12_stores cX12_stores 8 none 1 := ⟨g_mk [.methodLink RX12 896 yX12_stores, .instanceMethod yX12_stores, .selects yX12_stores.cls yX12_stores yX12_stores, .initialized yX12_stores.cls] (gWs_all kw_2891) (List.forall_mem_cons.mpr ⟨kw_2888, List.forall_mem_cons.mpr ⟨kw_2890, List.forall_mem_cons.mpr ⟨kw_228, List.forall_mem_cons.mpr ⟨kw_257, fun _ h => nomatch h⟩⟩⟩⟩), rfl, by decide +kernel, by decide +kernel, by decide +kernel⟩
theorem kw_2883 : Cond.code yX12_perform cX12_perform 5 none ∈ gWs := List.mem_filter.mpr ⟨gMt12 _ (List.mem_of_getElem? (i := 6) rfl), rfl⟩
theorem kw_2880 : Cond.methodLink RX12 893 yX12_perform ∈ gWs := List.mem_filter.mpr ⟨gMt12 _ (List.mem_of_getElem? (i := 3) rfl), rfl⟩
theorem kw_2882 : Cond.instanceMethod yX12_perform ∈ gWs := List.mem_filter.mpr ⟨gMt12 _ (List.mem_of_getElem? (i := 5) rfl), rfl⟩
theorem kw_226 : Cond.selects RX12 yX12_perform yX12_perform ∈ gWs := gWm 226 (by decide +kernel) rfl
theorem cl_X12_893 : gCV RX12 893 yX12_perform cX12_perform 5 none 1 := ⟨g_mk [.methodLink RX12 893 yX12_perform, .instanceMethod yX12_perform, .selects yX12_perform.cls yX12_perform yX12_perform, .initialized yX12_perform.cls] (gWs_all kw_2883) (List.forall_mem_cons.mpr ⟨kw_2880, List.forall_mem_cons.mpr ⟨kw_2882, List.forall_mem_cons.mpr ⟨kw_226, List.forall_mem_cons.mpr ⟨kw_257, fun _ h => nomatch h⟩⟩⟩⟩), rfl, by decide +kernel, by decide +kernel, by decide +kernel⟩
theorem kw_2828 : Cond.code yX12_call cX12_call 5 none ∈ gWs := List.mem_filter.mpr ⟨gMt11 _ (List.mem_of_getElem? (i := 191) rfl), rfl⟩
theorem kw_2825 : Cond.methodLink RX12 890 yX12_call ∈ gWs := List.mem_filter.mpr ⟨gMt11 _ (List.mem_of_getElem? (i := 188) rfl), rfl⟩
theorem kw_2827 : Cond.instanceMethod yX12_call ∈ gWs := List.mem_filter.mpr ⟨gMt11 _ (List.mem_of_getElem? (i := 190) rfl), rfl⟩
theorem kw_213 : Cond.selects RX12 yX12_call yX12_call ∈ gWs := gWm 213 (by decide +kernel) rfl
theorem cl_X12_890 : gCV RX12 890 yX12_call cX12_call 5 none 2 := ⟨g_mk [.methodLink RX12 890 yX12_call, .instanceMethod yX12_call, .selects yX12_call.cls yX12_call yX12_call, .initialized yX12_call.cls] (gWs_all kw_2828) (List.forall_mem_cons.mpr ⟨kw_2825, List.forall_mem_cons.mpr ⟨kw_2827, List.forall_mem_cons.mpr ⟨kw_213, List.forall_mem_cons.mpr ⟨kw_257, fun _ h => nomatch h⟩⟩⟩⟩), rfl, by decide +kernel, by decide +kernel, by decide +kernel⟩
theorem kw_2824 : Cond.code yX12_rel cX12_rel 6 none ∈ gWs := List.mem_filter.mpr ⟨gMt11 _ (List.mem_of_getElem? (i := 187) rfl), rfl⟩
theorem kw_2821 : Cond.methodLink RX12 887 yX12_rel ∈ gWs := List.mem_filter.mpr ⟨gMt11 _ (List.mem_of_getElem? (i := 184) rfl), rfl⟩
theorem kw_2823 : Cond.instanceMethod yX12_rel ∈ gWs := List.mem_filter.mpr ⟨gMt11 _ (List.mem_of_getElem? (i := 186) rfl), rfl⟩
theorem kw_212 : Cond.selects RX12 yX12_rel yX12_rel ∈ gWs := gWm 212 (by decide +kernel) rfl
theorem cl_X12_887 : gCV RX12 887 yX12_rel cX12_rel 6 none 2 := ⟨g_mk [.methodLink RX12 887 yX12_rel, .instanceMethod yX12_rel, .selects yX12_rel.cls yX12_rel yX12_rel, .initialized yX12_rel.cls] (gWs_all kw_2824) (List.forall_mem_cons.mpr ⟨kw_2821, List.forall_mem_cons.mpr ⟨kw_2823, List.forall_mem_cons.mpr ⟨kw_212, List.forall_mem_cons.mpr ⟨kw_257, fun _ h => nomatch h⟩⟩⟩⟩), rfl, by decide +kernel, by decide +kernel, by decide +kernel⟩
theorem kw_2812 : Cond.code yX12_bin cX12_bin 5 none ∈ gWs := List.mem_filter.mpr ⟨gMt11 _ (List.mem_of_getElem? (i := 175) rfl), rfl⟩
theorem kw_2809 : Cond.methodLink RX12 884 yX12_bin ∈ gWs := List.mem_filter.mpr ⟨gMt11 _ (List.mem_of_getElem? (i := 172) rfl), rfl⟩
theorem kw_2811 : Cond.instanceMethod yX12_bin ∈ gWs := List.mem_filter.mpr ⟨gMt11 _ (List.mem_of_getElem? (i := 174) rfl), rfl⟩
theorem kw_209 : Cond.selects RX12 yX12_bin yX12_bin ∈ gWs := gWm 209 (by decide +kernel) rfl
theorem cl_X12_884 : gCV RX12 884 yX12_bin cX12_bin 5 none 1 := ⟨g_mk [.methodLink RX12 884 yX12_bin, .instanceMethod yX12_bin, .selects yX12_bin.cls yX12_bin yX12_bin, .initialized yX12_bin.cls] (gWs_all kw_2812) (List.forall_mem_cons.mpr ⟨kw_2809, List.forall_mem_cons.mpr ⟨kw_2811, List.forall_mem_cons.mpr ⟨kw_209, List.forall_mem_cons.mpr ⟨kw_257, fun _ h => nomatch h⟩⟩⟩⟩), rfl, by decide +kernel, by decide +kernel, by decide +kernel⟩
theorem kw_2792 : Cond.code yX12_evaluate cX12_evaluate 6 none ∈ gWs := List.mem_filter.mpr ⟨gMt11 _ (List.mem_of_getElem? (i := 155) rfl), rfl⟩
theorem kw_2789 : Cond.methodLink RX12 881 yX12_evaluate ∈ gWs := List.mem_filter.mpr ⟨gMt11 _ (List.mem_of_getElem? (i := 152) rfl), rfl⟩
theorem kw_2791 : Cond.instanceMethod yX12_evaluate ∈ gWs := List.mem_filter.mpr ⟨gMt11 _ (List.mem_of_getElem? (i := 154) rfl), rfl⟩
theorem kw_204 : Cond.selects RX12 yX12_evaluate yX12_evaluate ∈ gWs := gWm 204 (by decide +kernel) rfl
theorem cl_X12_881 : gCV RX12 881 yX12_evaluate cX12_evaluate 6 none 1 := ⟨g_mk [.methodLink RX12 881 yX12_evaluate, .instanceMethod yX12_evaluate, .selects yX12_evaluate.cls yX12_evaluate yX12_evaluate, .initialized yX12_evaluate.cls] (gWs_all kw_2792) (List.forall_mem_cons.mpr ⟨kw_2789, List.forall_mem_cons.mpr ⟨kw_2791, List.forall_mem_cons.mpr ⟨kw_204, List.forall_mem_cons.mpr ⟨kw_257, fun _ h => nomatch h⟩⟩⟩⟩), rfl, by decide +kernel, by decide +kernel, by decide +kernel⟩
theorem kw_1956 : Cond.fieldLink RX12 7 "WordTongueModel" "thrownCode" "I" ∈ gWs := List.mem_filter.mpr ⟨gMt8 _ (List.mem_of_getElem? (i := 39) rfl), rfl⟩
theorem fl_X12_7 : gFL RX12 7 12 0 .int false := ⟨RX12, TX12, 119, tyX12, rfl, by decide, inW_RX12, kw_1956, tyX12_ok, nmX12, rfl, by decide +kernel, fun h => by cases h⟩
theorem kw_1958 : Cond.fieldLink RX12 17 "WordTongueModel" "tapeLen" "I" ∈ gWs := List.mem_filter.mpr ⟨gMt8 _ (List.mem_of_getElem? (i := 41) rfl), rfl⟩
theorem fl_X12_17 : gFL RX12 17 12 2 .int false := ⟨RX12, TX12, 119, tyX12, rfl, by decide, inW_RX12, kw_1958, tyX12_ok, nmX12, rfl, by decide +kernel, fun h => by cases h⟩
theorem kw_1957 : Cond.fieldLink RX12 13 "WordTongueModel" "tape" "[B" ∈ gWs := List.mem_filter.mpr ⟨gMt8 _ (List.mem_of_getElem? (i := 40) rfl), rfl⟩
theorem fl_X12_13 : gFL RX12 13 12 1 (.array .byte) true := ⟨RX12, TX12, 119, tyX12, rfl, by decide, inW_RX12, kw_1957, tyX12_ok, nmX12, rfl, by decide +kernel, fun _ => rfl⟩
theorem kw_2061 : Cond.fieldLink RX12 333 "WordTongueModel" "compiled" "Z" ∈ gWs := List.mem_filter.mpr ⟨gMt8 _ (List.mem_of_getElem? (i := 144) rfl), rfl⟩
theorem fl_X12_333 : gFL RX12 333 12 105 .boolean false := ⟨RX12, TX12, 119, tyX12, rfl, by decide, inW_RX12, kw_2061, tyX12_ok, nmX12, rfl, by decide +kernel, fun h => by cases h⟩
theorem kw_2330 : Cond.code yX12_scan cX12_scan 3 (some .int) ∈ gWs := List.mem_filter.mpr ⟨gMt9 _ (List.mem_of_getElem? (i := 173) rfl), rfl⟩
theorem kw_2327 : Cond.methodLink RX12 917 yX12_scan ∈ gWs := List.mem_filter.mpr ⟨gMt9 _ (List.mem_of_getElem? (i := 170) rfl), rfl⟩
theorem kw_2329 : Cond.instanceMethod yX12_scan ∈ gWs := List.mem_filter.mpr ⟨gMt9 _ (List.mem_of_getElem? (i := 172) rfl), rfl⟩
theorem kw_123 : Cond.selects RX12 yX12_scan yX12_scan ∈ gWs := gWm 123 (by decide +kernel) rfl
theorem cl_X12_917 : gCV RX12 917 yX12_scan cX12_scan 3 (some .int) 0 := ⟨g_mk [.methodLink RX12 917 yX12_scan, .instanceMethod yX12_scan, .selects yX12_scan.cls yX12_scan yX12_scan, .initialized yX12_scan.cls] (gWs_all kw_2330) (List.forall_mem_cons.mpr ⟨kw_2327, List.forall_mem_cons.mpr ⟨kw_2329, List.forall_mem_cons.mpr ⟨kw_123, List.forall_mem_cons.mpr ⟨kw_257, fun _ h => nomatch h⟩⟩⟩⟩), rfl, by decide +kernel, by decide +kernel, by decide +kernel⟩
theorem kw_2441 : Cond.code yX12_parse cX12_parse 1 (some .boolean) ∈ gWs := List.mem_filter.mpr ⟨gMt10 _ (List.mem_of_getElem? (i := 44) rfl), rfl⟩
theorem kw_2438 : Cond.methodLink RX12 920 yX12_parse ∈ gWs := List.mem_filter.mpr ⟨gMt10 _ (List.mem_of_getElem? (i := 41) rfl), rfl⟩
theorem kw_2440 : Cond.instanceMethod yX12_parse ∈ gWs := List.mem_filter.mpr ⟨gMt10 _ (List.mem_of_getElem? (i := 43) rfl), rfl⟩
theorem kw_135 : Cond.selects RX12 yX12_parse yX12_parse ∈ gWs := gWm 135 (by decide +kernel) rfl
theorem cl_X12_920 : gCV RX12 920 yX12_parse cX12_parse 1 (some .boolean) 0 := ⟨g_mk [.methodLink RX12 920 yX12_parse, .instanceMethod yX12_parse, .selects yX12_parse.cls yX12_parse yX12_parse, .initialized yX12_parse.cls] (gWs_all kw_2441) (List.forall_mem_cons.mpr ⟨kw_2438, List.forall_mem_cons.mpr ⟨kw_2440, List.forall_mem_cons.mpr ⟨kw_135, List.forall_mem_cons.mpr ⟨kw_257, fun _ h => nomatch h⟩⟩⟩⟩), rfl, by decide +kernel, by decide +kernel, by decide +kernel⟩
theorem kw_2542 : Cond.code yX12_check cX12_check 4 none ∈ gWs := List.mem_filter.mpr ⟨gMt10 _ (List.mem_of_getElem? (i := 145) rfl), rfl⟩
theorem kw_2539 : Cond.methodLink RX12 923 yX12_check ∈ gWs := List.mem_filter.mpr ⟨gMt10 _ (List.mem_of_getElem? (i := 142) rfl), rfl⟩
theorem kw_2541 : Cond.instanceMethod yX12_check ∈ gWs := List.mem_filter.mpr ⟨gMt10 _ (List.mem_of_getElem? (i := 144) rfl), rfl⟩
theorem kw_158 : Cond.selects RX12 yX12_check yX12_check ∈ gWs := gWm 158 (by decide +kernel) rfl
theorem cl_X12_923 : gCV RX12 923 yX12_check cX12_check 4 none 0 := ⟨g_mk [.methodLink RX12 923 yX12_check, .instanceMethod yX12_check, .selects yX12_check.cls yX12_check yX12_check, .initialized yX12_check.cls] (gWs_all kw_2542) (List.forall_mem_cons.mpr ⟨kw_2539, List.forall_mem_cons.mpr ⟨kw_2541, List.forall_mem_cons.mpr ⟨kw_158, List.forall_mem_cons.mpr ⟨kw_257, fun _ h => nomatch h⟩⟩⟩⟩), rfl, by decide +kernel, by decide +kernel, by decide +kernel⟩
theorem kw_2056 : Cond.fieldLink RX12 318 "WordTongueModel" "wanted" "I" ∈ gWs := List.mem_filter.mpr ⟨gMt8 _ (List.mem_of_getElem? (i := 139) rfl), rfl⟩
theorem fl_X12_318 : gFL RX12 318 12 100 .int false := ⟨RX12, TX12, 119, tyX12, rfl, by decide, inW_RX12, kw_2056, tyX12_ok, nmX12, rfl, by decide +kernel, fun h => by cases h⟩
theorem kw_2745 : Cond.constant RX12 926 32768 ∈ gWs := List.mem_filter.mpr ⟨gMt11 _ (List.mem_of_getElem? (i := 108) rfl), rfl⟩
theorem kw_1955 : Cond.constant RX12 311 65536 ∈ gWs := List.mem_filter.mpr ⟨gMt8 _ (List.mem_of_getElem? (i := 38) rfl), rfl⟩
theorem kw_2753 : Cond.code yX12_rowsOf cX12_rowsOf 9 none ∈ gWs := List.mem_filter.mpr ⟨gMt11 _ (List.mem_of_getElem? (i := 116) rfl), rfl⟩
theorem kw_2750 : Cond.methodLink RX12 927 yX12_rowsOf ∈ gWs := List.mem_filter.mpr ⟨gMt11 _ (List.mem_of_getElem? (i := 113) rfl), rfl⟩
theorem kw_2752 : Cond.instanceMethod yX12_rowsOf ∈ gWs := List.mem_filter.mpr ⟨gMt11 _ (List.mem_of_getElem? (i := 115) rfl), rfl⟩
theorem kw_197 : Cond.selects RX12 yX12_rowsOf yX12_rowsOf ∈ gWs := gWm 197 (by decide +kernel) rfl
theorem cl_X12_927 : gCV RX12 927 yX12_rowsOf cX12_rowsOf 9 none 1 := ⟨g_mk [.methodLink RX12 927 yX12_rowsOf, .instanceMethod yX12_rowsOf, .selects yX12_rowsOf.cls yX12_rowsOf yX12_rowsOf, .initialized yX12_rowsOf.cls] (gWs_all kw_2753) (List.forall_mem_cons.mpr ⟨kw_2750, List.forall_mem_cons.mpr ⟨kw_2752, List.forall_mem_cons.mpr ⟨kw_197, List.forall_mem_cons.mpr ⟨kw_257, fun _ h => nomatch h⟩⟩⟩⟩), rfl, by decide +kernel, by decide +kernel, by decide +kernel⟩
theorem kw_2761 : Cond.constant RX12 930 100000 ∈ gWs := List.mem_filter.mpr ⟨gMt11 _ (List.mem_of_getElem? (i := 124) rfl), rfl⟩
theorem kw_2788 : Cond.code yX12_doNext cX12_doNext 6 none ∈ gWs := List.mem_filter.mpr ⟨gMt11 _ (List.mem_of_getElem? (i := 151) rfl), rfl⟩
theorem kw_2785 : Cond.methodLink RX12 931 yX12_doNext ∈ gWs := List.mem_filter.mpr ⟨gMt11 _ (List.mem_of_getElem? (i := 148) rfl), rfl⟩
theorem kw_2787 : Cond.instanceMethod yX12_doNext ∈ gWs := List.mem_filter.mpr ⟨gMt11 _ (List.mem_of_getElem? (i := 150) rfl), rfl⟩
theorem kw_203 : Cond.selects RX12 yX12_doNext yX12_doNext ∈ gWs := gWm 203 (by decide +kernel) rfl
theorem cl_X12_931 : gCV RX12 931 yX12_doNext cX12_doNext 6 none 0 := ⟨g_mk [.methodLink RX12 931 yX12_doNext, .instanceMethod yX12_doNext, .selects yX12_doNext.cls yX12_doNext yX12_doNext, .initialized yX12_doNext.cls] (gWs_all kw_2788) (List.forall_mem_cons.mpr ⟨kw_2785, List.forall_mem_cons.mpr ⟨kw_2787, List.forall_mem_cons.mpr ⟨kw_203, List.forall_mem_cons.mpr ⟨kw_257, fun _ h => nomatch h⟩⟩⟩⟩), rfl, by decide +kernel, by decide +kernel, by decide +kernel⟩
/-! the reference: words -/
