set_option maxRecDepth 20000 in
theorem lw_w293 : Cond.instanceMethod yX3_packHand ∈ lw_tbl := List.mem_of_getElem? (i := 293) rfl
set_option maxRecDepth 20000 in
theorem lw_w294 : Cond.code yX3_packHand cX3_packHand 7 none ∈ lw_tbl := List.mem_of_getElem? (i := 294) rfl
set_option maxRecDepth 20000 in
theorem lw_w295 : Cond.methodLink RX3 205 yX3_packCell ∈ lw_tbl := List.mem_of_getElem? (i := 295) rfl
set_option maxRecDepth 20000 in
theorem lw_w297 : Cond.instanceMethod yX3_packCell ∈ lw_tbl := List.mem_of_getElem? (i := 297) rfl
set_option maxRecDepth 20000 in
theorem lw_w298 : Cond.code yX3_packCell cX3_packCell 5 (some .int) ∈ lw_tbl := List.mem_of_getElem? (i := 298) rfl
set_option maxRecDepth 20000 in
theorem lw_w299 : Cond.methodLink RX3 152 yX1_numberAt ∈ lw_tbl := List.mem_of_getElem? (i := 299) rfl
set_option maxRecDepth 20000 in
theorem lw_w300 : Cond.instanceMethod yX1_numberAt ∈ lw_tbl := List.mem_of_getElem? (i := 300) rfl
set_option maxRecDepth 20000 in
theorem lw_w301 : Cond.selects RX1 yX1_numberAt yX1_numberAt ∈ lw_tbl := List.mem_of_getElem? (i := 301) rfl
set_option maxRecDepth 20000 in
theorem lw_w302 : Cond.code yX1_numberAt cX1_numberAt 2 (some .long) ∈ lw_tbl := List.mem_of_getElem? (i := 302) rfl
set_option maxRecDepth 20000 in
theorem lw_w303 : Cond.methodLink RX3 209 yX3_packText ∈ lw_tbl := List.mem_of_getElem? (i := 303) rfl
set_option maxRecDepth 20000 in
theorem lw_w305 : Cond.instanceMethod yX3_packText ∈ lw_tbl := List.mem_of_getElem? (i := 305) rfl
set_option maxRecDepth 20000 in
theorem lw_w306 : Cond.code yX3_packText cX3_packText 6 (some .int) ∈ lw_tbl := List.mem_of_getElem? (i := 306) rfl
set_option maxRecDepth 20000 in
theorem lw_w307 : Cond.methodLink RX3 156 yX1_letterAt ∈ lw_tbl := List.mem_of_getElem? (i := 307) rfl
set_option maxRecDepth 20000 in
theorem lw_w308 : Cond.instanceMethod yX1_letterAt ∈ lw_tbl := List.mem_of_getElem? (i := 308) rfl
set_option maxRecDepth 20000 in
theorem lw_w309 : Cond.selects RX1 yX1_letterAt yX1_letterAt ∈ lw_tbl := List.mem_of_getElem? (i := 309) rfl
set_option maxRecDepth 20000 in
theorem lw_w310 : Cond.code yX1_letterAt cX1_letterAt 3 (some .int) ∈ lw_tbl := List.mem_of_getElem? (i := 310) rfl
set_option maxRecDepth 20000 in
theorem lw_w311 : Cond.methodLink RL 44 yX3_get ∈ lw_tbl := List.mem_of_getElem? (i := 311) rfl
set_option maxRecDepth 20000 in
theorem lw_w312 : Cond.instanceMethod yX3_get ∈ lw_tbl := List.mem_of_getElem? (i := 312) rfl
set_option maxRecDepth 20000 in
theorem lw_w313 : Cond.selects RX3 yX3_get yX3_get ∈ lw_tbl := List.mem_of_getElem? (i := 313) rfl
set_option maxRecDepth 20000 in
theorem lw_w314 : Cond.code yX3_get cX3_get 4 (some .boolean) ∈ lw_tbl := List.mem_of_getElem? (i := 314) rfl
set_option maxRecDepth 20000 in
theorem lw_w315 : Cond.methodLink RX3 112 yX3_unpackToHand ∈ lw_tbl := List.mem_of_getElem? (i := 315) rfl
set_option maxRecDepth 20000 in
theorem lw_w317 : Cond.instanceMethod yX3_unpackToHand ∈ lw_tbl := List.mem_of_getElem? (i := 317) rfl
set_option maxRecDepth 20000 in
theorem lw_w318 : Cond.code yX3_unpackToHand cX3_unpackToHand 7 none ∈ lw_tbl := List.mem_of_getElem? (i := 318) rfl
set_option maxRecDepth 20000 in
theorem lw_w319 : Cond.methodLink RX3 131 yX0_read ∈ lw_tbl := List.mem_of_getElem? (i := 319) rfl
set_option maxRecDepth 20000 in
theorem lw_w320 : Cond.methodLink RX3 213 yX3_unpackCell ∈ lw_tbl := List.mem_of_getElem? (i := 320) rfl
set_option maxRecDepth 20000 in
theorem lw_w322 : Cond.instanceMethod yX3_unpackCell ∈ lw_tbl := List.mem_of_getElem? (i := 322) rfl
set_option maxRecDepth 20000 in
theorem lw_w323 : Cond.code yX3_unpackCell cX3_unpackCell 5 (some .int) ∈ lw_tbl := List.mem_of_getElem? (i := 323) rfl
set_option maxRecDepth 20000 in
theorem lw_w324 : Cond.methodLink RX3 216 yX3_unpackText ∈ lw_tbl := List.mem_of_getElem? (i := 324) rfl
set_option maxRecDepth 20000 in
theorem lw_w326 : Cond.instanceMethod yX3_unpackText ∈ lw_tbl := List.mem_of_getElem? (i := 326) rfl
set_option maxRecDepth 20000 in
theorem lw_w327 : Cond.code yX3_unpackText cX3_unpackText 6 (some .int) ∈ lw_tbl := List.mem_of_getElem? (i := 327) rfl
set_option maxRecDepth 20000 in
theorem lw_w328 : Cond.methodLink RL 48 yX3_end ∈ lw_tbl := List.mem_of_getElem? (i := 328) rfl
set_option maxRecDepth 20000 in
theorem lw_w329 : Cond.instanceMethod yX3_end ∈ lw_tbl := List.mem_of_getElem? (i := 329) rfl
set_option maxRecDepth 20000 in
theorem lw_w330 : Cond.selects RX3 yX3_end yX3_end ∈ lw_tbl := List.mem_of_getElem? (i := 330) rfl
set_option maxRecDepth 20000 in
theorem lw_w331 : Cond.code yX3_end cX3_end 6 (some .boolean) ∈ lw_tbl := List.mem_of_getElem? (i := 331) rfl
set_option maxRecDepth 20000 in
theorem lw_w332 : Cond.methodLink RL 52 yX3_behind ∈ lw_tbl := List.mem_of_getElem? (i := 332) rfl
set_option maxRecDepth 20000 in
theorem lw_w333 : Cond.instanceMethod yX3_behind ∈ lw_tbl := List.mem_of_getElem? (i := 333) rfl
set_option maxRecDepth 20000 in
theorem lw_w334 : Cond.selects RX3 yX3_behind yX3_behind ∈ lw_tbl := List.mem_of_getElem? (i := 334) rfl
set_option maxRecDepth 20000 in
theorem lw_w335 : Cond.code yX3_behind cX3_behind 4 (some .boolean) ∈ lw_tbl := List.mem_of_getElem? (i := 335) rfl
set_option maxRecDepth 20000 in
theorem lw_w336 : Cond.methodLink RL 57 yX3_take ∈ lw_tbl := List.mem_of_getElem? (i := 336) rfl
set_option maxRecDepth 20000 in
theorem lw_w337 : Cond.instanceMethod yX3_take ∈ lw_tbl := List.mem_of_getElem? (i := 337) rfl
set_option maxRecDepth 20000 in
theorem lw_w338 : Cond.selects RX3 yX3_take yX3_take ∈ lw_tbl := List.mem_of_getElem? (i := 338) rfl
set_option maxRecDepth 20000 in
theorem lw_w339 : Cond.code yX3_take cX3_take 3 (some .boolean) ∈ lw_tbl := List.mem_of_getElem? (i := 339) rfl
set_option maxRecDepth 20000 in
theorem lw_w340 : Cond.methodLink RX3 118 yX0_remove ∈ lw_tbl := List.mem_of_getElem? (i := 340) rfl
set_option maxRecDepth 20000 in
theorem lw_w341 : Cond.instanceMethod yX0_remove ∈ lw_tbl := List.mem_of_getElem? (i := 341) rfl
set_option maxRecDepth 20000 in
theorem lw_w342 : Cond.selects RX0 yX0_remove yX0_remove ∈ lw_tbl := List.mem_of_getElem? (i := 342) rfl
set_option maxRecDepth 20000 in
theorem lw_w343 : Cond.code yX0_remove cX0_remove 4 none ∈ lw_tbl := List.mem_of_getElem? (i := 343) rfl
set_option maxRecDepth 20000 in
theorem lw_w344 : Cond.methodLink RX0 51 yX0_startOf ∈ lw_tbl := List.mem_of_getElem? (i := 344) rfl
set_option maxRecDepth 20000 in
theorem lw_w345 : Cond.methodLink RX0 54 yX0_closeGap ∈ lw_tbl := List.mem_of_getElem? (i := 345) rfl
set_option maxRecDepth 20000 in
theorem lw_w347 : Cond.instanceMethod yX0_closeGap ∈ lw_tbl := List.mem_of_getElem? (i := 347) rfl
set_option maxRecDepth 20000 in
theorem lw_w348 : Cond.code yX0_closeGap cX0_closeGap 4 none ∈ lw_tbl := List.mem_of_getElem? (i := 348) rfl
set_option maxRecDepth 20000 in
theorem lw_w349 : Cond.methodLink RX0 58 arraycopyName ∈ lw_tbl := List.mem_of_getElem? (i := 349) rfl
set_option maxRecDepth 20000 in
theorem lw_w350 : Cond.static arraycopyName ∈ lw_tbl := List.mem_of_getElem? (i := 350) rfl
set_option maxRecDepth 20000 in
theorem lw_w351 : Cond.native arraycopyName ∈ lw_tbl := List.mem_of_getElem? (i := 351) rfl
set_option maxRecDepth 20000 in
theorem lw_w352 : Cond.methodLink RX3 127 yX3_leaveChain ∈ lw_tbl := List.mem_of_getElem? (i := 352) rfl
set_option maxRecDepth 20000 in
theorem lw_w354 : Cond.instanceMethod yX3_leaveChain ∈ lw_tbl := List.mem_of_getElem? (i := 354) rfl
set_option maxRecDepth 20000 in
theorem lw_w355 : Cond.code yX3_leaveChain cX3_leaveChain 7 none ∈ lw_tbl := List.mem_of_getElem? (i := 355) rfl
set_option maxRecDepth 20000 in
theorem lw_w356 : Cond.methodLink RL 61 yX3_look ∈ lw_tbl := List.mem_of_getElem? (i := 356) rfl
set_option maxRecDepth 20000 in
theorem lw_w357 : Cond.instanceMethod yX3_look ∈ lw_tbl := List.mem_of_getElem? (i := 357) rfl
set_option maxRecDepth 20000 in
theorem lw_w358 : Cond.selects RX3 yX3_look yX3_look ∈ lw_tbl := List.mem_of_getElem? (i := 358) rfl
set_option maxRecDepth 20000 in
theorem lw_w359 : Cond.code yX3_look cX3_look 6 (some .int) ∈ lw_tbl := List.mem_of_getElem? (i := 359) rfl
set_option maxRecDepth 20000 in
theorem lw_w360 : Cond.methodLink RX3 135 yX3_readBehind ∈ lw_tbl := List.mem_of_getElem? (i := 360) rfl
set_option maxRecDepth 20000 in
theorem lw_w361 : Cond.static yX3_readBehind ∈ lw_tbl := List.mem_of_getElem? (i := 361) rfl
set_option maxRecDepth 20000 in
theorem lw_w362 : Cond.code yX3_readBehind cX3_readBehind 2 (some .int) ∈ lw_tbl := List.mem_of_getElem? (i := 362) rfl
set_option maxRecDepth 20000 in
theorem lw_w363 : Cond.methodLink RX3 139 yX0_sizeOf ∈ lw_tbl := List.mem_of_getElem? (i := 363) rfl
set_option maxRecDepth 20000 in
theorem lw_w364 : Cond.methodLink RL 66 yX3_next ∈ lw_tbl := List.mem_of_getElem? (i := 364) rfl
set_option maxRecDepth 20000 in
theorem lw_w365 : Cond.instanceMethod yX3_next ∈ lw_tbl := List.mem_of_getElem? (i := 365) rfl
set_option maxRecDepth 20000 in
theorem lw_w366 : Cond.selects RX3 yX3_next yX3_next ∈ lw_tbl := List.mem_of_getElem? (i := 366) rfl
set_option maxRecDepth 20000 in
theorem lw_w367 : Cond.code yX3_next cX3_next 5 (some .int) ∈ lw_tbl := List.mem_of_getElem? (i := 367) rfl
set_option maxRecDepth 20000 in
theorem lw_w368 : Cond.methodLink RX3 145 yX3_firstVersionFrom ∈ lw_tbl := List.mem_of_getElem? (i := 368) rfl
set_option maxRecDepth 20000 in
theorem lw_w370 : Cond.instanceMethod yX3_firstVersionFrom ∈ lw_tbl := List.mem_of_getElem? (i := 370) rfl
set_option maxRecDepth 20000 in
theorem lw_w371 : Cond.code yX3_firstVersionFrom cX3_firstVersionFrom 8 (some .int) ∈ lw_tbl := List.mem_of_getElem? (i := 371) rfl
set_option maxRecDepth 20000 in
theorem lw_w372 : Cond.methodLink RX3 193 yX0_firstHeldFrom ∈ lw_tbl := List.mem_of_getElem? (i := 372) rfl
set_option maxRecDepth 20000 in
theorem lw_w373 : Cond.instanceMethod yX0_firstHeldFrom ∈ lw_tbl := List.mem_of_getElem? (i := 373) rfl
set_option maxRecDepth 20000 in
theorem lw_w374 : Cond.selects RX0 yX0_firstHeldFrom yX0_firstHeldFrom ∈ lw_tbl := List.mem_of_getElem? (i := 374) rfl
set_option maxRecDepth 20000 in
theorem lw_w375 : Cond.code yX0_firstHeldFrom cX0_firstHeldFrom 3 (some .int) ∈ lw_tbl := List.mem_of_getElem? (i := 375) rfl
set_option maxRecDepth 20000 in
theorem lw_w376 : Cond.methodLink RL 70 yX3_value ∈ lw_tbl := List.mem_of_getElem? (i := 376) rfl
set_option maxRecDepth 20000 in
theorem lw_w377 : Cond.instanceMethod yX3_value ∈ lw_tbl := List.mem_of_getElem? (i := 377) rfl
set_option maxRecDepth 20000 in
theorem lw_w378 : Cond.selects RX3 yX3_value yX3_value ∈ lw_tbl := List.mem_of_getElem? (i := 378) rfl
set_option maxRecDepth 20000 in
theorem lw_w379 : Cond.code yX3_value cX3_value 2 (some .long) ∈ lw_tbl := List.mem_of_getElem? (i := 379) rfl
set_option maxRecDepth 20000 in
theorem lw_w380 : Cond.methodLink RL 75 yX3_letter ∈ lw_tbl := List.mem_of_getElem? (i := 380) rfl
set_option maxRecDepth 20000 in
theorem lw_w381 : Cond.instanceMethod yX3_letter ∈ lw_tbl := List.mem_of_getElem? (i := 381) rfl
set_option maxRecDepth 20000 in
theorem lw_w382 : Cond.selects RX3 yX3_letter yX3_letter ∈ lw_tbl := List.mem_of_getElem? (i := 382) rfl
set_option maxRecDepth 20000 in
theorem lw_w383 : Cond.code yX3_letter cX3_letter 3 (some .int) ∈ lw_tbl := List.mem_of_getElem? (i := 383) rfl
set_option maxRecDepth 20000 in
theorem lw_w384 : Cond.methodLink RL 79 yX3_kind ∈ lw_tbl := List.mem_of_getElem? (i := 384) rfl
set_option maxRecDepth 20000 in
theorem lw_w385 : Cond.instanceMethod yX3_kind ∈ lw_tbl := List.mem_of_getElem? (i := 385) rfl
set_option maxRecDepth 20000 in
theorem lw_w386 : Cond.selects RX3 yX3_kind yX3_kind ∈ lw_tbl := List.mem_of_getElem? (i := 386) rfl
set_option maxRecDepth 20000 in
theorem lw_w387 : Cond.code yX3_kind cX3_kind 2 (some .int) ∈ lw_tbl := List.mem_of_getElem? (i := 387) rfl
set_option maxRecDepth 20000 in
theorem lw_w388 : Cond.methodLink RL 84 yX3_page ∈ lw_tbl := List.mem_of_getElem? (i := 388) rfl
set_option maxRecDepth 20000 in
theorem lw_w389 : Cond.instanceMethod yX3_page ∈ lw_tbl := List.mem_of_getElem? (i := 389) rfl
set_option maxRecDepth 20000 in
theorem lw_w390 : Cond.selects RX3 yX3_page yX3_page ∈ lw_tbl := List.mem_of_getElem? (i := 390) rfl
set_option maxRecDepth 20000 in
theorem lw_w391 : Cond.code yX3_page cX3_page 4 (some .int) ∈ lw_tbl := List.mem_of_getElem? (i := 391) rfl
set_option maxRecDepth 20000 in
theorem lw_w392 : Cond.methodLink RX3 159 yX3_factOfFreePage ∈ lw_tbl := List.mem_of_getElem? (i := 392) rfl
set_option maxRecDepth 20000 in
theorem lw_w393 : Cond.static yX3_factOfFreePage ∈ lw_tbl := List.mem_of_getElem? (i := 393) rfl
set_option maxRecDepth 20000 in
theorem lw_w394 : Cond.code yX3_factOfFreePage cX3_factOfFreePage 1 (some .int) ∈ lw_tbl := List.mem_of_getElem? (i := 394) rfl
set_option maxRecDepth 20000 in
theorem lw_w395 : Cond.methodLink RX3 162 yX3_factOfPage ∈ lw_tbl := List.mem_of_getElem? (i := 395) rfl
set_option maxRecDepth 20000 in
theorem lw_w396 : Cond.static yX3_factOfPage ∈ lw_tbl := List.mem_of_getElem? (i := 396) rfl
set_option maxRecDepth 20000 in
theorem lw_w397 : Cond.code yX3_factOfPage cX3_factOfPage 2 (some .int) ∈ lw_tbl := List.mem_of_getElem? (i := 397) rfl
set_option maxRecDepth 20000 in
theorem lw_w398 : Cond.methodLink RX3 168 yX0_freeBytes ∈ lw_tbl := List.mem_of_getElem? (i := 398) rfl
set_option maxRecDepth 20000 in
theorem lw_w399 : Cond.classLink RL 10 RX4 ∈ lw_tbl := List.mem_of_getElem? (i := 399) rfl
set_option maxRecDepth 20000 in
theorem lw_w400 : Cond.instantiable RX4 22 ∈ lw_tbl := List.mem_of_getElem? (i := 400) rfl
set_option maxRecDepth 20000 in
theorem lw_w401 : Cond.methodLink RL 12 yX4_init ∈ lw_tbl := List.mem_of_getElem? (i := 401) rfl
set_option maxRecDepth 20000 in
theorem lw_w402 : Cond.instanceMethod yX4_init ∈ lw_tbl := List.mem_of_getElem? (i := 402) rfl
set_option maxRecDepth 20000 in
theorem lw_w403 : Cond.code yX4_init cX4_init 2 none ∈ lw_tbl := List.mem_of_getElem? (i := 403) rfl
set_option maxRecDepth 20000 in
theorem lw_w404 : Cond.methodLink RX4 1 objectInit ∈ lw_tbl := List.mem_of_getElem? (i := 404) rfl
set_option maxRecDepth 20000 in
theorem lw_w405 : Cond.fieldLink RX4 7 "VersionDeskModel" "columns" "[I" ∈ lw_tbl := List.mem_of_getElem? (i := 405) rfl
set_option maxRecDepth 20000 in
theorem lw_w406 : Cond.fieldLink RX4 13 "VersionDeskModel" "types" "[I" ∈ lw_tbl := List.mem_of_getElem? (i := 406) rfl
set_option maxRecDepth 20000 in
theorem lw_w407 : Cond.fieldLink RX4 16 "VersionDeskModel" "first" "[I" ∈ lw_tbl := List.mem_of_getElem? (i := 407) rfl
set_option maxRecDepth 20000 in
theorem lw_w408 : Cond.fieldLink RX4 19 "VersionDeskModel" "tableOf" "[I" ∈ lw_tbl := List.mem_of_getElem? (i := 408) rfl
set_option maxRecDepth 20000 in
theorem lw_w409 : Cond.fieldLink RX4 22 "VersionDeskModel" "slots" "[I" ∈ lw_tbl := List.mem_of_getElem? (i := 409) rfl
set_option maxRecDepth 20000 in
theorem lw_w410 : Cond.fieldLink RX4 25 "VersionDeskModel" "follows" "[I" ∈ lw_tbl := List.mem_of_getElem? (i := 410) rfl
set_option maxRecDepth 20000 in
theorem lw_w411 : Cond.fieldLink RX4 105 "VersionDeskModel" "many" "I" ∈ lw_tbl := List.mem_of_getElem? (i := 411) rfl
set_option maxRecDepth 20000 in
theorem lw_w412 : Cond.fieldLink RX4 28 "VersionDeskModel" "place" "[I" ∈ lw_tbl := List.mem_of_getElem? (i := 412) rfl
set_option maxRecDepth 20000 in
theorem lw_w413 : Cond.fieldLink RX4 31 "VersionDeskModel" "number" "[I" ∈ lw_tbl := List.mem_of_getElem? (i := 413) rfl
set_option maxRecDepth 20000 in
theorem lw_w414 : Cond.fieldLink RX4 34 "VersionDeskModel" "maker" "[I" ∈ lw_tbl := List.mem_of_getElem? (i := 414) rfl
set_option maxRecDepth 20000 in
theorem lw_w415 : Cond.fieldLink RX4 37 "VersionDeskModel" "command" "[I" ∈ lw_tbl := List.mem_of_getElem? (i := 415) rfl
set_option maxRecDepth 20000 in
theorem lw_w416 : Cond.fieldLink RX4 40 "VersionDeskModel" "ender" "[I" ∈ lw_tbl := List.mem_of_getElem? (i := 416) rfl
set_option maxRecDepth 20000 in
theorem lw_w417 : Cond.fieldLink RX4 43 "VersionDeskModel" "endCommand" "[I" ∈ lw_tbl := List.mem_of_getElem? (i := 417) rfl
set_option maxRecDepth 20000 in
theorem lw_w418 : Cond.fieldLink RX4 46 "VersionDeskModel" "behind" "[I" ∈ lw_tbl := List.mem_of_getElem? (i := 418) rfl
set_option maxRecDepth 20000 in
theorem lw_w419 : Cond.fieldLink RX4 49 "VersionDeskModel" "size" "[I" ∈ lw_tbl := List.mem_of_getElem? (i := 419) rfl
set_option maxRecDepth 20000 in
theorem lw_w420 : Cond.fieldLink RX4 52 "VersionDeskModel" "cells" "[S" ∈ lw_tbl := List.mem_of_getElem? (i := 420) rfl
set_option maxRecDepth 20000 in
theorem lw_w421 : Cond.fieldLink RX4 56 "VersionDeskModel" "hand" "[I" ∈ lw_tbl := List.mem_of_getElem? (i := 421) rfl
set_option maxRecDepth 20000 in
theorem lw_w422 : Cond.fieldLink RX4 80 "VersionDeskModel" "steps" "I" ∈ lw_tbl := List.mem_of_getElem? (i := 422) rfl
set_option maxRecDepth 20000 in
theorem lw_w423 : Cond.fieldLink RX4 59 "VersionDeskModel" "given" "[J" ∈ lw_tbl := List.mem_of_getElem? (i := 423) rfl
set_option maxRecDepth 20000 in
theorem lw_w424 : Cond.fieldLink RX4 63 "VersionDeskModel" "bytes" "[I" ∈ lw_tbl := List.mem_of_getElem? (i := 424) rfl
set_option maxRecDepth 20000 in
theorem lw_w425 : Cond.fieldLink RX4 66 "VersionDeskModel" "before" "[I" ∈ lw_tbl := List.mem_of_getElem? (i := 425) rfl
set_option maxRecDepth 20000 in
theorem lw_w426 : Cond.fieldLink RX4 69 "VersionDeskModel" "length" "[I" ∈ lw_tbl := List.mem_of_getElem? (i := 426) rfl
set_option maxRecDepth 20000 in
theorem lw_w472 : Cond.arrayClass .short ∈ lw_tbl := List.mem_of_getElem? (i := 472) rfl
set_option maxRecDepth 20000 in
theorem lw_w473 : Cond.methodLink RL 26 yX4_clear ∈ lw_tbl := List.mem_of_getElem? (i := 473) rfl
set_option maxRecDepth 20000 in
theorem lw_w474 : Cond.instanceMethod yX4_clear ∈ lw_tbl := List.mem_of_getElem? (i := 474) rfl
set_option maxRecDepth 20000 in
theorem lw_w475 : Cond.selects RX4 yX4_clear yX4_clear ∈ lw_tbl := List.mem_of_getElem? (i := 475) rfl
set_option maxRecDepth 20000 in
theorem lw_w476 : Cond.code yX4_clear cX4_clear 2 none ∈ lw_tbl := List.mem_of_getElem? (i := 476) rfl
set_option maxRecDepth 20000 in
theorem lw_w477 : Cond.methodLink RL 33 yX4_cell ∈ lw_tbl := List.mem_of_getElem? (i := 477) rfl
set_option maxRecDepth 20000 in
theorem lw_w478 : Cond.instanceMethod yX4_cell ∈ lw_tbl := List.mem_of_getElem? (i := 478) rfl
set_option maxRecDepth 20000 in
theorem lw_w479 : Cond.selects RX4 yX4_cell yX4_cell ∈ lw_tbl := List.mem_of_getElem? (i := 479) rfl
set_option maxRecDepth 20000 in
theorem lw_w480 : Cond.code yX4_cell cX4_cell 4 (some .boolean) ∈ lw_tbl := List.mem_of_getElem? (i := 480) rfl
set_option maxRecDepth 20000 in
theorem lw_w481 : Cond.methodLink RX4 84 yX4_isColumn ∈ lw_tbl := List.mem_of_getElem? (i := 481) rfl
set_option maxRecDepth 20000 in
theorem lw_w482 : Cond.static yX4_isColumn ∈ lw_tbl := List.mem_of_getElem? (i := 482) rfl
set_option maxRecDepth 20000 in
theorem lw_w483 : Cond.code yX4_isColumn cX4_isColumn 1 (some .boolean) ∈ lw_tbl := List.mem_of_getElem? (i := 483) rfl
set_option maxRecDepth 20000 in
theorem lw_w484 : Cond.methodLink RX4 72 yX4_in ∈ lw_tbl := List.mem_of_getElem? (i := 484) rfl
set_option maxRecDepth 20000 in
theorem lw_w485 : Cond.static yX4_in ∈ lw_tbl := List.mem_of_getElem? (i := 485) rfl
set_option maxRecDepth 20000 in
theorem lw_w486 : Cond.code yX4_in cX4_in 3 (some .boolean) ∈ lw_tbl := List.mem_of_getElem? (i := 486) rfl
set_option maxRecDepth 20000 in
theorem lw_w487 : Cond.methodLink RX4 88 yX4_step ∈ lw_tbl := List.mem_of_getElem? (i := 487) rfl
set_option maxRecDepth 20000 in
theorem lw_w489 : Cond.instanceMethod yX4_step ∈ lw_tbl := List.mem_of_getElem? (i := 489) rfl
set_option maxRecDepth 20000 in
theorem lw_w490 : Cond.code yX4_step cX4_step 5 none ∈ lw_tbl := List.mem_of_getElem? (i := 490) rfl
set_option maxRecDepth 20000 in
theorem lw_w491 : Cond.methodLink RL 38 yX4_text ∈ lw_tbl := List.mem_of_getElem? (i := 491) rfl
set_option maxRecDepth 20000 in
theorem lw_w492 : Cond.instanceMethod yX4_text ∈ lw_tbl := List.mem_of_getElem? (i := 492) rfl
set_option maxRecDepth 20000 in
theorem lw_w493 : Cond.selects RX4 yX4_text yX4_text ∈ lw_tbl := List.mem_of_getElem? (i := 493) rfl
set_option maxRecDepth 20000 in
theorem lw_w494 : Cond.code yX4_text cX4_text 6 (some .boolean) ∈ lw_tbl := List.mem_of_getElem? (i := 494) rfl
set_option maxRecDepth 20000 in
theorem lw_w495 : Cond.methodLink RX4 92 yX4_isText ∈ lw_tbl := List.mem_of_getElem? (i := 495) rfl
set_option maxRecDepth 20000 in
theorem lw_w497 : Cond.instanceMethod yX4_isText ∈ lw_tbl := List.mem_of_getElem? (i := 497) rfl
set_option maxRecDepth 20000 in
theorem lw_w498 : Cond.code yX4_isText cX4_isText 2 (some .boolean) ∈ lw_tbl := List.mem_of_getElem? (i := 498) rfl
set_option maxRecDepth 20000 in
theorem lw_w499 : Cond.methodLink RX4 76 yX4_stepOf ∈ lw_tbl := List.mem_of_getElem? (i := 499) rfl
set_option maxRecDepth 20000 in
theorem lw_w500 : Cond.static yX4_stepOf ∈ lw_tbl := List.mem_of_getElem? (i := 500) rfl
set_option maxRecDepth 20000 in
theorem lw_w501 : Cond.code yX4_stepOf cX4_stepOf 1 (some .int) ∈ lw_tbl := List.mem_of_getElem? (i := 501) rfl
set_option maxRecDepth 20000 in
theorem lw_w502 : Cond.methodLink RL 74 yX4_value ∈ lw_tbl := List.mem_of_getElem? (i := 502) rfl
set_option maxRecDepth 20000 in
theorem lw_w503 : Cond.instanceMethod yX4_value ∈ lw_tbl := List.mem_of_getElem? (i := 503) rfl
set_option maxRecDepth 20000 in
theorem lw_w504 : Cond.selects RX4 yX4_value yX4_value ∈ lw_tbl := List.mem_of_getElem? (i := 504) rfl
set_option maxRecDepth 20000 in
theorem lw_w505 : Cond.code yX4_value cX4_value 3 (some .long) ∈ lw_tbl := List.mem_of_getElem? (i := 505) rfl
set_option maxRecDepth 20000 in
theorem lw_w506 : Cond.methodLink RL 78 yX4_letter ∈ lw_tbl := List.mem_of_getElem? (i := 506) rfl
set_option maxRecDepth 20000 in
theorem lw_w507 : Cond.instanceMethod yX4_letter ∈ lw_tbl := List.mem_of_getElem? (i := 507) rfl
set_option maxRecDepth 20000 in
theorem lw_w508 : Cond.selects RX4 yX4_letter yX4_letter ∈ lw_tbl := List.mem_of_getElem? (i := 508) rfl
set_option maxRecDepth 20000 in
theorem lw_w509 : Cond.code yX4_letter cX4_letter 5 (some .int) ∈ lw_tbl := List.mem_of_getElem? (i := 509) rfl
set_option maxRecDepth 20000 in
theorem lw_w510 : Cond.constantLong RX4 95 (255) ∈ lw_tbl := List.mem_of_getElem? (i := 510) rfl
set_option maxRecDepth 20000 in
theorem lw_w511 : Cond.methodLink RL 83 yX4_kind ∈ lw_tbl := List.mem_of_getElem? (i := 511) rfl
set_option maxRecDepth 20000 in
theorem lw_w512 : Cond.instanceMethod yX4_kind ∈ lw_tbl := List.mem_of_getElem? (i := 512) rfl
set_option maxRecDepth 20000 in
theorem lw_w513 : Cond.selects RX4 yX4_kind yX4_kind ∈ lw_tbl := List.mem_of_getElem? (i := 513) rfl
set_option maxRecDepth 20000 in
theorem lw_w514 : Cond.code yX4_kind cX4_kind 2 (some .int) ∈ lw_tbl := List.mem_of_getElem? (i := 514) rfl
set_option maxRecDepth 20000 in
theorem lw_w515 : Cond.methodLink RL 17 yX4_create ∈ lw_tbl := List.mem_of_getElem? (i := 515) rfl
set_option maxRecDepth 20000 in
theorem lw_w516 : Cond.instanceMethod yX4_create ∈ lw_tbl := List.mem_of_getElem? (i := 516) rfl
set_option maxRecDepth 20000 in
theorem lw_w517 : Cond.selects RX4 yX4_create yX4_create ∈ lw_tbl := List.mem_of_getElem? (i := 517) rfl
set_option maxRecDepth 20000 in
theorem lw_w518 : Cond.code yX4_create cX4_create 7 (some .boolean) ∈ lw_tbl := List.mem_of_getElem? (i := 518) rfl
set_option maxRecDepth 20000 in
theorem lw_w519 : Cond.methodLink RX4 97 yX4_lowestFree ∈ lw_tbl := List.mem_of_getElem? (i := 519) rfl
set_option maxRecDepth 20000 in
theorem lw_w521 : Cond.instanceMethod yX4_lowestFree ∈ lw_tbl := List.mem_of_getElem? (i := 521) rfl
set_option maxRecDepth 20000 in
theorem lw_w522 : Cond.code yX4_lowestFree cX4_lowestFree 3 (some .int) ∈ lw_tbl := List.mem_of_getElem? (i := 522) rfl
set_option maxRecDepth 20000 in
theorem lw_w523 : Cond.methodLink RX4 101 yX4_open ∈ lw_tbl := List.mem_of_getElem? (i := 523) rfl
set_option maxRecDepth 20000 in
theorem lw_w525 : Cond.instanceMethod yX4_open ∈ lw_tbl := List.mem_of_getElem? (i := 525) rfl
set_option maxRecDepth 20000 in
theorem lw_w526 : Cond.code yX4_open cX4_open 3 none ∈ lw_tbl := List.mem_of_getElem? (i := 526) rfl
set_option maxRecDepth 20000 in
theorem lw_w527 : Cond.methodLink RL 22 yX4_drop ∈ lw_tbl := List.mem_of_getElem? (i := 527) rfl
set_option maxRecDepth 20000 in
theorem lw_w528 : Cond.instanceMethod yX4_drop ∈ lw_tbl := List.mem_of_getElem? (i := 528) rfl
set_option maxRecDepth 20000 in
theorem lw_w529 : Cond.selects RX4 yX4_drop yX4_drop ∈ lw_tbl := List.mem_of_getElem? (i := 529) rfl
set_option maxRecDepth 20000 in
theorem lw_w530 : Cond.code yX4_drop cX4_drop 3 (some .boolean) ∈ lw_tbl := List.mem_of_getElem? (i := 530) rfl
set_option maxRecDepth 20000 in
theorem lw_w531 : Cond.methodLink RX4 108 yX4_isThere ∈ lw_tbl := List.mem_of_getElem? (i := 531) rfl
set_option maxRecDepth 20000 in
theorem lw_w533 : Cond.instanceMethod yX4_isThere ∈ lw_tbl := List.mem_of_getElem? (i := 533) rfl
set_option maxRecDepth 20000 in
theorem lw_w534 : Cond.code yX4_isThere cX4_isThere 2 (some .boolean) ∈ lw_tbl := List.mem_of_getElem? (i := 534) rfl
set_option maxRecDepth 20000 in
theorem lw_w535 : Cond.methodLink RX4 111 yX4_drop0 ∈ lw_tbl := List.mem_of_getElem? (i := 535) rfl
set_option maxRecDepth 20000 in
theorem lw_w537 : Cond.instanceMethod yX4_drop0 ∈ lw_tbl := List.mem_of_getElem? (i := 537) rfl
set_option maxRecDepth 20000 in
theorem lw_w538 : Cond.code yX4_drop0 cX4_drop0 3 none ∈ lw_tbl := List.mem_of_getElem? (i := 538) rfl
set_option maxRecDepth 20000 in
theorem lw_w539 : Cond.methodLink RL 43 yX4_put ∈ lw_tbl := List.mem_of_getElem? (i := 539) rfl
set_option maxRecDepth 20000 in
theorem lw_w540 : Cond.instanceMethod yX4_put ∈ lw_tbl := List.mem_of_getElem? (i := 540) rfl
set_option maxRecDepth 20000 in
theorem lw_w541 : Cond.selects RX4 yX4_put yX4_put ∈ lw_tbl := List.mem_of_getElem? (i := 541) rfl
set_option maxRecDepth 20000 in
theorem lw_w542 : Cond.code yX4_put cX4_put 11 (some .int) ∈ lw_tbl := List.mem_of_getElem? (i := 542) rfl
set_option maxRecDepth 20000 in
theorem lw_w543 : Cond.constant RX4 124 (65535) ∈ lw_tbl := List.mem_of_getElem? (i := 543) rfl
set_option maxRecDepth 20000 in
theorem lw_w544 : Cond.methodLink RX4 125 yX4_fits ∈ lw_tbl := List.mem_of_getElem? (i := 544) rfl
set_option maxRecDepth 20000 in
theorem lw_w546 : Cond.instanceMethod yX4_fits ∈ lw_tbl := List.mem_of_getElem? (i := 546) rfl
set_option maxRecDepth 20000 in
theorem lw_w547 : Cond.code yX4_fits cX4_fits 4 (some .boolean) ∈ lw_tbl := List.mem_of_getElem? (i := 547) rfl
set_option maxRecDepth 20000 in
theorem lw_w548 : Cond.methodLink RX4 128 yX4_sizeOf ∈ lw_tbl := List.mem_of_getElem? (i := 548) rfl
set_option maxRecDepth 20000 in
theorem lw_w550 : Cond.instanceMethod yX4_sizeOf ∈ lw_tbl := List.mem_of_getElem? (i := 550) rfl
set_option maxRecDepth 20000 in
theorem lw_w551 : Cond.code yX4_sizeOf cX4_sizeOf 5 (some .int) ∈ lw_tbl := List.mem_of_getElem? (i := 551) rfl
set_option maxRecDepth 20000 in
theorem lw_w552 : Cond.methodLink RX4 131 yX4_roomIn ∈ lw_tbl := List.mem_of_getElem? (i := 552) rfl
set_option maxRecDepth 20000 in
theorem lw_w554 : Cond.instanceMethod yX4_roomIn ∈ lw_tbl := List.mem_of_getElem? (i := 554) rfl
set_option maxRecDepth 20000 in
theorem lw_w555 : Cond.code yX4_roomIn cX4_roomIn 5 (some .int) ∈ lw_tbl := List.mem_of_getElem? (i := 555) rfl
set_option maxRecDepth 20000 in
theorem lw_w556 : Cond.methodLink RX4 118 yX4_lowestSlot ∈ lw_tbl := List.mem_of_getElem? (i := 556) rfl
set_option maxRecDepth 20000 in
theorem lw_w558 : Cond.instanceMethod yX4_lowestSlot ∈ lw_tbl := List.mem_of_getElem? (i := 558) rfl
set_option maxRecDepth 20000 in
theorem lw_w559 : Cond.code yX4_lowestSlot cX4_lowestSlot 3 (some .int) ∈ lw_tbl := List.mem_of_getElem? (i := 559) rfl
set_option maxRecDepth 20000 in
theorem lw_w560 : Cond.methodLink RX4 115 yX4_find ∈ lw_tbl := List.mem_of_getElem? (i := 560) rfl
set_option maxRecDepth 20000 in
theorem lw_w562 : Cond.instanceMethod yX4_find ∈ lw_tbl := List.mem_of_getElem? (i := 562) rfl
set_option maxRecDepth 20000 in
theorem lw_w563 : Cond.code yX4_find cX4_find 4 (some .int) ∈ lw_tbl := List.mem_of_getElem? (i := 563) rfl
set_option maxRecDepth 20000 in
theorem lw_w564 : Cond.methodLink RX4 121 yX4_freeIn ∈ lw_tbl := List.mem_of_getElem? (i := 564) rfl
set_option maxRecDepth 20000 in
theorem lw_w566 : Cond.instanceMethod yX4_freeIn ∈ lw_tbl := List.mem_of_getElem? (i := 566) rfl
set_option maxRecDepth 20000 in
theorem lw_w567 : Cond.code yX4_freeIn cX4_freeIn 4 (some .int) ∈ lw_tbl := List.mem_of_getElem? (i := 567) rfl
set_option maxRecDepth 20000 in
theorem lw_w568 : Cond.methodLink RL 47 yX4_get ∈ lw_tbl := List.mem_of_getElem? (i := 568) rfl
set_option maxRecDepth 20000 in
theorem lw_w569 : Cond.instanceMethod yX4_get ∈ lw_tbl := List.mem_of_getElem? (i := 569) rfl
set_option maxRecDepth 20000 in
theorem lw_w570 : Cond.selects RX4 yX4_get yX4_get ∈ lw_tbl := List.mem_of_getElem? (i := 570) rfl
set_option maxRecDepth 20000 in
theorem lw_w571 : Cond.code yX4_get cX4_get 4 (some .boolean) ∈ lw_tbl := List.mem_of_getElem? (i := 571) rfl
set_option maxRecDepth 20000 in
theorem lw_w572 : Cond.methodLink RL 51 yX4_end ∈ lw_tbl := List.mem_of_getElem? (i := 572) rfl
set_option maxRecDepth 20000 in
theorem lw_w573 : Cond.instanceMethod yX4_end ∈ lw_tbl := List.mem_of_getElem? (i := 573) rfl
set_option maxRecDepth 20000 in
theorem lw_w574 : Cond.selects RX4 yX4_end yX4_end ∈ lw_tbl := List.mem_of_getElem? (i := 574) rfl
set_option maxRecDepth 20000 in
theorem lw_w575 : Cond.code yX4_end cX4_end 5 (some .boolean) ∈ lw_tbl := List.mem_of_getElem? (i := 575) rfl
set_option maxRecDepth 20000 in
theorem lw_w576 : Cond.methodLink RL 56 yX4_behind ∈ lw_tbl := List.mem_of_getElem? (i := 576) rfl
set_option maxRecDepth 20000 in
theorem lw_w577 : Cond.instanceMethod yX4_behind ∈ lw_tbl := List.mem_of_getElem? (i := 577) rfl
set_option maxRecDepth 20000 in
theorem lw_w578 : Cond.selects RX4 yX4_behind yX4_behind ∈ lw_tbl := List.mem_of_getElem? (i := 578) rfl
set_option maxRecDepth 20000 in
theorem lw_w579 : Cond.code yX4_behind cX4_behind 4 (some .boolean) ∈ lw_tbl := List.mem_of_getElem? (i := 579) rfl
set_option maxRecDepth 20000 in
theorem lw_w580 : Cond.methodLink RL 60 yX4_take ∈ lw_tbl := List.mem_of_getElem? (i := 580) rfl
set_option maxRecDepth 20000 in
theorem lw_w581 : Cond.instanceMethod yX4_take ∈ lw_tbl := List.mem_of_getElem? (i := 581) rfl
set_option maxRecDepth 20000 in
theorem lw_w582 : Cond.selects RX4 yX4_take yX4_take ∈ lw_tbl := List.mem_of_getElem? (i := 582) rfl
set_option maxRecDepth 20000 in
theorem lw_w583 : Cond.code yX4_take cX4_take 6 (some .boolean) ∈ lw_tbl := List.mem_of_getElem? (i := 583) rfl
set_option maxRecDepth 20000 in
theorem lw_w584 : Cond.methodLink RX4 135 yX4_versionsIn ∈ lw_tbl := List.mem_of_getElem? (i := 584) rfl
set_option maxRecDepth 20000 in
theorem lw_w586 : Cond.instanceMethod yX4_versionsIn ∈ lw_tbl := List.mem_of_getElem? (i := 586) rfl
set_option maxRecDepth 20000 in
theorem lw_w587 : Cond.code yX4_versionsIn cX4_versionsIn 4 (some .int) ∈ lw_tbl := List.mem_of_getElem? (i := 587) rfl
set_option maxRecDepth 20000 in
theorem lw_w588 : Cond.methodLink RL 65 yX4_look ∈ lw_tbl := List.mem_of_getElem? (i := 588) rfl
set_option maxRecDepth 20000 in
theorem lw_w589 : Cond.instanceMethod yX4_look ∈ lw_tbl := List.mem_of_getElem? (i := 589) rfl
set_option maxRecDepth 20000 in
theorem lw_w590 : Cond.selects RX4 yX4_look yX4_look ∈ lw_tbl := List.mem_of_getElem? (i := 590) rfl
set_option maxRecDepth 20000 in
theorem lw_w591 : Cond.code yX4_look cX4_look 4 (some .int) ∈ lw_tbl := List.mem_of_getElem? (i := 591) rfl
set_option maxRecDepth 20000 in
theorem lw_w592 : Cond.methodLink RL 69 yX4_next ∈ lw_tbl := List.mem_of_getElem? (i := 592) rfl
set_option maxRecDepth 20000 in
theorem lw_w593 : Cond.instanceMethod yX4_next ∈ lw_tbl := List.mem_of_getElem? (i := 593) rfl
set_option maxRecDepth 20000 in
theorem lw_w594 : Cond.selects RX4 yX4_next yX4_next ∈ lw_tbl := List.mem_of_getElem? (i := 594) rfl
set_option maxRecDepth 20000 in
theorem lw_w595 : Cond.code yX4_next cX4_next 6 (some .int) ∈ lw_tbl := List.mem_of_getElem? (i := 595) rfl
set_option maxRecDepth 20000 in
theorem lw_w596 : Cond.methodLink RX4 138 yX4_nextIn ∈ lw_tbl := List.mem_of_getElem? (i := 596) rfl
set_option maxRecDepth 20000 in
theorem lw_w598 : Cond.instanceMethod yX4_nextIn ∈ lw_tbl := List.mem_of_getElem? (i := 598) rfl
set_option maxRecDepth 20000 in
theorem lw_w599 : Cond.code yX4_nextIn cX4_nextIn 6 (some .int) ∈ lw_tbl := List.mem_of_getElem? (i := 599) rfl
set_option maxRecDepth 20000 in
theorem lw_w600 : Cond.methodLink RL 87 yX4_page ∈ lw_tbl := List.mem_of_getElem? (i := 600) rfl
set_option maxRecDepth 20000 in
theorem lw_w601 : Cond.instanceMethod yX4_page ∈ lw_tbl := List.mem_of_getElem? (i := 601) rfl
set_option maxRecDepth 20000 in
theorem lw_w602 : Cond.selects RX4 yX4_page yX4_page ∈ lw_tbl := List.mem_of_getElem? (i := 602) rfl
set_option maxRecDepth 20000 in
theorem lw_w603 : Cond.code yX4_page cX4_page 4 (some .int) ∈ lw_tbl := List.mem_of_getElem? (i := 603) rfl
set_option maxRecDepth 20000 in
theorem lw_w604 : Cond.constantLong RL 27 (4294967295) ∈ lw_tbl := List.mem_of_getElem? (i := 604) rfl
set_option maxRecDepth 20000 in
theorem lw_uX0_0 : u_lay RX0 TX0 0 ∈ lw_tbl := List.mem_of_getElem? (i := 114) rfl
set_option maxRecDepth 20000 in
theorem lw_uX0_1 : u_lay RX0 TX0 1 ∈ lw_tbl := List.mem_of_getElem? (i := 116) rfl
set_option maxRecDepth 20000 in
theorem lw_uX0_2 : u_lay RX0 TX0 2 ∈ lw_tbl := List.mem_of_getElem? (i := 118) rfl
set_option maxRecDepth 20000 in
theorem lw_uX0_3 : u_lay RX0 TX0 3 ∈ lw_tbl := List.mem_of_getElem? (i := 120) rfl
set_option maxRecDepth 20000 in
theorem lw_uX0_4 : u_lay RX0 TX0 4 ∈ lw_tbl := List.mem_of_getElem? (i := 122) rfl
set_option maxRecDepth 20000 in
theorem lw_uX0_5 : u_lay RX0 TX0 5 ∈ lw_tbl := List.mem_of_getElem? (i := 124) rfl
theorem inu_X0 : ∀ w ∈ u_ws RX0 TX0 6, w ∈ lw_tbl := by
  intro w hw
  obtain ⟨k, hk, rfl⟩ := List.mem_map.mp hw
  have hk := List.mem_range.mp hk
  match k, hk with
  | 0, _ => exact lw_uX0_0
  | 1, _ => exact lw_uX0_1
  | 2, _ => exact lw_uX0_2
  | 3, _ => exact lw_uX0_3
  | 4, _ => exact lw_uX0_4
  | 5, _ => exact lw_uX0_5
  | k + 6, h => exact absurd h (by omega)
set_option maxRecDepth 20000 in
theorem lw_uX1_0 : u_lay RX1 TX1 0 ∈ lw_tbl := List.mem_of_getElem? (i := 59) rfl
set_option maxRecDepth 20000 in
theorem lw_uX1_1 : u_lay RX1 TX1 1 ∈ lw_tbl := List.mem_of_getElem? (i := 61) rfl
set_option maxRecDepth 20000 in
theorem lw_uX1_2 : u_lay RX1 TX1 2 ∈ lw_tbl := List.mem_of_getElem? (i := 63) rfl
set_option maxRecDepth 20000 in
theorem lw_uX1_3 : u_lay RX1 TX1 3 ∈ lw_tbl := List.mem_of_getElem? (i := 65) rfl
theorem inu_X1 : ∀ w ∈ u_ws RX1 TX1 4, w ∈ lw_tbl := by
  intro w hw
  obtain ⟨k, hk, rfl⟩ := List.mem_map.mp hw
  have hk := List.mem_range.mp hk
  match k, hk with
  | 0, _ => exact lw_uX1_0
  | 1, _ => exact lw_uX1_1
  | 2, _ => exact lw_uX1_2
  | 3, _ => exact lw_uX1_3
  | k + 4, h => exact absurd h (by omega)
set_option maxRecDepth 20000 in
theorem lw_uX2_0 : u_lay RX2 TX2 0 ∈ lw_tbl := List.mem_of_getElem? (i := 141) rfl
set_option maxRecDepth 20000 in
theorem lw_uX2_1 : u_lay RX2 TX2 1 ∈ lw_tbl := List.mem_of_getElem? (i := 143) rfl
set_option maxRecDepth 20000 in
theorem lw_uX2_2 : u_lay RX2 TX2 2 ∈ lw_tbl := List.mem_of_getElem? (i := 145) rfl
theorem inu_X2 : ∀ w ∈ u_ws RX2 TX2 3, w ∈ lw_tbl := by
  intro w hw
  obtain ⟨k, hk, rfl⟩ := List.mem_map.mp hw
  have hk := List.mem_range.mp hk
  match k, hk with
  | 0, _ => exact lw_uX2_0
  | 1, _ => exact lw_uX2_1
  | 2, _ => exact lw_uX2_2
  | k + 3, h => exact absurd h (by omega)
set_option maxRecDepth 20000 in
theorem lw_uX3_0 : u_lay RX3 TX3 0 ∈ lw_tbl := List.mem_of_getElem? (i := 78) rfl
set_option maxRecDepth 20000 in
theorem lw_uX3_1 : u_lay RX3 TX3 1 ∈ lw_tbl := List.mem_of_getElem? (i := 80) rfl
set_option maxRecDepth 20000 in
theorem lw_uX3_2 : u_lay RX3 TX3 2 ∈ lw_tbl := List.mem_of_getElem? (i := 82) rfl
theorem inu_X3 : ∀ w ∈ u_ws RX3 TX3 3, w ∈ lw_tbl := by
  intro w hw
  obtain ⟨k, hk, rfl⟩ := List.mem_map.mp hw
  have hk := List.mem_range.mp hk
  match k, hk with
  | 0, _ => exact lw_uX3_0
  | 1, _ => exact lw_uX3_1
  | 2, _ => exact lw_uX3_2
  | k + 3, h => exact absurd h (by omega)
set_option maxRecDepth 20000 in
theorem lw_uX4_0 : u_lay RX4 TX4 0 ∈ lw_tbl := List.mem_of_getElem? (i := 427) rfl
set_option maxRecDepth 20000 in
theorem lw_uX4_1 : u_lay RX4 TX4 1 ∈ lw_tbl := List.mem_of_getElem? (i := 429) rfl
set_option maxRecDepth 20000 in
theorem lw_uX4_2 : u_lay RX4 TX4 2 ∈ lw_tbl := List.mem_of_getElem? (i := 431) rfl
set_option maxRecDepth 20000 in
theorem lw_uX4_3 : u_lay RX4 TX4 3 ∈ lw_tbl := List.mem_of_getElem? (i := 433) rfl
set_option maxRecDepth 20000 in
theorem lw_uX4_4 : u_lay RX4 TX4 4 ∈ lw_tbl := List.mem_of_getElem? (i := 435) rfl
set_option maxRecDepth 20000 in
theorem lw_uX4_5 : u_lay RX4 TX4 5 ∈ lw_tbl := List.mem_of_getElem? (i := 437) rfl
set_option maxRecDepth 20000 in
theorem lw_uX4_6 : u_lay RX4 TX4 6 ∈ lw_tbl := List.mem_of_getElem? (i := 439) rfl
set_option maxRecDepth 20000 in
theorem lw_uX4_7 : u_lay RX4 TX4 7 ∈ lw_tbl := List.mem_of_getElem? (i := 441) rfl
set_option maxRecDepth 20000 in
theorem lw_uX4_8 : u_lay RX4 TX4 8 ∈ lw_tbl := List.mem_of_getElem? (i := 443) rfl
set_option maxRecDepth 20000 in
theorem lw_uX4_9 : u_lay RX4 TX4 9 ∈ lw_tbl := List.mem_of_getElem? (i := 445) rfl
set_option maxRecDepth 20000 in
theorem lw_uX4_10 : u_lay RX4 TX4 10 ∈ lw_tbl := List.mem_of_getElem? (i := 447) rfl
set_option maxRecDepth 20000 in
theorem lw_uX4_11 : u_lay RX4 TX4 11 ∈ lw_tbl := List.mem_of_getElem? (i := 449) rfl
set_option maxRecDepth 20000 in
theorem lw_uX4_12 : u_lay RX4 TX4 12 ∈ lw_tbl := List.mem_of_getElem? (i := 451) rfl
set_option maxRecDepth 20000 in
theorem lw_uX4_13 : u_lay RX4 TX4 13 ∈ lw_tbl := List.mem_of_getElem? (i := 453) rfl
set_option maxRecDepth 20000 in
theorem lw_uX4_14 : u_lay RX4 TX4 14 ∈ lw_tbl := List.mem_of_getElem? (i := 455) rfl
set_option maxRecDepth 20000 in
theorem lw_uX4_15 : u_lay RX4 TX4 15 ∈ lw_tbl := List.mem_of_getElem? (i := 457) rfl
set_option maxRecDepth 20000 in
theorem lw_uX4_16 : u_lay RX4 TX4 16 ∈ lw_tbl := List.mem_of_getElem? (i := 459) rfl
set_option maxRecDepth 20000 in
theorem lw_uX4_17 : u_lay RX4 TX4 17 ∈ lw_tbl := List.mem_of_getElem? (i := 461) rfl
set_option maxRecDepth 20000 in
theorem lw_uX4_18 : u_lay RX4 TX4 18 ∈ lw_tbl := List.mem_of_getElem? (i := 463) rfl
set_option maxRecDepth 20000 in
theorem lw_uX4_19 : u_lay RX4 TX4 19 ∈ lw_tbl := List.mem_of_getElem? (i := 465) rfl
set_option maxRecDepth 20000 in
theorem lw_uX4_20 : u_lay RX4 TX4 20 ∈ lw_tbl := List.mem_of_getElem? (i := 467) rfl
set_option maxRecDepth 20000 in
theorem lw_uX4_21 : u_lay RX4 TX4 21 ∈ lw_tbl := List.mem_of_getElem? (i := 469) rfl
theorem inu_X4 : ∀ w ∈ u_ws RX4 TX4 22, w ∈ lw_tbl := by
  intro w hw
  obtain ⟨k, hk, rfl⟩ := List.mem_map.mp hw
  have hk := List.mem_range.mp hk
  match k, hk with
  | 0, _ => exact lw_uX4_0
  | 1, _ => exact lw_uX4_1
  | 2, _ => exact lw_uX4_2
  | 3, _ => exact lw_uX4_3
  | 4, _ => exact lw_uX4_4
  | 5, _ => exact lw_uX4_5
  | 6, _ => exact lw_uX4_6
  | 7, _ => exact lw_uX4_7
  | 8, _ => exact lw_uX4_8
  | 9, _ => exact lw_uX4_9
  | 10, _ => exact lw_uX4_10
  | 11, _ => exact lw_uX4_11
  | 12, _ => exact lw_uX4_12
  | 13, _ => exact lw_uX4_13
  | 14, _ => exact lw_uX4_14
  | 15, _ => exact lw_uX4_15
  | 16, _ => exact lw_uX4_16
  | 17, _ => exact lw_uX4_17
  | 18, _ => exact lw_uX4_18
  | 19, _ => exact lw_uX4_19
  | 20, _ => exact lw_uX4_20
  | 21, _ => exact lw_uX4_21
  | k + 22, h => exact absurd h (by omega)
