set_option maxRecDepth 20000 in
theorem lw_w0 : Cond.selects RX3 yX3_openLowestFreePage yX3_openLowestFreePage ∈ lw_tbl := List.mem_of_getElem? (i := 0) rfl
set_option maxRecDepth 20000 in
theorem lw_w1 : Cond.selects RX3 yX3_tableAt yX3_tableAt ∈ lw_tbl := List.mem_of_getElem? (i := 1) rfl
set_option maxRecDepth 20000 in
theorem lw_w2 : Cond.selects RX3 yX3_usedPage yX3_usedPage ∈ lw_tbl := List.mem_of_getElem? (i := 2) rfl
set_option maxRecDepth 20000 in
theorem lw_w3 : Cond.selects RX3 yX3_handSuits yX3_handSuits ∈ lw_tbl := List.mem_of_getElem? (i := 3) rfl
set_option maxRecDepth 20000 in
theorem lw_w4 : Cond.selects RX3 yX3_sizeOfHand yX3_sizeOfHand ∈ lw_tbl := List.mem_of_getElem? (i := 4) rfl
set_option maxRecDepth 20000 in
theorem lw_w5 : Cond.selects RX3 yX3_cellBytes yX3_cellBytes ∈ lw_tbl := List.mem_of_getElem? (i := 5) rfl
set_option maxRecDepth 20000 in
theorem lw_w6 : Cond.selects RX3 yX3_makeRoom yX3_makeRoom ∈ lw_tbl := List.mem_of_getElem? (i := 6) rfl
set_option maxRecDepth 20000 in
theorem lw_w7 : Cond.selects RX3 yX3_addAt yX3_addAt ∈ lw_tbl := List.mem_of_getElem? (i := 7) rfl
set_option maxRecDepth 20000 in
theorem lw_w8 : Cond.selects RX0 yX0_setSlot yX0_setSlot ∈ lw_tbl := List.mem_of_getElem? (i := 8) rfl
set_option maxRecDepth 20000 in
theorem lw_w9 : Cond.selects RX3 yX3_pageWithVersion yX3_pageWithVersion ∈ lw_tbl := List.mem_of_getElem? (i := 9) rfl
set_option maxRecDepth 20000 in
theorem lw_w10 : Cond.selects RX3 yX3_packHand yX3_packHand ∈ lw_tbl := List.mem_of_getElem? (i := 10) rfl
set_option maxRecDepth 20000 in
theorem lw_w11 : Cond.selects RX3 yX3_packCell yX3_packCell ∈ lw_tbl := List.mem_of_getElem? (i := 11) rfl
set_option maxRecDepth 20000 in
theorem lw_w12 : Cond.selects RX3 yX3_packText yX3_packText ∈ lw_tbl := List.mem_of_getElem? (i := 12) rfl
set_option maxRecDepth 20000 in
theorem lw_w13 : Cond.selects RX3 yX3_unpackToHand yX3_unpackToHand ∈ lw_tbl := List.mem_of_getElem? (i := 13) rfl
set_option maxRecDepth 20000 in
theorem lw_w14 : Cond.selects RX3 yX3_unpackCell yX3_unpackCell ∈ lw_tbl := List.mem_of_getElem? (i := 14) rfl
set_option maxRecDepth 20000 in
theorem lw_w15 : Cond.selects RX3 yX3_unpackText yX3_unpackText ∈ lw_tbl := List.mem_of_getElem? (i := 15) rfl
set_option maxRecDepth 20000 in
theorem lw_w16 : Cond.selects RX0 yX0_closeGap yX0_closeGap ∈ lw_tbl := List.mem_of_getElem? (i := 16) rfl
set_option maxRecDepth 20000 in
theorem lw_w17 : Cond.selects RX3 yX3_leaveChain yX3_leaveChain ∈ lw_tbl := List.mem_of_getElem? (i := 17) rfl
set_option maxRecDepth 20000 in
theorem lw_w18 : Cond.selects RX3 yX3_firstVersionFrom yX3_firstVersionFrom ∈ lw_tbl := List.mem_of_getElem? (i := 18) rfl
set_option maxRecDepth 20000 in
theorem lw_w19 : Cond.selects RX4 yX4_step yX4_step ∈ lw_tbl := List.mem_of_getElem? (i := 19) rfl
set_option maxRecDepth 20000 in
theorem lw_w20 : Cond.selects RX4 yX4_isText yX4_isText ∈ lw_tbl := List.mem_of_getElem? (i := 20) rfl
set_option maxRecDepth 20000 in
theorem lw_w21 : Cond.selects RX4 yX4_lowestFree yX4_lowestFree ∈ lw_tbl := List.mem_of_getElem? (i := 21) rfl
set_option maxRecDepth 20000 in
theorem lw_w22 : Cond.selects RX4 yX4_open yX4_open ∈ lw_tbl := List.mem_of_getElem? (i := 22) rfl
set_option maxRecDepth 20000 in
theorem lw_w23 : Cond.selects RX4 yX4_isThere yX4_isThere ∈ lw_tbl := List.mem_of_getElem? (i := 23) rfl
set_option maxRecDepth 20000 in
theorem lw_w24 : Cond.selects RX4 yX4_drop0 yX4_drop0 ∈ lw_tbl := List.mem_of_getElem? (i := 24) rfl
set_option maxRecDepth 20000 in
theorem lw_w25 : Cond.selects RX4 yX4_fits yX4_fits ∈ lw_tbl := List.mem_of_getElem? (i := 25) rfl
set_option maxRecDepth 20000 in
theorem lw_w26 : Cond.selects RX4 yX4_sizeOf yX4_sizeOf ∈ lw_tbl := List.mem_of_getElem? (i := 26) rfl
set_option maxRecDepth 20000 in
theorem lw_w27 : Cond.selects RX4 yX4_roomIn yX4_roomIn ∈ lw_tbl := List.mem_of_getElem? (i := 27) rfl
set_option maxRecDepth 20000 in
theorem lw_w28 : Cond.selects RX4 yX4_lowestSlot yX4_lowestSlot ∈ lw_tbl := List.mem_of_getElem? (i := 28) rfl
set_option maxRecDepth 20000 in
theorem lw_w29 : Cond.selects RX4 yX4_find yX4_find ∈ lw_tbl := List.mem_of_getElem? (i := 29) rfl
set_option maxRecDepth 20000 in
theorem lw_w30 : Cond.selects RX4 yX4_freeIn yX4_freeIn ∈ lw_tbl := List.mem_of_getElem? (i := 30) rfl
set_option maxRecDepth 20000 in
theorem lw_w31 : Cond.selects RX4 yX4_versionsIn yX4_versionsIn ∈ lw_tbl := List.mem_of_getElem? (i := 31) rfl
set_option maxRecDepth 20000 in
theorem lw_w32 : Cond.selects RX4 yX4_nextIn yX4_nextIn ∈ lw_tbl := List.mem_of_getElem? (i := 32) rfl
set_option maxRecDepth 20000 in
theorem lw_w34 : Cond.initialized RX3 ∈ lw_tbl := List.mem_of_getElem? (i := 34) rfl
set_option maxRecDepth 20000 in
theorem lw_w35 : Cond.initialized RX1 ∈ lw_tbl := List.mem_of_getElem? (i := 35) rfl
set_option maxRecDepth 20000 in
theorem lw_w36 : Cond.initialized RX4 ∈ lw_tbl := List.mem_of_getElem? (i := 36) rfl
set_option maxRecDepth 20000 in
theorem lw_w37 : Cond.initialized RX0 ∈ lw_tbl := List.mem_of_getElem? (i := 37) rfl
set_option maxRecDepth 20000 in
theorem lw_w38 : Cond.initialized RX2 ∈ lw_tbl := List.mem_of_getElem? (i := 38) rfl
set_option maxRecDepth 20000 in
theorem lw_w39 : Cond.initialized RJ7 ∈ lw_tbl := List.mem_of_getElem? (i := 39) rfl
set_option maxRecDepth 20000 in
theorem lw_w40 : Cond.initialized "java/lang/System" ∈ lw_tbl := List.mem_of_getElem? (i := 40) rfl
set_option maxRecDepth 20000 in
theorem lw_w41 : Cond.classLink RL 7 RX3 ∈ lw_tbl := List.mem_of_getElem? (i := 41) rfl
set_option maxRecDepth 20000 in
theorem lw_w42 : Cond.instantiable RX3 3 ∈ lw_tbl := List.mem_of_getElem? (i := 42) rfl
set_option maxRecDepth 20000 in
theorem lw_w43 : Cond.methodLink RL 9 yX3_init ∈ lw_tbl := List.mem_of_getElem? (i := 43) rfl
set_option maxRecDepth 20000 in
theorem lw_w44 : Cond.instanceMethod yX3_init ∈ lw_tbl := List.mem_of_getElem? (i := 44) rfl
set_option maxRecDepth 20000 in
theorem lw_w45 : Cond.code yX3_init cX3_init 1 none ∈ lw_tbl := List.mem_of_getElem? (i := 45) rfl
set_option maxRecDepth 20000 in
theorem lw_w46 : Cond.methodLink RX3 3 objectInit ∈ lw_tbl := List.mem_of_getElem? (i := 46) rfl
set_option maxRecDepth 20000 in
theorem lw_w47 : Cond.instanceMethod objectInit ∈ lw_tbl := List.mem_of_getElem? (i := 47) rfl
set_option maxRecDepth 20000 in
theorem lw_w48 : Cond.code objectInit ⟨#[0xb1]⟩ 1 none ∈ lw_tbl := List.mem_of_getElem? (i := 48) rfl
set_option maxRecDepth 20000 in
theorem lw_w49 : Cond.classLink RX3 9 RX1 ∈ lw_tbl := List.mem_of_getElem? (i := 49) rfl
set_option maxRecDepth 20000 in
theorem lw_w50 : Cond.instantiable RX1 4 ∈ lw_tbl := List.mem_of_getElem? (i := 50) rfl
set_option maxRecDepth 20000 in
theorem lw_w51 : Cond.methodLinkNest RX3 11 yX1_init RX3 ∈ lw_tbl := List.mem_of_getElem? (i := 51) rfl
set_option maxRecDepth 20000 in
theorem lw_w52 : Cond.instanceMethod yX1_init ∈ lw_tbl := List.mem_of_getElem? (i := 52) rfl
set_option maxRecDepth 20000 in
theorem lw_w53 : Cond.code yX1_init cX1_init 1 none ∈ lw_tbl := List.mem_of_getElem? (i := 53) rfl
set_option maxRecDepth 20000 in
theorem lw_w54 : Cond.methodLink RX1 3 objectInit ∈ lw_tbl := List.mem_of_getElem? (i := 54) rfl
set_option maxRecDepth 20000 in
theorem lw_w55 : Cond.fieldLink RX1 9 "VersionDesk$Row" "kinds" "[I" ∈ lw_tbl := List.mem_of_getElem? (i := 55) rfl
set_option maxRecDepth 20000 in
theorem lw_w56 : Cond.fieldLink RX1 15 "VersionDesk$Row" "numbers" "[J" ∈ lw_tbl := List.mem_of_getElem? (i := 56) rfl
set_option maxRecDepth 20000 in
theorem lw_w57 : Cond.fieldLink RX1 19 "VersionDesk$Row" "lengths" "[I" ∈ lw_tbl := List.mem_of_getElem? (i := 57) rfl
set_option maxRecDepth 20000 in
theorem lw_w58 : Cond.fieldLink RX1 22 "VersionDesk$Row" "letters" "[B" ∈ lw_tbl := List.mem_of_getElem? (i := 58) rfl
set_option maxRecDepth 20000 in
theorem lw_w68 : Cond.arrayClass .int ∈ lw_tbl := List.mem_of_getElem? (i := 68) rfl
set_option maxRecDepth 20000 in
theorem lw_w69 : Cond.arrayClass .long ∈ lw_tbl := List.mem_of_getElem? (i := 69) rfl
set_option maxRecDepth 20000 in
theorem lw_w70 : Cond.arrayClass .byte ∈ lw_tbl := List.mem_of_getElem? (i := 70) rfl
set_option maxRecDepth 20000 in
theorem lw_w71 : Cond.classLink RX3 16 RX2 ∈ lw_tbl := List.mem_of_getElem? (i := 71) rfl
set_option maxRecDepth 20000 in
theorem lw_w72 : Cond.arrayOver (.object "VersionDesk$Table") ∈ lw_tbl := List.mem_of_getElem? (i := 72) rfl
set_option maxRecDepth 20000 in
theorem lw_w73 : Cond.classLink RX3 22 RX0 ∈ lw_tbl := List.mem_of_getElem? (i := 73) rfl
set_option maxRecDepth 20000 in
theorem lw_w74 : Cond.arrayOver (.object "VersionDesk$Page") ∈ lw_tbl := List.mem_of_getElem? (i := 74) rfl
set_option maxRecDepth 20000 in
theorem lw_w75 : Cond.fieldLink RX3 12 "VersionDesk" "hand" "LVersionDesk$Row;" ∈ lw_tbl := List.mem_of_getElem? (i := 75) rfl
set_option maxRecDepth 20000 in
theorem lw_w76 : Cond.fieldLink RX3 18 "VersionDesk" "tables" "[LVersionDesk$Table;" ∈ lw_tbl := List.mem_of_getElem? (i := 76) rfl
set_option maxRecDepth 20000 in
theorem lw_w77 : Cond.fieldLink RX3 24 "VersionDesk" "pages" "[LVersionDesk$Page;" ∈ lw_tbl := List.mem_of_getElem? (i := 77) rfl
set_option maxRecDepth 20000 in
theorem lw_w85 : Cond.methodLink RL 13 yX3_create ∈ lw_tbl := List.mem_of_getElem? (i := 85) rfl
set_option maxRecDepth 20000 in
theorem lw_w86 : Cond.instanceMethod yX3_create ∈ lw_tbl := List.mem_of_getElem? (i := 86) rfl
set_option maxRecDepth 20000 in
theorem lw_w87 : Cond.selects RX3 yX3_create yX3_create ∈ lw_tbl := List.mem_of_getElem? (i := 87) rfl
set_option maxRecDepth 20000 in
theorem lw_w88 : Cond.code yX3_create cX3_create 5 (some .boolean) ∈ lw_tbl := List.mem_of_getElem? (i := 88) rfl
set_option maxRecDepth 20000 in
theorem lw_w89 : Cond.methodLink RX3 28 yX3_areTypes ∈ lw_tbl := List.mem_of_getElem? (i := 89) rfl
set_option maxRecDepth 20000 in
theorem lw_w90 : Cond.static yX3_areTypes ∈ lw_tbl := List.mem_of_getElem? (i := 90) rfl
set_option maxRecDepth 20000 in
theorem lw_w91 : Cond.code yX3_areTypes cX3_areTypes 4 (some .boolean) ∈ lw_tbl := List.mem_of_getElem? (i := 91) rfl
set_option maxRecDepth 20000 in
theorem lw_w92 : Cond.methodLink RX3 176 yX3_digit ∈ lw_tbl := List.mem_of_getElem? (i := 92) rfl
set_option maxRecDepth 20000 in
theorem lw_w93 : Cond.static yX3_digit ∈ lw_tbl := List.mem_of_getElem? (i := 93) rfl
set_option maxRecDepth 20000 in
theorem lw_w94 : Cond.code yX3_digit cX3_digit 4 (some .int) ∈ lw_tbl := List.mem_of_getElem? (i := 94) rfl
set_option maxRecDepth 20000 in
theorem lw_w95 : Cond.methodLink RX3 32 yX3_openLowestFreePage ∈ lw_tbl := List.mem_of_getElem? (i := 95) rfl
set_option maxRecDepth 20000 in
theorem lw_w97 : Cond.instanceMethod yX3_openLowestFreePage ∈ lw_tbl := List.mem_of_getElem? (i := 97) rfl
set_option maxRecDepth 20000 in
theorem lw_w98 : Cond.code yX3_openLowestFreePage cX3_openLowestFreePage 4 (some .int) ∈ lw_tbl := List.mem_of_getElem? (i := 98) rfl
set_option maxRecDepth 20000 in
theorem lw_w99 : Cond.instantiable RX0 6 ∈ lw_tbl := List.mem_of_getElem? (i := 99) rfl
set_option maxRecDepth 20000 in
theorem lw_w100 : Cond.methodLinkNest RX3 182 yX0_init RX3 ∈ lw_tbl := List.mem_of_getElem? (i := 100) rfl
set_option maxRecDepth 20000 in
theorem lw_w101 : Cond.instanceMethod yX0_init ∈ lw_tbl := List.mem_of_getElem? (i := 101) rfl
set_option maxRecDepth 20000 in
theorem lw_w102 : Cond.code yX0_init cX0_init 1 none ∈ lw_tbl := List.mem_of_getElem? (i := 102) rfl
set_option maxRecDepth 20000 in
theorem lw_w103 : Cond.methodLink RX0 3 objectInit ∈ lw_tbl := List.mem_of_getElem? (i := 103) rfl
set_option maxRecDepth 20000 in
theorem lw_w104 : Cond.fieldLink RX0 9 "VersionDesk$Page" "table" "I" ∈ lw_tbl := List.mem_of_getElem? (i := 104) rfl
set_option maxRecDepth 20000 in
theorem lw_w105 : Cond.fieldLink RX3 47 "VersionDesk$Page" "table" "I" ∈ lw_tbl := List.mem_of_getElem? (i := 105) rfl
set_option maxRecDepth 20000 in
theorem lw_w106 : Cond.fieldLink RX0 15 "VersionDesk$Page" "following" "I" ∈ lw_tbl := List.mem_of_getElem? (i := 106) rfl
set_option maxRecDepth 20000 in
theorem lw_w107 : Cond.fieldLink RX3 172 "VersionDesk$Page" "following" "I" ∈ lw_tbl := List.mem_of_getElem? (i := 107) rfl
set_option maxRecDepth 20000 in
theorem lw_w108 : Cond.fieldLink RX0 18 "VersionDesk$Page" "slots" "I" ∈ lw_tbl := List.mem_of_getElem? (i := 108) rfl
set_option maxRecDepth 20000 in
theorem lw_w109 : Cond.fieldLink RX3 165 "VersionDesk$Page" "slots" "I" ∈ lw_tbl := List.mem_of_getElem? (i := 109) rfl
set_option maxRecDepth 20000 in
theorem lw_w110 : Cond.fieldLink RX0 21 "VersionDesk$Page" "versions" "I" ∈ lw_tbl := List.mem_of_getElem? (i := 110) rfl
set_option maxRecDepth 20000 in
theorem lw_w111 : Cond.fieldLink RX3 121 "VersionDesk$Page" "versions" "I" ∈ lw_tbl := List.mem_of_getElem? (i := 111) rfl
set_option maxRecDepth 20000 in
theorem lw_w112 : Cond.fieldLink RX0 24 "VersionDesk$Page" "packedFrom" "I" ∈ lw_tbl := List.mem_of_getElem? (i := 112) rfl
set_option maxRecDepth 20000 in
theorem lw_w113 : Cond.fieldLink RX0 27 "VersionDesk$Page" "bytes" "[B" ∈ lw_tbl := List.mem_of_getElem? (i := 113) rfl
set_option maxRecDepth 20000 in
theorem lw_w127 : Cond.methodLink RX3 51 yX0_reset ∈ lw_tbl := List.mem_of_getElem? (i := 127) rfl
set_option maxRecDepth 20000 in
theorem lw_w128 : Cond.instanceMethod yX0_reset ∈ lw_tbl := List.mem_of_getElem? (i := 128) rfl
set_option maxRecDepth 20000 in
theorem lw_w129 : Cond.selects RX0 yX0_reset yX0_reset ∈ lw_tbl := List.mem_of_getElem? (i := 129) rfl
set_option maxRecDepth 20000 in
theorem lw_w130 : Cond.code yX0_reset cX0_reset 2 none ∈ lw_tbl := List.mem_of_getElem? (i := 130) rfl
set_option maxRecDepth 20000 in
theorem lw_w131 : Cond.instantiable RX2 3 ∈ lw_tbl := List.mem_of_getElem? (i := 131) rfl
set_option maxRecDepth 20000 in
theorem lw_w132 : Cond.methodLink RX3 36 yX2_init ∈ lw_tbl := List.mem_of_getElem? (i := 132) rfl
set_option maxRecDepth 20000 in
theorem lw_w133 : Cond.instanceMethod yX2_init ∈ lw_tbl := List.mem_of_getElem? (i := 133) rfl
set_option maxRecDepth 20000 in
theorem lw_w134 : Cond.code yX2_init cX2_init 4 none ∈ lw_tbl := List.mem_of_getElem? (i := 134) rfl
set_option maxRecDepth 20000 in
theorem lw_w135 : Cond.methodLink RX2 1 objectInit ∈ lw_tbl := List.mem_of_getElem? (i := 135) rfl
set_option maxRecDepth 20000 in
theorem lw_w136 : Cond.fieldLink RX2 7 "VersionDesk$Table" "first" "I" ∈ lw_tbl := List.mem_of_getElem? (i := 136) rfl
set_option maxRecDepth 20000 in
theorem lw_w137 : Cond.fieldLink RX3 142 "VersionDesk$Table" "first" "I" ∈ lw_tbl := List.mem_of_getElem? (i := 137) rfl
set_option maxRecDepth 20000 in
theorem lw_w138 : Cond.fieldLink RX2 13 "VersionDesk$Table" "columns" "I" ∈ lw_tbl := List.mem_of_getElem? (i := 138) rfl
set_option maxRecDepth 20000 in
theorem lw_w139 : Cond.fieldLink RX3 196 "VersionDesk$Table" "columns" "I" ∈ lw_tbl := List.mem_of_getElem? (i := 139) rfl
set_option maxRecDepth 20000 in
theorem lw_w140 : Cond.fieldLink RX2 16 "VersionDesk$Table" "types" "I" ∈ lw_tbl := List.mem_of_getElem? (i := 140) rfl
set_option maxRecDepth 20000 in
theorem lw_w148 : Cond.methodLink RL 18 yX3_drop ∈ lw_tbl := List.mem_of_getElem? (i := 148) rfl
set_option maxRecDepth 20000 in
theorem lw_w149 : Cond.instanceMethod yX3_drop ∈ lw_tbl := List.mem_of_getElem? (i := 149) rfl
set_option maxRecDepth 20000 in
theorem lw_w150 : Cond.selects RX3 yX3_drop yX3_drop ∈ lw_tbl := List.mem_of_getElem? (i := 150) rfl
set_option maxRecDepth 20000 in
theorem lw_w151 : Cond.code yX3_drop cX3_drop 4 (some .boolean) ∈ lw_tbl := List.mem_of_getElem? (i := 151) rfl
set_option maxRecDepth 20000 in
theorem lw_w152 : Cond.methodLink RX3 39 yX3_tableAt ∈ lw_tbl := List.mem_of_getElem? (i := 152) rfl
set_option maxRecDepth 20000 in
theorem lw_w154 : Cond.instanceMethod yX3_tableAt ∈ lw_tbl := List.mem_of_getElem? (i := 154) rfl
set_option maxRecDepth 20000 in
theorem lw_w155 : Cond.code yX3_tableAt cX3_tableAt 2 (some (.object "VersionDesk$Table")) ∈ lw_tbl := List.mem_of_getElem? (i := 155) rfl
set_option maxRecDepth 20000 in
theorem lw_w156 : Cond.methodLink RX3 43 yX3_usedPage ∈ lw_tbl := List.mem_of_getElem? (i := 156) rfl
set_option maxRecDepth 20000 in
theorem lw_w158 : Cond.instanceMethod yX3_usedPage ∈ lw_tbl := List.mem_of_getElem? (i := 158) rfl
set_option maxRecDepth 20000 in
theorem lw_w159 : Cond.code yX3_usedPage cX3_usedPage 3 (some (.object "VersionDesk$Page")) ∈ lw_tbl := List.mem_of_getElem? (i := 159) rfl
set_option maxRecDepth 20000 in
theorem lw_w160 : Cond.methodLink RL 23 yX3_clear ∈ lw_tbl := List.mem_of_getElem? (i := 160) rfl
set_option maxRecDepth 20000 in
theorem lw_w161 : Cond.instanceMethod yX3_clear ∈ lw_tbl := List.mem_of_getElem? (i := 161) rfl
set_option maxRecDepth 20000 in
theorem lw_w162 : Cond.selects RX3 yX3_clear yX3_clear ∈ lw_tbl := List.mem_of_getElem? (i := 162) rfl
set_option maxRecDepth 20000 in
theorem lw_w163 : Cond.code yX3_clear cX3_clear 1 none ∈ lw_tbl := List.mem_of_getElem? (i := 163) rfl
set_option maxRecDepth 20000 in
theorem lw_w164 : Cond.methodLink RX3 55 yX1_makeAllNull ∈ lw_tbl := List.mem_of_getElem? (i := 164) rfl
set_option maxRecDepth 20000 in
theorem lw_w165 : Cond.instanceMethod yX1_makeAllNull ∈ lw_tbl := List.mem_of_getElem? (i := 165) rfl
set_option maxRecDepth 20000 in
theorem lw_w166 : Cond.selects RX1 yX1_makeAllNull yX1_makeAllNull ∈ lw_tbl := List.mem_of_getElem? (i := 166) rfl
set_option maxRecDepth 20000 in
theorem lw_w167 : Cond.code yX1_makeAllNull cX1_makeAllNull 1 none ∈ lw_tbl := List.mem_of_getElem? (i := 167) rfl
set_option maxRecDepth 20000 in
theorem lw_w168 : Cond.methodLink RX1 26 yJ7_fill_53178 ∈ lw_tbl := List.mem_of_getElem? (i := 168) rfl
set_option maxRecDepth 20000 in
theorem lw_w169 : Cond.static yJ7_fill_53178 ∈ lw_tbl := List.mem_of_getElem? (i := 169) rfl
set_option maxRecDepth 20000 in
theorem lw_w170 : Cond.code yJ7_fill_53178 cJ7_fill_53178 4 none ∈ lw_tbl := List.mem_of_getElem? (i := 170) rfl
set_option maxRecDepth 20000 in
theorem lw_w171 : Cond.methodLink RL 29 yX3_cell ∈ lw_tbl := List.mem_of_getElem? (i := 171) rfl
set_option maxRecDepth 20000 in
theorem lw_w172 : Cond.instanceMethod yX3_cell ∈ lw_tbl := List.mem_of_getElem? (i := 172) rfl
set_option maxRecDepth 20000 in
theorem lw_w173 : Cond.selects RX3 yX3_cell yX3_cell ∈ lw_tbl := List.mem_of_getElem? (i := 173) rfl
set_option maxRecDepth 20000 in
theorem lw_w174 : Cond.code yX3_cell cX3_cell 4 (some .boolean) ∈ lw_tbl := List.mem_of_getElem? (i := 174) rfl
set_option maxRecDepth 20000 in
theorem lw_w175 : Cond.methodLink RX3 58 yX3_isColumn ∈ lw_tbl := List.mem_of_getElem? (i := 175) rfl
set_option maxRecDepth 20000 in
theorem lw_w176 : Cond.static yX3_isColumn ∈ lw_tbl := List.mem_of_getElem? (i := 176) rfl
set_option maxRecDepth 20000 in
theorem lw_w177 : Cond.code yX3_isColumn cX3_isColumn 1 (some .boolean) ∈ lw_tbl := List.mem_of_getElem? (i := 177) rfl
set_option maxRecDepth 20000 in
theorem lw_w178 : Cond.methodLink RX3 62 yX1_setNumber ∈ lw_tbl := List.mem_of_getElem? (i := 178) rfl
set_option maxRecDepth 20000 in
theorem lw_w179 : Cond.instanceMethod yX1_setNumber ∈ lw_tbl := List.mem_of_getElem? (i := 179) rfl
set_option maxRecDepth 20000 in
theorem lw_w180 : Cond.selects RX1 yX1_setNumber yX1_setNumber ∈ lw_tbl := List.mem_of_getElem? (i := 180) rfl
set_option maxRecDepth 20000 in
theorem lw_w181 : Cond.code yX1_setNumber cX1_setNumber 4 none ∈ lw_tbl := List.mem_of_getElem? (i := 181) rfl
set_option maxRecDepth 20000 in
theorem lw_w182 : Cond.methodLinkNest RX1 32 yX3_isColumn RX3 ∈ lw_tbl := List.mem_of_getElem? (i := 182) rfl
set_option maxRecDepth 20000 in
theorem lw_w183 : Cond.methodLink RL 34 yX3_text ∈ lw_tbl := List.mem_of_getElem? (i := 183) rfl
set_option maxRecDepth 20000 in
theorem lw_w184 : Cond.instanceMethod yX3_text ∈ lw_tbl := List.mem_of_getElem? (i := 184) rfl
set_option maxRecDepth 20000 in
theorem lw_w185 : Cond.selects RX3 yX3_text yX3_text ∈ lw_tbl := List.mem_of_getElem? (i := 185) rfl
set_option maxRecDepth 20000 in
theorem lw_w186 : Cond.code yX3_text cX3_text 6 (some .boolean) ∈ lw_tbl := List.mem_of_getElem? (i := 186) rfl
set_option maxRecDepth 20000 in
theorem lw_w187 : Cond.methodLink RX3 66 yX1_lengthAt ∈ lw_tbl := List.mem_of_getElem? (i := 187) rfl
set_option maxRecDepth 20000 in
theorem lw_w188 : Cond.instanceMethod yX1_lengthAt ∈ lw_tbl := List.mem_of_getElem? (i := 188) rfl
set_option maxRecDepth 20000 in
theorem lw_w189 : Cond.selects RX1 yX1_lengthAt yX1_lengthAt ∈ lw_tbl := List.mem_of_getElem? (i := 189) rfl
set_option maxRecDepth 20000 in
theorem lw_w190 : Cond.code yX1_lengthAt cX1_lengthAt 2 (some .int) ∈ lw_tbl := List.mem_of_getElem? (i := 190) rfl
set_option maxRecDepth 20000 in
theorem lw_w191 : Cond.methodLink RX1 36 yX1_kindAt ∈ lw_tbl := List.mem_of_getElem? (i := 191) rfl
set_option maxRecDepth 20000 in
theorem lw_w192 : Cond.instanceMethod yX1_kindAt ∈ lw_tbl := List.mem_of_getElem? (i := 192) rfl
set_option maxRecDepth 20000 in
theorem lw_w193 : Cond.selects RX1 yX1_kindAt yX1_kindAt ∈ lw_tbl := List.mem_of_getElem? (i := 193) rfl
set_option maxRecDepth 20000 in
theorem lw_w194 : Cond.code yX1_kindAt cX1_kindAt 2 (some .int) ∈ lw_tbl := List.mem_of_getElem? (i := 194) rfl
set_option maxRecDepth 20000 in
theorem lw_w195 : Cond.methodLink RX3 69 yX1_makeText ∈ lw_tbl := List.mem_of_getElem? (i := 195) rfl
set_option maxRecDepth 20000 in
theorem lw_w196 : Cond.instanceMethod yX1_makeText ∈ lw_tbl := List.mem_of_getElem? (i := 196) rfl
set_option maxRecDepth 20000 in
theorem lw_w197 : Cond.selects RX1 yX1_makeText yX1_makeText ∈ lw_tbl := List.mem_of_getElem? (i := 197) rfl
set_option maxRecDepth 20000 in
theorem lw_w198 : Cond.code yX1_makeText cX1_makeText 2 none ∈ lw_tbl := List.mem_of_getElem? (i := 198) rfl
set_option maxRecDepth 20000 in
theorem lw_w199 : Cond.methodLink RX3 72 yX1_addLetter ∈ lw_tbl := List.mem_of_getElem? (i := 199) rfl
set_option maxRecDepth 20000 in
theorem lw_w200 : Cond.instanceMethod yX1_addLetter ∈ lw_tbl := List.mem_of_getElem? (i := 200) rfl
set_option maxRecDepth 20000 in
theorem lw_w201 : Cond.selects RX1 yX1_addLetter yX1_addLetter ∈ lw_tbl := List.mem_of_getElem? (i := 201) rfl
set_option maxRecDepth 20000 in
theorem lw_w202 : Cond.code yX1_addLetter cX1_addLetter 3 none ∈ lw_tbl := List.mem_of_getElem? (i := 202) rfl
set_option maxRecDepth 20000 in
theorem lw_w203 : Cond.methodLink RL 39 yX3_put ∈ lw_tbl := List.mem_of_getElem? (i := 203) rfl
set_option maxRecDepth 20000 in
theorem lw_w204 : Cond.instanceMethod yX3_put ∈ lw_tbl := List.mem_of_getElem? (i := 204) rfl
set_option maxRecDepth 20000 in
theorem lw_w205 : Cond.selects RX3 yX3_put yX3_put ∈ lw_tbl := List.mem_of_getElem? (i := 205) rfl
set_option maxRecDepth 20000 in
theorem lw_w206 : Cond.code yX3_put cX3_put 9 (some .int) ∈ lw_tbl := List.mem_of_getElem? (i := 206) rfl
set_option maxRecDepth 20000 in
theorem lw_w207 : Cond.methodLink RX3 76 yX3_isShort ∈ lw_tbl := List.mem_of_getElem? (i := 207) rfl
set_option maxRecDepth 20000 in
theorem lw_w208 : Cond.static yX3_isShort ∈ lw_tbl := List.mem_of_getElem? (i := 208) rfl
set_option maxRecDepth 20000 in
theorem lw_w209 : Cond.code yX3_isShort cX3_isShort 1 (some .boolean) ∈ lw_tbl := List.mem_of_getElem? (i := 209) rfl
set_option maxRecDepth 20000 in
theorem lw_w210 : Cond.constant RX3 175 (65535) ∈ lw_tbl := List.mem_of_getElem? (i := 210) rfl
set_option maxRecDepth 20000 in
theorem lw_w211 : Cond.methodLink RX3 79 yX3_handSuits ∈ lw_tbl := List.mem_of_getElem? (i := 211) rfl
set_option maxRecDepth 20000 in
theorem lw_w213 : Cond.instanceMethod yX3_handSuits ∈ lw_tbl := List.mem_of_getElem? (i := 213) rfl
set_option maxRecDepth 20000 in
theorem lw_w214 : Cond.code yX3_handSuits cX3_handSuits 5 (some .boolean) ∈ lw_tbl := List.mem_of_getElem? (i := 214) rfl
set_option maxRecDepth 20000 in
theorem lw_w215 : Cond.methodLink RX3 149 yX1_kindAt ∈ lw_tbl := List.mem_of_getElem? (i := 215) rfl
set_option maxRecDepth 20000 in
theorem lw_w216 : Cond.methodLink RX3 199 yX2_typeAt ∈ lw_tbl := List.mem_of_getElem? (i := 216) rfl
set_option maxRecDepth 20000 in
theorem lw_w217 : Cond.instanceMethod yX2_typeAt ∈ lw_tbl := List.mem_of_getElem? (i := 217) rfl
set_option maxRecDepth 20000 in
theorem lw_w218 : Cond.selects RX2 yX2_typeAt yX2_typeAt ∈ lw_tbl := List.mem_of_getElem? (i := 218) rfl
set_option maxRecDepth 20000 in
theorem lw_w219 : Cond.code yX2_typeAt cX2_typeAt 2 (some .int) ∈ lw_tbl := List.mem_of_getElem? (i := 219) rfl
set_option maxRecDepth 20000 in
theorem lw_w220 : Cond.methodLinkNest RX2 19 yX3_digit RX3 ∈ lw_tbl := List.mem_of_getElem? (i := 220) rfl
set_option maxRecDepth 20000 in
theorem lw_w221 : Cond.methodLink RX3 83 yX3_sizeOfHand ∈ lw_tbl := List.mem_of_getElem? (i := 221) rfl
set_option maxRecDepth 20000 in
theorem lw_w223 : Cond.instanceMethod yX3_sizeOfHand ∈ lw_tbl := List.mem_of_getElem? (i := 223) rfl
set_option maxRecDepth 20000 in
theorem lw_w224 : Cond.code yX3_sizeOfHand cX3_sizeOfHand 4 (some .int) ∈ lw_tbl := List.mem_of_getElem? (i := 224) rfl
set_option maxRecDepth 20000 in
theorem lw_w225 : Cond.methodLink RX3 202 yX3_cellBytes ∈ lw_tbl := List.mem_of_getElem? (i := 225) rfl
set_option maxRecDepth 20000 in
theorem lw_w227 : Cond.instanceMethod yX3_cellBytes ∈ lw_tbl := List.mem_of_getElem? (i := 227) rfl
set_option maxRecDepth 20000 in
theorem lw_w228 : Cond.code yX3_cellBytes cX3_cellBytes 3 (some .int) ∈ lw_tbl := List.mem_of_getElem? (i := 228) rfl
set_option maxRecDepth 20000 in
theorem lw_w229 : Cond.methodLink RX3 87 yX3_makeRoom ∈ lw_tbl := List.mem_of_getElem? (i := 229) rfl
set_option maxRecDepth 20000 in
theorem lw_w231 : Cond.instanceMethod yX3_makeRoom ∈ lw_tbl := List.mem_of_getElem? (i := 231) rfl
set_option maxRecDepth 20000 in
theorem lw_w232 : Cond.code yX3_makeRoom cX3_makeRoom 8 (some .int) ∈ lw_tbl := List.mem_of_getElem? (i := 232) rfl
set_option maxRecDepth 20000 in
theorem lw_w233 : Cond.methodLink RX3 183 yX0_slotFor ∈ lw_tbl := List.mem_of_getElem? (i := 233) rfl
set_option maxRecDepth 20000 in
theorem lw_w234 : Cond.instanceMethod yX0_slotFor ∈ lw_tbl := List.mem_of_getElem? (i := 234) rfl
set_option maxRecDepth 20000 in
theorem lw_w235 : Cond.selects RX0 yX0_slotFor yX0_slotFor ∈ lw_tbl := List.mem_of_getElem? (i := 235) rfl
set_option maxRecDepth 20000 in
theorem lw_w236 : Cond.code yX0_slotFor cX0_slotFor 3 (some .int) ∈ lw_tbl := List.mem_of_getElem? (i := 236) rfl
set_option maxRecDepth 20000 in
theorem lw_w237 : Cond.methodLink RX0 39 yX0_holds ∈ lw_tbl := List.mem_of_getElem? (i := 237) rfl
set_option maxRecDepth 20000 in
theorem lw_w238 : Cond.instanceMethod yX0_holds ∈ lw_tbl := List.mem_of_getElem? (i := 238) rfl
set_option maxRecDepth 20000 in
theorem lw_w239 : Cond.selects RX0 yX0_holds yX0_holds ∈ lw_tbl := List.mem_of_getElem? (i := 239) rfl
set_option maxRecDepth 20000 in
theorem lw_w240 : Cond.code yX0_holds cX0_holds 2 (some .boolean) ∈ lw_tbl := List.mem_of_getElem? (i := 240) rfl
set_option maxRecDepth 20000 in
theorem lw_w241 : Cond.methodLink RX0 31 yX0_sizeOf ∈ lw_tbl := List.mem_of_getElem? (i := 241) rfl
set_option maxRecDepth 20000 in
theorem lw_w242 : Cond.instanceMethod yX0_sizeOf ∈ lw_tbl := List.mem_of_getElem? (i := 242) rfl
set_option maxRecDepth 20000 in
theorem lw_w243 : Cond.selects RX0 yX0_sizeOf yX0_sizeOf ∈ lw_tbl := List.mem_of_getElem? (i := 243) rfl
set_option maxRecDepth 20000 in
theorem lw_w244 : Cond.code yX0_sizeOf cX0_sizeOf 2 (some .int) ∈ lw_tbl := List.mem_of_getElem? (i := 244) rfl
set_option maxRecDepth 20000 in
theorem lw_w245 : Cond.methodLink RX0 35 yX0_read ∈ lw_tbl := List.mem_of_getElem? (i := 245) rfl
set_option maxRecDepth 20000 in
theorem lw_w246 : Cond.instanceMethod yX0_read ∈ lw_tbl := List.mem_of_getElem? (i := 246) rfl
set_option maxRecDepth 20000 in
theorem lw_w247 : Cond.selects RX0 yX0_read yX0_read ∈ lw_tbl := List.mem_of_getElem? (i := 247) rfl
set_option maxRecDepth 20000 in
theorem lw_w248 : Cond.code yX0_read cX0_read 7 (some .long) ∈ lw_tbl := List.mem_of_getElem? (i := 248) rfl
set_option maxRecDepth 20000 in
theorem lw_w249 : Cond.methodLink RX0 43 yX0_freeBytes ∈ lw_tbl := List.mem_of_getElem? (i := 249) rfl
set_option maxRecDepth 20000 in
theorem lw_w250 : Cond.instanceMethod yX0_freeBytes ∈ lw_tbl := List.mem_of_getElem? (i := 250) rfl
set_option maxRecDepth 20000 in
theorem lw_w251 : Cond.selects RX0 yX0_freeBytes yX0_freeBytes ∈ lw_tbl := List.mem_of_getElem? (i := 251) rfl
set_option maxRecDepth 20000 in
theorem lw_w252 : Cond.code yX0_freeBytes cX0_freeBytes 1 (some .int) ∈ lw_tbl := List.mem_of_getElem? (i := 252) rfl
set_option maxRecDepth 20000 in
theorem lw_w253 : Cond.methodLink RX3 186 yX3_addAt ∈ lw_tbl := List.mem_of_getElem? (i := 253) rfl
set_option maxRecDepth 20000 in
theorem lw_w255 : Cond.instanceMethod yX3_addAt ∈ lw_tbl := List.mem_of_getElem? (i := 255) rfl
set_option maxRecDepth 20000 in
theorem lw_w256 : Cond.code yX3_addAt cX3_addAt 5 (some .int) ∈ lw_tbl := List.mem_of_getElem? (i := 256) rfl
set_option maxRecDepth 20000 in
theorem lw_w257 : Cond.methodLink RX3 190 yX0_add ∈ lw_tbl := List.mem_of_getElem? (i := 257) rfl
set_option maxRecDepth 20000 in
theorem lw_w258 : Cond.instanceMethod yX0_add ∈ lw_tbl := List.mem_of_getElem? (i := 258) rfl
set_option maxRecDepth 20000 in
theorem lw_w259 : Cond.selects RX0 yX0_add yX0_add ∈ lw_tbl := List.mem_of_getElem? (i := 259) rfl
set_option maxRecDepth 20000 in
theorem lw_w260 : Cond.code yX0_add cX0_add 3 none ∈ lw_tbl := List.mem_of_getElem? (i := 260) rfl
set_option maxRecDepth 20000 in
theorem lw_w261 : Cond.methodLink RX0 47 yX0_setSlot ∈ lw_tbl := List.mem_of_getElem? (i := 261) rfl
set_option maxRecDepth 20000 in
theorem lw_w263 : Cond.instanceMethod yX0_setSlot ∈ lw_tbl := List.mem_of_getElem? (i := 263) rfl
set_option maxRecDepth 20000 in
theorem lw_w264 : Cond.code yX0_setSlot cX0_setSlot 4 none ∈ lw_tbl := List.mem_of_getElem? (i := 264) rfl
set_option maxRecDepth 20000 in
theorem lw_w265 : Cond.methodLink RX0 64 yX0_write ∈ lw_tbl := List.mem_of_getElem? (i := 265) rfl
set_option maxRecDepth 20000 in
theorem lw_w266 : Cond.instanceMethod yX0_write ∈ lw_tbl := List.mem_of_getElem? (i := 266) rfl
set_option maxRecDepth 20000 in
theorem lw_w267 : Cond.selects RX0 yX0_write yX0_write ∈ lw_tbl := List.mem_of_getElem? (i := 267) rfl
set_option maxRecDepth 20000 in
theorem lw_w268 : Cond.code yX0_write cX0_write 7 none ∈ lw_tbl := List.mem_of_getElem? (i := 268) rfl
set_option maxRecDepth 20000 in
theorem lw_w269 : Cond.methodLink RX3 91 yX3_pageWithVersion ∈ lw_tbl := List.mem_of_getElem? (i := 269) rfl
set_option maxRecDepth 20000 in
theorem lw_w271 : Cond.instanceMethod yX3_pageWithVersion ∈ lw_tbl := List.mem_of_getElem? (i := 271) rfl
set_option maxRecDepth 20000 in
theorem lw_w272 : Cond.code yX3_pageWithVersion cX3_pageWithVersion 3 (some (.object "VersionDesk$Page")) ∈ lw_tbl := List.mem_of_getElem? (i := 272) rfl
set_option maxRecDepth 20000 in
theorem lw_w273 : Cond.methodLink RX3 115 yX3_isPlace ∈ lw_tbl := List.mem_of_getElem? (i := 273) rfl
set_option maxRecDepth 20000 in
theorem lw_w274 : Cond.static yX3_isPlace ∈ lw_tbl := List.mem_of_getElem? (i := 274) rfl
set_option maxRecDepth 20000 in
theorem lw_w275 : Cond.code yX3_isPlace cX3_isPlace 1 (some .boolean) ∈ lw_tbl := List.mem_of_getElem? (i := 275) rfl
set_option maxRecDepth 20000 in
theorem lw_w276 : Cond.methodLink RX3 124 yX3_pageOf ∈ lw_tbl := List.mem_of_getElem? (i := 276) rfl
set_option maxRecDepth 20000 in
theorem lw_w277 : Cond.static yX3_pageOf ∈ lw_tbl := List.mem_of_getElem? (i := 277) rfl
set_option maxRecDepth 20000 in
theorem lw_w278 : Cond.code yX3_pageOf cX3_pageOf 1 (some .int) ∈ lw_tbl := List.mem_of_getElem? (i := 278) rfl
set_option maxRecDepth 20000 in
theorem lw_w279 : Cond.methodLink RX3 94 yX3_slotOf ∈ lw_tbl := List.mem_of_getElem? (i := 279) rfl
set_option maxRecDepth 20000 in
theorem lw_w280 : Cond.static yX3_slotOf ∈ lw_tbl := List.mem_of_getElem? (i := 280) rfl
set_option maxRecDepth 20000 in
theorem lw_w281 : Cond.code yX3_slotOf cX3_slotOf 1 (some .int) ∈ lw_tbl := List.mem_of_getElem? (i := 281) rfl
set_option maxRecDepth 20000 in
theorem lw_w282 : Cond.methodLink RX3 179 yX0_holds ∈ lw_tbl := List.mem_of_getElem? (i := 282) rfl
set_option maxRecDepth 20000 in
theorem lw_w283 : Cond.methodLink RX3 97 yX0_startOf ∈ lw_tbl := List.mem_of_getElem? (i := 283) rfl
set_option maxRecDepth 20000 in
theorem lw_w284 : Cond.instanceMethod yX0_startOf ∈ lw_tbl := List.mem_of_getElem? (i := 284) rfl
set_option maxRecDepth 20000 in
theorem lw_w285 : Cond.selects RX0 yX0_startOf yX0_startOf ∈ lw_tbl := List.mem_of_getElem? (i := 285) rfl
set_option maxRecDepth 20000 in
theorem lw_w286 : Cond.code yX0_startOf cX0_startOf 2 (some .int) ∈ lw_tbl := List.mem_of_getElem? (i := 286) rfl
set_option maxRecDepth 20000 in
theorem lw_w287 : Cond.methodLink RX3 100 yX0_write ∈ lw_tbl := List.mem_of_getElem? (i := 287) rfl
set_option maxRecDepth 20000 in
theorem lw_w288 : Cond.methodLink RX3 104 yX3_writeBehind ∈ lw_tbl := List.mem_of_getElem? (i := 288) rfl
set_option maxRecDepth 20000 in
theorem lw_w289 : Cond.static yX3_writeBehind ∈ lw_tbl := List.mem_of_getElem? (i := 289) rfl
set_option maxRecDepth 20000 in
theorem lw_w290 : Cond.code yX3_writeBehind cX3_writeBehind 3 none ∈ lw_tbl := List.mem_of_getElem? (i := 290) rfl
set_option maxRecDepth 20000 in
theorem lw_w291 : Cond.methodLink RX3 108 yX3_packHand ∈ lw_tbl := List.mem_of_getElem? (i := 291) rfl
