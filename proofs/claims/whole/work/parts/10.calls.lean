set_option maxRecDepth 20000 in
theorem ln_X0_26 : Cond.methodLink RX0 26 yX0_sortByComes ∈ x_tbl := x_mem 510 (by decide +kernel) rfl
set_option maxRecDepth 20000 in
theorem ln_X0_29 : Cond.methodLink RX0 29 yJ7_fill_53178 ∈ x_tbl := x_mem 514 (by decide +kernel) rfl
set_option maxRecDepth 20000 in
theorem ln_X0_47 : Cond.methodLink RX0 47 yX0_comeBy ∈ x_tbl := x_mem 515 (by decide +kernel) rfl
set_option maxRecDepth 20000 in
theorem ln_X0_51 : Cond.methodLink RX0 51 yX2_byRule ∈ x_tbl := x_mem 519 (by decide +kernel) rfl
set_option maxRecDepth 20000 in
theorem ln_X0_57 : Cond.methodLink RX0 57 yX0_begin ∈ x_tbl := x_mem 520 (by decide +kernel) rfl
set_option maxRecDepth 20000 in
theorem ln_X0_64 : Cond.methodLink RX0 64 yX0_nextComes ∈ x_tbl := x_mem 524 (by decide +kernel) rfl
set_option maxRecDepth 20000 in
theorem ln_X0_75 : Cond.methodLink RX0 75 yX0_ahead ∈ x_tbl := x_mem 540 (by decide +kernel) rfl
set_option maxRecDepth 20000 in
theorem ln_X1_37 : Cond.methodLink RX1 37 yX3_waitersOf ∈ x_tbl := x_mem 561 (by decide +kernel) rfl
set_option maxRecDepth 20000 in
theorem ln_X1_43 : Cond.methodLink RX1 43 yX1_settle ∈ x_tbl := x_mem 565 (by decide +kernel) rfl
set_option maxRecDepth 20000 in
theorem ln_X1_60 : Cond.methodLink RX1 60 yX2_begin ∈ x_tbl := x_mem 569 (by decide +kernel) rfl
set_option maxRecDepth 20000 in
theorem ln_X1_63 : Cond.methodLink RX1 63 yX3_waiter ∈ x_tbl := x_mem 570 (by decide +kernel) rfl
set_option maxRecDepth 20000 in
theorem ln_X1_67 : Cond.methodLink RX1 67 yX2_enter ∈ x_tbl := x_mem 571 (by decide +kernel) rfl
set_option maxRecDepth 20000 in
theorem ln_X1_71 : Cond.methodLink RX1 71 yX2_become ∈ x_tbl := x_mem 572 (by decide +kernel) rfl
set_option maxRecDepth 20000 in
theorem ln_X1_75 : Cond.methodLink RX1 75 yX1_weigh ∈ x_tbl := x_mem 576 (by decide +kernel) rfl
set_option maxRecDepth 20000 in
theorem ln_X1_79 : Cond.methodLink RX1 79 yX1_stateOf ∈ x_tbl := x_mem 580 (by decide +kernel) rfl
set_option maxRecDepth 20000 in
theorem ln_X1_82 : Cond.methodLink RX1 82 yX2_spends ∈ x_tbl := x_mem 583 (by decide +kernel) rfl
set_option maxRecDepth 20000 in
theorem ln_X2_59 : Cond.methodLink RX2 59 yX3_isShip ∈ x_tbl := x_mem 424 (by decide +kernel) rfl
set_option maxRecDepth 20000 in
theorem ln_X2_66 : Cond.methodLink RX2 66 yX3_span ∈ x_tbl := x_mem 430 (by decide +kernel) rfl
set_option maxRecDepth 20000 in
theorem ln_X2_70 : Cond.methodLink RX2 70 yX2_firstRun ∈ x_tbl := x_mem 435 (by decide +kernel) rfl
set_option maxRecDepth 20000 in
theorem ln_X2_73 : Cond.methodLink RX2 73 yX2_run ∈ x_tbl := x_mem 439 (by decide +kernel) rfl
set_option maxRecDepth 20000 in
theorem ln_X2_78 : Cond.methodLink RX2 78 yX2_begin ∈ x_tbl := x_mem 409 (by decide +kernel) rfl
set_option maxRecDepth 20000 in
theorem ln_X2_81 : Cond.methodLink RX2 81 yX2_nextHead ∈ x_tbl := x_mem 416 (by decide +kernel) rfl
set_option maxRecDepth 20000 in
theorem ln_X2_85 : Cond.methodLink RX2 85 yX2_enter ∈ x_tbl := x_mem 431 (by decide +kernel) rfl
set_option maxRecDepth 20000 in
theorem ln_X2_91 : Cond.methodLink RX2 91 yX2_head ∈ x_tbl := x_mem 420 (by decide +kernel) rfl
set_option maxRecDepth 20000 in
theorem ln_X2_95 : Cond.methodLink RX2 95 yX2_isSecondTaken ∈ x_tbl := x_mem 425 (by decide +kernel) rfl
set_option maxRecDepth 20000 in
theorem ln_X2_99 : Cond.methodLink RX2 99 yX3_rank ∈ x_tbl := x_mem 429 (by decide +kernel) rfl
set_option maxRecDepth 20000 in
theorem ln_X3_53 : Cond.methodLink RX3 53 yJ7_fill_53178 ∈ x_tbl := x_mem 70 (by decide +kernel) rfl
set_option maxRecDepth 20000 in
theorem ln_X3_78 : Cond.methodLink RX3 78 yX3_isShip ∈ x_tbl := x_mem 350 (by decide +kernel) rfl
set_option maxRecDepth 20000 in
theorem ln_X3_82 : Cond.methodLink RX3 82 yX3_isWaiting ∈ x_tbl := x_mem 374 (by decide +kernel) rfl
set_option maxRecDepth 20000 in
theorem ln_X3_91 : Cond.methodLink RX3 91 yJ6_bitCount_0f7a4 ∈ x_tbl := x_mem 389 (by decide +kernel) rfl
set_option maxRecDepth 20000 in
theorem ln_X3_100 : Cond.methodLink RX3 100 yX3_bound ∈ x_tbl := x_mem 501 (by decide +kernel) rfl
set_option maxRecDepth 20000 in
theorem ln_X3_103 : Cond.methodLink RX3 103 yX3_allows ∈ x_tbl := x_mem 497 (by decide +kernel) rfl
set_option maxRecDepth 20000 in
theorem ln_X4_31 : Cond.methodLink RX4 31 yJ7_fill_53178 ∈ x_tbl := x_mem 613 (by decide +kernel) rfl
set_option maxRecDepth 20000 in
theorem ln_X4_37 : Cond.methodLink RX4 37 yX4_has ∈ x_tbl := x_mem 618 (by decide +kernel) rfl
set_option maxRecDepth 20000 in
theorem ln_X5_57 : Cond.methodLink RX5 57 yX5_isLane ∈ x_tbl := x_mem 300 (by decide +kernel) rfl
set_option maxRecDepth 20000 in
theorem ln_X5_61 : Cond.methodLink RX5 61 yX5_isKind ∈ x_tbl := x_mem 303 (by decide +kernel) rfl
set_option maxRecDepth 20000 in
theorem ln_X5_96 : Cond.methodLink RX5 96 yX5_isSetting ∈ x_tbl := x_mem 311 (by decide +kernel) rfl
set_option maxRecDepth 20000 in
theorem ln_X5_115 : Cond.methodLink RX5 115 yX3_bound ∈ x_tbl := x_mem 331 (by decide +kernel) rfl
set_option maxRecDepth 20000 in
theorem ln_X5_119 : Cond.methodLink RX5 119 yX3_isShip ∈ x_tbl := x_mem 342 (by decide +kernel) rfl
set_option maxRecDepth 20000 in
theorem ln_X5_122 : Cond.methodLink RX5 122 yX3_isWaiting ∈ x_tbl := x_mem 346 (by decide +kernel) rfl
set_option maxRecDepth 20000 in
theorem ln_X5_125 : Cond.methodLink RX5 125 yX3_isGone ∈ x_tbl := x_mem 351 (by decide +kernel) rfl
set_option maxRecDepth 20000 in
theorem ln_X5_128 : Cond.methodLink RX5 128 yX3_span ∈ x_tbl := x_mem 355 (by decide +kernel) rfl
set_option maxRecDepth 20000 in
theorem ln_X5_131 : Cond.methodLink RX5 131 yX3_rank ∈ x_tbl := x_mem 362 (by decide +kernel) rfl
set_option maxRecDepth 20000 in
theorem ln_X5_134 : Cond.methodLink RX5 134 yX3_waiter ∈ x_tbl := x_mem 370 (by decide +kernel) rfl
set_option maxRecDepth 20000 in
theorem ln_X5_138 : Cond.methodLink RX5 138 yJ6_bitCount_0f7a4 ∈ x_tbl := x_mem 379 (by decide +kernel) rfl
set_option maxRecDepth 20000 in
theorem ln_X5_146 : Cond.methodLink RX5 146 yX3_freePlaces ∈ x_tbl := x_mem 385 (by decide +kernel) rfl
set_option maxRecDepth 20000 in
theorem ln_X5_150 : Cond.methodLink RX5 150 yX5_isUnder ∈ x_tbl := x_mem 394 (by decide +kernel) rfl
set_option maxRecDepth 20000 in
theorem ln_X5_157 : Cond.methodLink RX5 157 yX2_byRule ∈ x_tbl := x_mem 405 (by decide +kernel) rfl
set_option maxRecDepth 20000 in
theorem ln_X5_161 : Cond.methodLink RX5 161 yX2_spends ∈ x_tbl := x_mem 442 (by decide +kernel) rfl
set_option maxRecDepth 20000 in
theorem ln_X5_164 : Cond.methodLink RX5 164 yX3_goneBy ∈ x_tbl := x_mem 447 (by decide +kernel) rfl
set_option maxRecDepth 20000 in
theorem ln_X5_168 : Cond.methodLink RX5 168 yX5_remember ∈ x_tbl := x_mem 451 (by decide +kernel) rfl
set_option maxRecDepth 20000 in
theorem ln_X5_186 : Cond.methodLink RX5 186 yX3_spentInAll ∈ x_tbl := x_mem 469 (by decide +kernel) rfl
set_option maxRecDepth 20000 in
theorem ln_X5_193 : Cond.methodLink RX5 193 yX3_takeBack ∈ x_tbl := x_mem 481 (by decide +kernel) rfl
set_option maxRecDepth 20000 in
theorem ln_X5_196 : Cond.methodLink RX5 196 yX3_dayFor ∈ x_tbl := x_mem 493 (by decide +kernel) rfl
set_option maxRecDepth 20000 in
theorem ln_X5_200 : Cond.methodLink RX5 200 yX0_run ∈ x_tbl := x_mem 506 (by decide +kernel) rfl
set_option maxRecDepth 20000 in
theorem ln_X5_203 : Cond.methodLink RX5 203 yX0_waitOf ∈ x_tbl := x_mem 528 (by decide +kernel) rfl
set_option maxRecDepth 20000 in
theorem ln_X5_206 : Cond.methodLink RX5 206 yX0_inLine ∈ x_tbl := x_mem 536 (by decide +kernel) rfl
set_option maxRecDepth 20000 in
theorem ln_X5_209 : Cond.methodLink RX5 209 yX0_allWaits ∈ x_tbl := x_mem 548 (by decide +kernel) rfl
set_option maxRecDepth 20000 in
theorem ln_X5_216 : Cond.methodLink RX5 216 yX1_run ∈ x_tbl := x_mem 557 (by decide +kernel) rfl
set_option maxRecDepth 20000 in
theorem ln_X5_229 : Cond.methodLink RX5 229 yX5_isSheet ∈ x_tbl := x_mem 588 (by decide +kernel) rfl
set_option maxRecDepth 20000 in
theorem ln_X5_232 : Cond.methodLink RX5 232 yX4_isMissing ∈ x_tbl := x_mem 591 (by decide +kernel) rfl
set_option maxRecDepth 20000 in
theorem ln_X5_237 : Cond.methodLink RX5 237 yX5_firstOtherwise ∈ x_tbl := x_mem 595 (by decide +kernel) rfl
set_option maxRecDepth 20000 in
theorem ln_X5_241 : Cond.methodLink RX5 241 yX5_tried ∈ x_tbl := x_mem 599 (by decide +kernel) rfl
set_option maxRecDepth 20000 in
theorem ln_X5_245 : Cond.methodLink RX5 245 yX4_become ∈ x_tbl := x_mem 607 (by decide +kernel) rfl
set_option maxRecDepth 20000 in
theorem ln_X5_248 : Cond.methodLink RX5 248 yX4_write ∈ x_tbl := x_mem 614 (by decide +kernel) rfl
set_option maxRecDepth 20000 in
theorem ln_X5_251 : Cond.methodLink RX5 251 yX3_become ∈ x_tbl := x_mem 626 (by decide +kernel) rfl
set_option maxRecDepth 20000 in
theorem ln_X5_257 : Cond.methodLink RX5 257 yX5_isSort ∈ x_tbl := x_mem 639 (by decide +kernel) rfl
set_option maxRecDepth 20000 in
theorem ln_X5_260 : Cond.methodLink RX5 260 yX4_has ∈ x_tbl := x_mem 646 (by decide +kernel) rfl
set_option maxRecDepth 20000 in
theorem ln_X5_266 : Cond.methodLink RX5 266 yX4_hasRun ∈ x_tbl := x_mem 651 (by decide +kernel) rfl
set_option maxRecDepth 20000 in
theorem ln_X5_278 : Cond.methodLink RX5 278 yX5_ship ∈ x_tbl := x_mem 659 (by decide +kernel) rfl
set_option maxRecDepth 20000 in
theorem ln_X6_110 : Cond.methodLink RX6 110 yX6_within ∈ x_tbl := x_mem 792 (by decide +kernel) rfl
set_option maxRecDepth 20000 in
theorem ln_X6_118 : Cond.methodLink RX6 118 yX6_comesTo ∈ x_tbl := x_mem 788 (by decide +kernel) rfl
set_option maxRecDepth 20000 in
theorem ln_X6_129 : Cond.methodLink RX6 129 yX6_mayOf ∈ x_tbl := x_mem 813 (by decide +kernel) rfl
set_option maxRecDepth 20000 in
theorem ln_X6_136 : Cond.methodLink RX6 136 yX6_isShip ∈ x_tbl := x_mem 822 (by decide +kernel) rfl
set_option maxRecDepth 20000 in
theorem ln_X6_140 : Cond.methodLink RX6 140 yX6_spanOf ∈ x_tbl := x_mem 826 (by decide +kernel) rfl
set_option maxRecDepth 20000 in
theorem ln_X6_143 : Cond.methodLink RX6 143 yX6_rankOf ∈ x_tbl := x_mem 831 (by decide +kernel) rfl
set_option maxRecDepth 20000 in
theorem ln_X6_149 : Cond.methodLink RX6 149 yX6_free ∈ x_tbl := x_mem 843 (by decide +kernel) rfl
set_option maxRecDepth 20000 in
theorem ln_X6_156 : Cond.methodLink RX6 156 yX6_empties ∈ x_tbl := x_mem 863 (by decide +kernel) rfl
set_option maxRecDepth 20000 in
theorem ln_X6_159 : Cond.methodLink RX6 159 yX6_isOther ∈ x_tbl := x_mem 867 (by decide +kernel) rfl
set_option maxRecDepth 20000 in
theorem ln_X6_162 : Cond.methodLink RX6 162 yX6_goesIn ∈ x_tbl := x_mem 871 (by decide +kernel) rfl
set_option maxRecDepth 20000 in
theorem ln_X6_165 : Cond.methodLink RX6 165 yX6_stepsOn ∈ x_tbl := x_mem 875 (by decide +kernel) rfl
set_option maxRecDepth 20000 in
theorem ln_X6_169 : Cond.methodLink RX6 169 yX6_all ∈ x_tbl := x_mem 855 (by decide +kernel) rfl
set_option maxRecDepth 20000 in
theorem ln_X6_172 : Cond.methodLink RX6 172 yX6_fills ∈ x_tbl := x_mem 859 (by decide +kernel) rfl
set_option maxRecDepth 20000 in
theorem ln_X6_175 : Cond.methodLink RX6 175 yX6_keeps ∈ x_tbl := x_mem 879 (by decide +kernel) rfl
set_option maxRecDepth 20000 in
theorem ln_X6_178 : Cond.methodLink RX6 178 yX6_spends ∈ x_tbl := x_mem 883 (by decide +kernel) rfl
set_option maxRecDepth 20000 in
theorem ln_X6_189 : Cond.methodLink RX6 189 yX6_gathers ∈ x_tbl := x_mem 924 (by decide +kernel) rfl
set_option maxRecDepth 20000 in
theorem ln_X6_193 : Cond.methodLink RX6 193 yX6_goesOn ∈ x_tbl := x_mem 920 (by decide +kernel) rfl
set_option maxRecDepth 20000 in
theorem ln_X6_196 : Cond.methodLink RX6 196 yX6_canGo ∈ x_tbl := x_mem 944 (by decide +kernel) rfl
set_option maxRecDepth 20000 in
theorem ln_X6_200 : Cond.methodLink RX6 200 yX6_frees ∈ x_tbl := x_mem 940 (by decide +kernel) rfl
set_option maxRecDepth 20000 in
theorem ln_X6_203 : Cond.methodLink RX6 203 yX6_isSheet ∈ x_tbl := x_mem 952 (by decide +kernel) rfl
set_option maxRecDepth 20000 in
theorem ln_X6_206 : Cond.methodLink RX6 206 yX6_unlike ∈ x_tbl := x_mem 955 (by decide +kernel) rfl
set_option maxRecDepth 20000 in
theorem ln_X6_209 : Cond.methodLink RX6 209 yX6_moves ∈ x_tbl := x_mem 971 (by decide +kernel) rfl
set_option maxRecDepth 20000 in
theorem ln_X6_217 : Cond.methodLink RX6 217 yX6_images ∈ x_tbl := x_mem 967 (by decide +kernel) rfl
