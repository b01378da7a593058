theorem fl_X6_10 : FL RX6 10 5 0 := ⟨by decide, by decide, gt_at 164 (by decide +kernel) rfl⟩
theorem fl_X6_19 : FL RX6 19 5 1 := ⟨by decide, by decide, gt_at 165 (by decide +kernel) rfl⟩
theorem fl_X6_23 : FL RX6 23 5 2 := ⟨by decide, by decide, gt_at 166 (by decide +kernel) rfl⟩
theorem fl_X6_26 : FL RX6 26 5 3 := ⟨by decide, by decide, gt_at 167 (by decide +kernel) rfl⟩
theorem fl_X6_32 : FL RX6 32 5 4 := ⟨by decide, by decide, gt_at 168 (by decide +kernel) rfl⟩
theorem fl_X6_39 : FL RX6 39 5 5 := ⟨by decide, by decide, gt_at 169 (by decide +kernel) rfl⟩
theorem fl_X6_43 : FL RX6 43 5 6 := ⟨by decide, by decide, gt_at 170 (by decide +kernel) rfl⟩
theorem fl_X6_47 : FL RX6 47 5 7 := ⟨by decide, by decide, gt_at 171 (by decide +kernel) rfl⟩
theorem fl_X6_51 : FL RX6 51 5 8 := ⟨by decide, by decide, gt_at 172 (by decide +kernel) rfl⟩
theorem fl_X6_54 : FL RX6 54 5 9 := ⟨by decide, by decide, gt_at 173 (by decide +kernel) rfl⟩
theorem fl_X6_57 : FL RX6 57 5 10 := ⟨by decide, by decide, gt_at 174 (by decide +kernel) rfl⟩
theorem fl_X6_82 : FL RX6 82 4 0 := ⟨by decide, by decide, gt_at 109 (by decide +kernel) rfl⟩
theorem fl_X6_100 : FL RX6 100 4 1 := ⟨by decide, by decide, gt_at 111 (by decide +kernel) rfl⟩
theorem fl_X6_136 : FL RX6 136 4 3 := ⟨by decide, by decide, gt_at 115 (by decide +kernel) rfl⟩
theorem fl_X6_142 : FL RX6 142 4 2 := ⟨by decide, by decide, gt_at 113 (by decide +kernel) rfl⟩
theorem fl_X6_145 : FL RX6 145 4 4 := ⟨by decide, by decide, gt_at 117 (by decide +kernel) rfl⟩
theorem fl_X6_177 : FL RX6 177 4 6 := ⟨by decide, by decide, gt_at 121 (by decide +kernel) rfl⟩
theorem fl_X6_180 : FL RX6 180 4 5 := ⟨by decide, by decide, gt_at 119 (by decide +kernel) rfl⟩
theorem fl_X0_9 : FL RX0 9 0 0 := ⟨by decide, by decide, gt_at 78 (by decide +kernel) rfl⟩
theorem fl_X0_15 : FL RX0 15 0 1 := ⟨by decide, by decide, gt_at 79 (by decide +kernel) rfl⟩
theorem fl_X1_11 : FL RX1 11 1 0 := ⟨by decide, by decide, gt_at 91 (by decide +kernel) rfl⟩
theorem fl_X1_15 : FL RX1 15 1 1 := ⟨by decide, by decide, gt_at 92 (by decide +kernel) rfl⟩
theorem fl_X1_18 : FL RX1 18 1 2 := ⟨by decide, by decide, gt_at 93 (by decide +kernel) rfl⟩
theorem fl_X1_21 : FL RX1 21 1 3 := ⟨by decide, by decide, gt_at 94 (by decide +kernel) rfl⟩
theorem fl_X1_25 : FL RX1 25 1 4 := ⟨by decide, by decide, gt_at 95 (by decide +kernel) rfl⟩
theorem fl_X3_11 : FL RX3 11 2 0 := ⟨by decide, by decide, gt_at 58 (by decide +kernel) rfl⟩
theorem fl_X3_15 : FL RX3 15 2 1 := ⟨by decide, by decide, gt_at 59 (by decide +kernel) rfl⟩
theorem fl_X4_11 : FL RX4 11 3 0 := ⟨by decide, by decide, gt_at 145 (by decide +kernel) rfl⟩
theorem fl_X4_15 : FL RX4 15 3 1 := ⟨by decide, by decide, gt_at 146 (by decide +kernel) rfl⟩
theorem fl_X4_18 : FL RX4 18 3 2 := ⟨by decide, by decide, gt_at 147 (by decide +kernel) rfl⟩
theorem fl_X4_21 : FL RX4 21 3 3 := ⟨by decide, by decide, gt_at 148 (by decide +kernel) rfl⟩
theorem fl_X4_24 : FL RX4 24 3 4 := ⟨by decide, by decide, gt_at 149 (by decide +kernel) rfl⟩
theorem fl_X4_28 : FL RX4 28 3 5 := ⟨by decide, by decide, gt_at 150 (by decide +kernel) rfl⟩
theorem fl_X5_10 : FL RX5 10 4 0 := ⟨by decide, by decide, gt_at 108 (by decide +kernel) rfl⟩
theorem fl_X5_19 : FL RX5 19 4 1 := ⟨by decide, by decide, gt_at 110 (by decide +kernel) rfl⟩
theorem fl_X5_23 : FL RX5 23 4 2 := ⟨by decide, by decide, gt_at 112 (by decide +kernel) rfl⟩
theorem fl_X5_27 : FL RX5 27 4 3 := ⟨by decide, by decide, gt_at 114 (by decide +kernel) rfl⟩
theorem fl_X5_30 : FL RX5 30 4 4 := ⟨by decide, by decide, gt_at 116 (by decide +kernel) rfl⟩
theorem fl_X5_33 : FL RX5 33 4 5 := ⟨by decide, by decide, gt_at 118 (by decide +kernel) rfl⟩
theorem fl_X5_36 : FL RX5 36 4 6 := ⟨by decide, by decide, gt_at 120 (by decide +kernel) rfl⟩
theorem fl_X7_7 : FL RX7 7 6 2 := ⟨by decide, by decide, gt_at 596 (by decide +kernel) rfl⟩
theorem fl_X7_13 : FL RX7 13 6 9 := ⟨by decide, by decide, gt_at 603 (by decide +kernel) rfl⟩
theorem fl_X7_16 : FL RX7 16 6 10 := ⟨by decide, by decide, gt_at 604 (by decide +kernel) rfl⟩
theorem fl_X7_19 : FL RX7 19 6 11 := ⟨by decide, by decide, gt_at 605 (by decide +kernel) rfl⟩
theorem fl_X7_22 : FL RX7 22 6 12 := ⟨by decide, by decide, gt_at 606 (by decide +kernel) rfl⟩
theorem fl_X7_25 : FL RX7 25 6 15 := ⟨by decide, by decide, gt_at 609 (by decide +kernel) rfl⟩
theorem fl_X7_29 : FL RX7 29 6 18 := ⟨by decide, by decide, gt_at 612 (by decide +kernel) rfl⟩
theorem fl_X7_32 : FL RX7 32 6 28 := ⟨by decide, by decide, gt_at 622 (by decide +kernel) rfl⟩
theorem fl_X7_35 : FL RX7 35 6 29 := ⟨by decide, by decide, gt_at 623 (by decide +kernel) rfl⟩
theorem fl_X7_38 : FL RX7 38 6 30 := ⟨by decide, by decide, gt_at 624 (by decide +kernel) rfl⟩
theorem fl_X7_41 : FL RX7 41 6 31 := ⟨by decide, by decide, gt_at 625 (by decide +kernel) rfl⟩
theorem fl_X7_44 : FL RX7 44 6 32 := ⟨by decide, by decide, gt_at 626 (by decide +kernel) rfl⟩
theorem fl_X7_51 : FL RX7 51 6 14 := ⟨by decide, by decide, gt_at 608 (by decide +kernel) rfl⟩
theorem fl_X7_55 : FL RX7 55 6 16 := ⟨by decide, by decide, gt_at 610 (by decide +kernel) rfl⟩
theorem fl_X7_66 : FL RX7 66 6 17 := ⟨by decide, by decide, gt_at 611 (by decide +kernel) rfl⟩
theorem fl_X7_73 : FL RX7 73 6 1 := ⟨by decide, by decide, gt_at 595 (by decide +kernel) rfl⟩
theorem fl_X7_76 : FL RX7 76 6 3 := ⟨by decide, by decide, gt_at 597 (by decide +kernel) rfl⟩
theorem fl_X7_79 : FL RX7 79 6 0 := ⟨by decide, by decide, gt_at 594 (by decide +kernel) rfl⟩
theorem fl_X7_82 : FL RX7 82 6 4 := ⟨by decide, by decide, gt_at 598 (by decide +kernel) rfl⟩
theorem fl_X7_85 : FL RX7 85 6 5 := ⟨by decide, by decide, gt_at 599 (by decide +kernel) rfl⟩
theorem fl_X7_88 : FL RX7 88 6 6 := ⟨by decide, by decide, gt_at 600 (by decide +kernel) rfl⟩
theorem fl_X7_91 : FL RX7 91 6 7 := ⟨by decide, by decide, gt_at 601 (by decide +kernel) rfl⟩
theorem fl_X7_94 : FL RX7 94 6 8 := ⟨by decide, by decide, gt_at 602 (by decide +kernel) rfl⟩
theorem fl_X7_130 : FL RX7 130 6 13 := ⟨by decide, by decide, gt_at 607 (by decide +kernel) rfl⟩
theorem fl_X7_154 : FL RX7 154 6 19 := ⟨by decide, by decide, gt_at 613 (by decide +kernel) rfl⟩
theorem fl_X7_170 : FL RX7 170 6 20 := ⟨by decide, by decide, gt_at 614 (by decide +kernel) rfl⟩
theorem fl_X7_173 : FL RX7 173 6 21 := ⟨by decide, by decide, gt_at 615 (by decide +kernel) rfl⟩
theorem fl_X7_176 : FL RX7 176 6 22 := ⟨by decide, by decide, gt_at 616 (by decide +kernel) rfl⟩
theorem fl_X7_179 : FL RX7 179 6 23 := ⟨by decide, by decide, gt_at 617 (by decide +kernel) rfl⟩
theorem fl_X7_182 : FL RX7 182 6 24 := ⟨by decide, by decide, gt_at 618 (by decide +kernel) rfl⟩
theorem fl_X7_185 : FL RX7 185 6 25 := ⟨by decide, by decide, gt_at 619 (by decide +kernel) rfl⟩
theorem fl_X7_188 : FL RX7 188 6 26 := ⟨by decide, by decide, gt_at 620 (by decide +kernel) rfl⟩
theorem fl_X7_191 : FL RX7 191 6 27 := ⟨by decide, by decide, gt_at 621 (by decide +kernel) rfl⟩
theorem fl_X7_202 : FL RX7 202 6 33 := ⟨by decide, by decide, gt_at 627 (by decide +kernel) rfl⟩
theorem fj_J0_9 : Cond.fieldLink RJ0 9 "java/lang/String" "value" "[B" ∈ gt := gt_at 881 (by decide +kernel) rfl
theorem fj_J0_15 : Cond.fieldLink RJ0 15 "java/lang/String" "coder" "B" ∈ gt := gt_at 880 (by decide +kernel) rfl
theorem fj_J0_38 : Cond.fieldLink RJ0 38 "java/lang/String" "COMPACT_STRINGS" "Z" ∈ gt := gt_at 250 (by decide +kernel) rfl
theorem fj_J0_1053 : Cond.fieldLink RJ0 1053 "jdk/internal/util/Preconditions" "SIOOBE_FORMATTER" "Ljava/util/function/BiFunction;" ∈ gt := gt_at 293 (by decide +kernel) rfl
theorem ml_X6_1 : Cond.methodLink RX6 1 objectInit ∈ gt := gt_at 49 (by decide +kernel) rfl
theorem ml_X6_60 : Cond.methodLink RX6 60 yX3_append ∈ gt := gt_at 202 (by decide +kernel) rfl
theorem ml_X6_64 : Cond.methodLink RX6 64 yX3_size ∈ gt := gt_at 206 (by decide +kernel) rfl
theorem ml_X6_68 : Cond.methodLink RX6 68 yX3_clear ∈ gt := gt_at 214 (by decide +kernel) rfl
theorem ml_X6_71 : Cond.methodLink RX6 71 yX3_firstWrong ∈ gt := gt_at 222 (by decide +kernel) rfl
theorem ml_X6_74 : Cond.methodLink RX6 74 yX3_isWhole ∈ gt := gt_at 329 (by decide +kernel) rfl
theorem ml_X6_78 : Cond.methodLink RX6 78 yX5_begin ∈ gt := gt_at 334 (by decide +kernel) rfl
theorem ml_X6_85 : Cond.methodLink RX6 85 yX0_places ∈ gt := gt_at 365 (by decide +kernel) rfl
theorem ml_X6_88 : Cond.methodLink RX6 88 yX0_has ∈ gt := gt_at 373 (by decide +kernel) rfl
theorem ml_X6_91 : Cond.methodLink RX6 91 yX0_kindAt ∈ gt := gt_at 374 (by decide +kernel) rfl
theorem ml_X6_95 : Cond.methodLink RX6 95 yX2_onSpot ∈ gt := gt_at 378 (by decide +kernel) rfl
theorem ml_X6_104 : Cond.methodLink RX6 104 yX1_bestTry ∈ gt := gt_at 381 (by decide +kernel) rfl
theorem ml_X6_110 : Cond.methodLink RX6 110 yX2_growth ∈ gt := gt_at 404 (by decide +kernel) rfl
theorem ml_X6_114 : Cond.methodLink RX6 114 yX2_isKind ∈ gt := gt_at 409 (by decide +kernel) rfl
theorem ml_X6_117 : Cond.methodLink RX6 117 yX2_isA ∈ gt := gt_at 412 (by decide +kernel) rfl
theorem ml_X6_121 : Cond.methodLink RX6 121 yX0_put ∈ gt := gt_at 419 (by decide +kernel) rfl
theorem ml_X6_124 : Cond.methodLink RX6 124 yX6_hasYard ∈ gt := gt_at 424 (by decide +kernel) rfl
theorem ml_X6_127 : Cond.methodLink RX6 127 yX5_changeHeight ∈ gt := gt_at 428 (by decide +kernel) rfl
theorem ml_X6_130 : Cond.methodLink RX6 130 yX6_refusalOfStep ∈ gt := gt_at 436 (by decide +kernel) rfl
theorem ml_X6_133 : Cond.methodLink RX6 133 yX5_go ∈ gt := gt_at 440 (by decide +kernel) rfl
theorem ml_X6_139 : Cond.methodLink RX6 139 yX5_swayBy ∈ gt := gt_at 460 (by decide +kernel) rfl
theorem ml_X6_148 : Cond.methodLink RX6 148 yX4_fewest ∈ gt := gt_at 465 (by decide +kernel) rfl
theorem ml_X6_152 : Cond.methodLink RX6 152 yX4_farOfStep ∈ gt := gt_at 488 (by decide +kernel) rfl
theorem ml_X6_155 : Cond.methodLink RX6 155 yX6_greatestHeight ∈ gt := gt_at 496 (by decide +kernel) rfl
theorem ml_X6_158 : Cond.methodLink RX6 158 yX6_findMend ∈ gt := gt_at 504 (by decide +kernel) rfl
theorem ml_X6_161 : Cond.methodLink RX6 161 yX1_append ∈ gt := gt_at 517 (by decide +kernel) rfl
theorem ml_X6_164 : Cond.methodLink RX6 164 yX1_size ∈ gt := gt_at 521 (by decide +kernel) rfl
theorem ml_X6_165 : Cond.methodLink RX6 165 yX1_clear ∈ gt := gt_at 529 (by decide +kernel) rfl
theorem ml_X6_166 : Cond.methodLink RX6 166 yX1_heightBits ∈ gt := gt_at 534 (by decide +kernel) rfl
theorem ml_X6_170 : Cond.methodLink RX6 170 yX5_copyFrom ∈ gt := gt_at 539 (by decide +kernel) rfl
theorem ml_X6_174 : Cond.methodLink RX6 174 yX5_race ∈ gt := gt_at 549 (by decide +kernel) rfl
theorem ml_X6_183 : Cond.methodLink RX6 183 yX6_bearable ∈ gt := gt_at 572 (by decide +kernel) rfl
theorem ml_X6_186 : Cond.methodLink RX6 186 yX0_plainPlaces ∈ gt := gt_at 573 (by decide +kernel) rfl
theorem ml_X6_193 : Cond.methodLink RX6 193 yX6_about ∈ gt := gt_at 583 (by decide +kernel) rfl
theorem ml_X6_196 : Cond.methodLink RX6 196 yX6_would ∈ gt := gt_at 584 (by decide +kernel) rfl
theorem ml_X6_199 : Cond.methodLink RX6 199 yX6_heights ∈ gt := gt_at 585 (by decide +kernel) rfl
theorem ml_X6_202 : Cond.methodLink RX6 202 yX3_codeAt ∈ gt := gt_at 586 (by decide +kernel) rfl
theorem ml_X6_205 : Cond.methodLink RX6 205 yX6_count ∈ gt := gt_at 587 (by decide +kernel) rfl
theorem ml_X6_208 : Cond.methodLink RX6 208 yX0_copyFrom ∈ gt := gt_at 508 (by decide +kernel) rfl
theorem ml_X0_3 : Cond.methodLink RX0 3 objectInit ∈ gt := gt_at 77 (by decide +kernel) rfl
theorem ml_X0_19 : Cond.methodLink RX0 19 yX0_has ∈ gt := gt_at 349 (by decide +kernel) rfl
theorem ml_X0_25 : Cond.methodLink RX0 25 yX0_kindAt ∈ gt := gt_at 512 (by decide +kernel) rfl
theorem ml_X0_29 : Cond.methodLink RX0 29 yX3_placesAhead ∈ gt := gt_at 342 (by decide +kernel) rfl
theorem ml_X0_35 : Cond.methodLink RX0 35 yX3_codeAt ∈ gt := gt_at 343 (by decide +kernel) rfl
theorem ml_X0_38 : Cond.methodLink RX0 38 yX2_ofLetter ∈ gt := gt_at 344 (by decide +kernel) rfl
theorem ml_X0_41 : Cond.methodLink RX0 41 yX0_put ∈ gt := gt_at 345 (by decide +kernel) rfl
theorem ml_X1_3 : Cond.methodLink RX1 3 objectInit ∈ gt := gt_at 90 (by decide +kernel) rfl
theorem ml_X1_29 : Cond.methodLink RX1 29 yX1_append ∈ gt := gt_at 548 (by decide +kernel) rfl
theorem ml_X1_33 : Cond.methodLink RX1 33 yX1_allows ∈ gt := gt_at 389 (by decide +kernel) rfl
theorem ml_X1_37 : Cond.methodLink RX1 37 yX0_kindAt ∈ gt := gt_at 393 (by decide +kernel) rfl
theorem ml_X1_43 : Cond.methodLink RX1 43 yX2_growth ∈ gt := gt_at 394 (by decide +kernel) rfl
theorem ml_X1_52 : Cond.methodLink RX1 52 yX1_heightBits ∈ gt := gt_at 385 (by decide +kernel) rfl
theorem ml_X1_56 : Cond.methodLink RX1 56 yX1_leftAtWorst ∈ gt := gt_at 400 (by decide +kernel) rfl
theorem ml_X1_59 : Cond.methodLink RX1 59 yJ9_max_7cf53 ∈ gt := gt_at 403 (by decide +kernel) rfl
theorem ml_X2_11 : Cond.methodLink RX2 11 yJ0_indexOf_0f7a4 ∈ gt := gt_at 238 (by decide +kernel) rfl
theorem ml_X2_17 : Cond.methodLink RX2 17 yX2_onSpot ∈ gt := gt_at 452 (by decide +kernel) rfl
theorem ml_X2_20 : Cond.methodLink RX2 20 yJ9_max_7cf53 ∈ gt := gt_at 453 (by decide +kernel) rfl
theorem ml_X2_26 : Cond.methodLink RX2 26 yX2_growth ∈ gt := gt_at 454 (by decide +kernel) rfl
theorem ml_X3_3 : Cond.methodLink RX3 3 objectInit ∈ gt := gt_at 57 (by decide +kernel) rfl
theorem ml_X3_19 : Cond.methodLink RX3 19 yX3_codeAt ∈ gt := gt_at 230 (by decide +kernel) rfl
theorem ml_X3_23 : Cond.methodLink RX3 23 yX2_ofLetter ∈ gt := gt_at 234 (by decide +kernel) rfl
theorem ml_X3_28 : Cond.methodLink RX3 28 yX3_placesAhead ∈ gt := gt_at 226 (by decide +kernel) rfl
theorem ml_X3_32 : Cond.methodLink RX3 32 yX3_firstWrong ∈ gt := gt_at 333 (by decide +kernel) rfl
theorem ml_X4_3 : Cond.methodLink RX4 3 objectInit ∈ gt := gt_at 144 (by decide +kernel) rfl
theorem ml_X4_31 : Cond.methodLink RX4 31 yX0_places ∈ gt := gt_at 469 (by decide +kernel) rfl
theorem ml_X4_37 : Cond.methodLink RX4 37 yX4_reach ∈ gt := gt_at 470 (by decide +kernel) rfl
theorem ml_X4_45 : Cond.methodLink RX4 45 yX4_goOn ∈ gt := gt_at 482 (by decide +kernel) rfl
theorem ml_X4_49 : Cond.methodLink RX4 49 yX4_stepsOf ∈ gt := gt_at 477 (by decide +kernel) rfl
theorem ml_X4_52 : Cond.methodLink RX4 52 yX4_isSpot ∈ gt := gt_at 474 (by decide +kernel) rfl
theorem ml_X4_56 : Cond.methodLink RX4 56 yX0_kindAt ∈ gt := gt_at 486 (by decide +kernel) rfl
theorem ml_X4_59 : Cond.methodLink RX4 59 yX2_swayAfter ∈ gt := gt_at 487 (by decide +kernel) rfl
theorem ml_X5_1 : Cond.methodLink RX5 1 objectInit ∈ gt := gt_at 71 (by decide +kernel) rfl
theorem ml_X5_39 : Cond.methodLink RX5 39 yX0_read ∈ gt := gt_at 338 (by decide +kernel) rfl
theorem ml_X5_43 : Cond.methodLink RX5 43 yX1_clear ∈ gt := gt_at 353 (by decide +kernel) rfl
theorem ml_X5_47 : Cond.methodLink RX5 47 yX3_height ∈ gt := gt_at 357 (by decide +kernel) rfl
theorem ml_X5_51 : Cond.methodLink RX5 51 yX5_backToStart ∈ gt := gt_at 361 (by decide +kernel) rfl
theorem ml_X5_54 : Cond.methodLink RX5 54 yX0_copyFrom ∈ gt := gt_at 543 (by decide +kernel) rfl
theorem ml_X5_58 : Cond.methodLink RX5 58 yX1_copyFrom ∈ gt := gt_at 544 (by decide +kernel) rfl
theorem ml_X5_61 : Cond.methodLink RX5 61 yX0_kindAt ∈ gt := gt_at 448 (by decide +kernel) rfl
theorem ml_X5_65 : Cond.methodLink RX5 65 yX2_swayAfter ∈ gt := gt_at 449 (by decide +kernel) rfl
theorem ml_X5_71 : Cond.methodLink RX5 71 yX5_swayBy ∈ gt := gt_at 444 (by decide +kernel) rfl
theorem ml_X5_87 : Cond.methodLink RX5 87 yX0_places ∈ gt := gt_at 557 (by decide +kernel) rfl
theorem ml_X5_90 : Cond.methodLink RX5 90 yJ9_min_7cf53 ∈ gt := gt_at 558 (by decide +kernel) rfl
theorem ml_X5_96 : Cond.methodLink RX5 96 yX5_go ∈ gt := gt_at 559 (by decide +kernel) rfl
theorem ml_L_9 : Cond.methodLink RL 9 yX6_init ∈ gt := gt_at 46 (by decide +kernel) rfl
theorem ml_L_12 : Cond.methodLink RL 12 yX7_init ∈ gt := gt_at 590 (by decide +kernel) rfl
theorem ml_L_13 : Cond.methodLink RL 13 yX6_letter ∈ gt := gt_at 198 (by decide +kernel) rfl
theorem ml_L_17 : Cond.methodLink RL 17 yX7_letter ∈ gt := gt_at 697 (by decide +kernel) rfl
theorem ml_L_18 : Cond.methodLink RL 18 yX6_blank ∈ gt := gt_at 210 (by decide +kernel) rfl
theorem ml_L_22 : Cond.methodLink RL 22 yX7_blank ∈ gt := gt_at 704 (by decide +kernel) rfl
theorem ml_L_23 : Cond.methodLink RL 23 yX6_fault ∈ gt := gt_at 218 (by decide +kernel) rfl
theorem ml_L_26 : Cond.methodLink RL 26 yX7_fault ∈ gt := gt_at 708 (by decide +kernel) rfl
theorem ml_L_27 : Cond.methodLink RL 27 yX6_yard ∈ gt := gt_at 325 (by decide +kernel) rfl
theorem ml_L_30 : Cond.methodLink RL 30 yX7_yard ∈ gt := gt_at 723 (by decide +kernel) rfl
theorem ml_L_31 : Cond.methodLink RL 31 yX6_about ∈ gt := gt_at 369 (by decide +kernel) rfl
theorem ml_L_35 : Cond.methodLink RL 35 yX7_about ∈ gt := gt_at 727 (by decide +kernel) rfl
theorem ml_L_36 : Cond.methodLink RL 36 yX6_as ∈ gt := gt_at 405 (by decide +kernel) rfl
theorem ml_L_39 : Cond.methodLink RL 39 yX7_as ∈ gt := gt_at 758 (by decide +kernel) rfl
theorem ml_L_40 : Cond.methodLink RL 40 yX6_lay ∈ gt := gt_at 415 (by decide +kernel) rfl
theorem ml_L_43 : Cond.methodLink RL 43 yX7_lay ∈ gt := gt_at 762 (by decide +kernel) rfl
theorem ml_L_44 : Cond.methodLink RL 44 yX6_blocks ∈ gt := gt_at 420 (by decide +kernel) rfl
theorem ml_L_47 : Cond.methodLink RL 47 yX7_blocks ∈ gt := gt_at 766 (by decide +kernel) rfl
theorem ml_L_48 : Cond.methodLink RL 48 yX6_step ∈ gt := gt_at 432 (by decide +kernel) rfl
theorem ml_L_51 : Cond.methodLink RL 51 yX7_step ∈ gt := gt_at 770 (by decide +kernel) rfl
theorem ml_L_52 : Cond.methodLink RL 52 yX6_would ∈ gt := gt_at 456 (by decide +kernel) rfl
theorem ml_L_55 : Cond.methodLink RL 55 yX7_would ∈ gt := gt_at 778 (by decide +kernel) rfl
theorem ml_L_56 : Cond.methodLink RL 56 yX6_quick ∈ gt := gt_at 461 (by decide +kernel) rfl
theorem ml_L_59 : Cond.methodLink RL 59 yX7_quick ∈ gt := gt_at 782 (by decide +kernel) rfl
theorem ml_L_60 : Cond.methodLink RL 60 yX6_high ∈ gt := gt_at 492 (by decide +kernel) rfl
theorem ml_L_63 : Cond.methodLink RL 63 yX7_high ∈ gt := gt_at 802 (by decide +kernel) rfl
theorem ml_L_64 : Cond.methodLink RL 64 yX6_mend ∈ gt := gt_at 500 (by decide +kernel) rfl
theorem ml_L_67 : Cond.methodLink RL 67 yX7_mend ∈ gt := gt_at 814 (by decide +kernel) rfl
theorem ml_L_68 : Cond.methodLink RL 68 yX6_hear ∈ gt := gt_at 513 (by decide +kernel) rfl
theorem ml_L_72 : Cond.methodLink RL 72 yX7_hear ∈ gt := gt_at 822 (by decide +kernel) rfl
theorem ml_L_73 : Cond.methodLink RL 73 yX6_forget ∈ gt := gt_at 525 (by decide +kernel) rfl
theorem ml_L_76 : Cond.methodLink RL 76 yX7_forget ∈ gt := gt_at 826 (by decide +kernel) rfl
theorem ml_L_77 : Cond.methodLink RL 77 yX6_heights ∈ gt := gt_at 530 (by decide +kernel) rfl
theorem ml_L_80 : Cond.methodLink RL 80 yX7_heights ∈ gt := gt_at 830 (by decide +kernel) rfl
theorem ml_L_81 : Cond.methodLink RL 81 yX6_races ∈ gt := gt_at 535 (by decide +kernel) rfl
theorem ml_L_85 : Cond.methodLink RL 85 yX7_races ∈ gt := gt_at 834 (by decide +kernel) rfl
theorem ml_L_86 : Cond.methodLink RL 86 yX6_image ∈ gt := gt_at 560 (by decide +kernel) rfl
theorem ml_L_89 : Cond.methodLink RL 89 yX7_image ∈ gt := gt_at 850 (by decide +kernel) rfl
theorem ml_L_90 : Cond.methodLink RL 90 yX6_restore ∈ gt := gt_at 564 (by decide +kernel) rfl
theorem ml_L_93 : Cond.methodLink RL 93 yX7_restore ∈ gt := gt_at 854 (by decide +kernel) rfl
theorem ml_L_94 : Cond.methodLink RL 94 yX6_count ∈ gt := gt_at 568 (by decide +kernel) rfl
theorem ml_L_97 : Cond.methodLink RL 97 yX7_count ∈ gt := gt_at 858 (by decide +kernel) rfl
theorem ml_L_98 : Cond.methodLink RL 98 yX6_digest ∈ gt := gt_at 577 (by decide +kernel) rfl
theorem ml_L_102 : Cond.methodLink RL 102 yX7_digest ∈ gt := gt_at 870 (by decide +kernel) rfl
theorem ml_X7_1 : Cond.methodLink RX7 1 objectInit ∈ gt := gt_at 593 (by decide +kernel) rfl
theorem ml_X7_47 : Cond.methodLink RX7 47 yX7_within ∈ gt := gt_at 701 (by decide +kernel) rfl
theorem ml_X7_59 : Cond.methodLink RX7 59 yX7_at ∈ gt := gt_at 716 (by decide +kernel) rfl
theorem ml_X7_63 : Cond.methodLink RX7 63 yX7_kindBy ∈ gt := gt_at 720 (by decide +kernel) rfl
theorem ml_X7_69 : Cond.methodLink RX7 69 yX7_read ∈ gt := gt_at 712 (by decide +kernel) rfl
theorem ml_X7_97 : Cond.methodLink RX7 97 yX7_swayBy ∈ gt := gt_at 739 (by decide +kernel) rfl
theorem ml_X7_101 : Cond.methodLink RX7 101 yX7_tryAt ∈ gt := gt_at 743 (by decide +kernel) rfl
theorem ml_X7_104 : Cond.methodLink RX7 104 yX7_isPlace ∈ gt := gt_at 731 (by decide +kernel) rfl
theorem ml_X7_108 : Cond.methodLink RX7 108 yX7_placeNow ∈ gt := gt_at 735 (by decide +kernel) rfl
theorem ml_X7_112 : Cond.methodLink RX7 112 yX7_bears ∈ gt := gt_at 751 (by decide +kernel) rfl
theorem ml_X7_115 : Cond.methodLink RX7 115 yX7_goes ∈ gt := gt_at 774 (by decide +kernel) rfl
theorem ml_X7_119 : Cond.methodLink RX7 119 yX7_fewBy ∈ gt := gt_at 798 (by decide +kernel) rfl
theorem ml_X7_123 : Cond.methodLink RX7 123 yX7_isShorter ∈ gt := gt_at 794 (by decide +kernel) rfl
theorem ml_X7_126 : Cond.methodLink RX7 126 yX7_layFew ∈ gt := gt_at 790 (by decide +kernel) rfl
theorem ml_X7_133 : Cond.methodLink RX7 133 yX7_quickNow ∈ gt := gt_at 786 (by decide +kernel) rfl
theorem ml_X7_136 : Cond.methodLink RX7 136 yX7_fewWith ∈ gt := gt_at 810 (by decide +kernel) rfl
theorem ml_X7_139 : Cond.methodLink RX7 139 yX7_highNow ∈ gt := gt_at 806 (by decide +kernel) rfl
theorem ml_X7_142 : Cond.methodLink RX7 142 yX7_mendNow ∈ gt := gt_at 818 (by decide +kernel) rfl
theorem ml_X7_145 : Cond.methodLink RX7 145 yX7_heightsNow ∈ gt := gt_at 747 (by decide +kernel) rfl
theorem ml_X7_148 : Cond.methodLink RX7 148 yX7_isIn ∈ gt := gt_at 755 (by decide +kernel) rfl
theorem ml_X7_164 : Cond.methodLink RX7 164 yX7_draw ∈ gt := gt_at 842 (by decide +kernel) rfl
theorem ml_X7_167 : Cond.methodLink RX7 167 yX7_racesNow ∈ gt := gt_at 838 (by decide +kernel) rfl
theorem ml_X7_194 : Cond.methodLink RX7 194 yX7_plain ∈ gt := gt_at 866 (by decide +kernel) rfl
theorem ml_X7_197 : Cond.methodLink RX7 197 yX7_howMany ∈ gt := gt_at 862 (by decide +kernel) rfl
theorem ml_X7_207 : Cond.methodLink RX7 207 yX7_mix ∈ gt := gt_at 875 (by decide +kernel) rfl
theorem ml_J0_335 : Cond.methodLink RJ0 335 yJ0_coder_7d493 ∈ gt := gt_at 256 (by decide +kernel) rfl
theorem ml_J0_492 : Cond.methodLink RJ0 492 yJ0_isLatin1_aae02 ∈ gt := gt_at 246 (by decide +kernel) rfl
theorem ml_J0_505 : Cond.methodLink RJ0 505 yJ0_length_8abf5 ∈ gt := gt_at 252 (by decide +kernel) rfl
theorem ml_J0_633 : Cond.methodLink RJ0 633 yJ0_indexOf_7cf53 ∈ gt := gt_at 242 (by decide +kernel) rfl
theorem ml_J0_637 : Cond.methodLink RJ0 637 yJ1_indexOf_4cfef ∈ gt := gt_at 260 (by decide +kernel) rfl
theorem ml_J0_640 : Cond.methodLink RJ0 640 yJ2_indexOf_4cfef ∈ gt := gt_at 275 (by decide +kernel) rfl
theorem ml_J0_1062 : Cond.methodLink RJ0 1062 yJ3_checkFromToIndex_8c36e ∈ gt := gt_at 295 (by decide +kernel) rfl
theorem ml_J1_38 : Cond.methodLink RJ1 38 yJ9_min_7cf53 ∈ gt := gt_at 269 (by decide +kernel) rfl
theorem ml_J1_88 : Cond.methodLink RJ1 88 yJ1_canEncode_9a6ad ∈ gt := gt_at 263 (by decide +kernel) rfl
theorem ml_J1_92 : Cond.methodLink RJ1 92 yJ9_max_7cf53 ∈ gt := gt_at 266 (by decide +kernel) rfl
theorem ml_J1_95 : Cond.methodLink RJ1 95 yJ1_indexOfChar_4cfef ∈ gt := gt_at 272 (by decide +kernel) rfl
theorem ml_J2_48 : Cond.methodLink RJ2 48 yJ2_length_9d52b ∈ gt := gt_at 287 (by decide +kernel) rfl
theorem ml_J2_71 : Cond.methodLink RJ2 71 yJ2_getChar_3b067 ∈ gt := gt_at 301 (by decide +kernel) rfl
theorem ml_J2_96 : Cond.methodLink RJ2 96 yJ2_checkBoundsBeginEnd_d044e ∈ gt := gt_at 284 (by decide +kernel) rfl
theorem ml_J2_157 : Cond.methodLink RJ2 157 yJ11_highSurrogate_5068e ∈ gt := gt_at 316 (by decide +kernel) rfl
theorem ml_J2_161 : Cond.methodLink RJ2 161 yJ11_lowSurrogate_5068e ∈ gt := gt_at 320 (by decide +kernel) rfl
theorem ml_J2_164 : Cond.methodLink RJ2 164 yJ11_isValidCodePoint_9a6ad ∈ gt := gt_at 313 (by decide +kernel) rfl
theorem ml_J2_183 : Cond.methodLink RJ2 183 yJ9_min_7cf53 ∈ gt := gt_at 279 (by decide +kernel) rfl
theorem ml_J2_224 : Cond.methodLink RJ2 224 yJ9_max_7cf53 ∈ gt := gt_at 278 (by decide +kernel) rfl
theorem ml_J2_228 : Cond.methodLink RJ2 228 yJ2_indexOfChar_4cfef ∈ gt := gt_at 281 (by decide +kernel) rfl
theorem ml_J2_232 : Cond.methodLink RJ2 232 yJ2_indexOfSupplementary_4cfef ∈ gt := gt_at 310 (by decide +kernel) rfl
theorem ml_J2_241 : Cond.methodLink RJ2 241 yJ0_checkBoundsBeginEnd_23922 ∈ gt := gt_at 290 (by decide +kernel) rfl
theorem ml_J2_244 : Cond.methodLink RJ2 244 yJ2_indexOfCharUnsafe_4cfef ∈ gt := gt_at 298 (by decide +kernel) rfl
theorem mn_X6_9 : (RX6, 9, yX3_init, "StiltYard") ∈ nwT := by decide +kernel
theorem mn_X6_18 : (RX6, 18, yX5_init, "StiltYard") ∈ nwT := by decide +kernel
theorem mn_X6_31 : (RX6, 31, yX0_init, "StiltYard") ∈ nwT := by decide +kernel
theorem mn_X6_38 : (RX6, 38, yX4_init, "StiltYard") ∈ nwT := by decide +kernel
theorem mn_X1_49 : (RX1, 49, yX6_bearable, "StiltYard") ∈ nwT := by decide +kernel
theorem mn_X4_41 : (RX4, 41, yX6_bearable, "StiltYard") ∈ nwT := by decide +kernel
theorem mn_X5_9 : (RX5, 9, yX0_init, "StiltYard") ∈ nwT := by decide +kernel
theorem mn_X5_18 : (RX5, 18, yX1_init, "StiltYard") ∈ nwT := by decide +kernel
theorem mn_X5_74 : (RX5, 74, yX6_bearable, "StiltYard") ∈ nwT := by decide +kernel
theorem mw_X6_init : MI yX6_init cX6_init 1 0 := ⟨⟨gt_at 48 (by decide +kernel) rfl, gt_at 30 (by decide +kernel) rfl, ⟨by decide +kernel, by decide +kernel, by decide +kernel⟩, by decide⟩, rfl, gt_at 47 (by decide +kernel) rfl⟩
theorem pn_X6_init : plainName yX6_init.cls = true := by decide +kernel
theorem mw_X6_about : MV yX6_about cX6_about 4 (some .int) 2 := ⟨⟨gt_at 372 (by decide +kernel) rfl, gt_at 30 (by decide +kernel) rfl, ⟨by decide +kernel, by decide +kernel, by decide +kernel⟩, by decide⟩, gt_at 370 (by decide +kernel) rfl, gt_at 371 (by decide +kernel) rfl⟩
theorem pn_X6_about : plainName yX6_about.cls = true := by decide +kernel
theorem mw_X6_as : MV yX6_as cX6_as 3 (some .int) 2 := ⟨⟨gt_at 408 (by decide +kernel) rfl, gt_at 30 (by decide +kernel) rfl, ⟨by decide +kernel, by decide +kernel, by decide +kernel⟩, by decide⟩, gt_at 406 (by decide +kernel) rfl, gt_at 407 (by decide +kernel) rfl⟩
theorem pn_X6_as : plainName yX6_as.cls = true := by decide +kernel
theorem mw_X6_bearable : MS yX6_bearable cX6_bearable 1 (some .int) 1 := ⟨⟨gt_at 399 (by decide +kernel) rfl, gt_at 30 (by decide +kernel) rfl, ⟨by decide +kernel, by decide +kernel, by decide +kernel⟩, by decide⟩, gt_at 398 (by decide +kernel) rfl⟩
theorem pn_X6_bearable : plainName yX6_bearable.cls = true := by decide +kernel
theorem mw_X6_blank : MV yX6_blank cX6_blank 1 (some .int) 0 := ⟨⟨gt_at 213 (by decide +kernel) rfl, gt_at 30 (by decide +kernel) rfl, ⟨by decide +kernel, by decide +kernel, by decide +kernel⟩, by decide⟩, gt_at 211 (by decide +kernel) rfl, gt_at 212 (by decide +kernel) rfl⟩
theorem pn_X6_blank : plainName yX6_blank.cls = true := by decide +kernel
theorem mw_X6_blocks : MV yX6_blocks cX6_blocks 2 (some .int) 1 := ⟨⟨gt_at 423 (by decide +kernel) rfl, gt_at 30 (by decide +kernel) rfl, ⟨by decide +kernel, by decide +kernel, by decide +kernel⟩, by decide⟩, gt_at 421 (by decide +kernel) rfl, gt_at 422 (by decide +kernel) rfl⟩
theorem pn_X6_blocks : plainName yX6_blocks.cls = true := by decide +kernel
theorem mw_X6_count : MV yX6_count cX6_count 2 (some .int) 1 := ⟨⟨gt_at 571 (by decide +kernel) rfl, gt_at 30 (by decide +kernel) rfl, ⟨by decide +kernel, by decide +kernel, by decide +kernel⟩, by decide⟩, gt_at 569 (by decide +kernel) rfl, gt_at 570 (by decide +kernel) rfl⟩
theorem pn_X6_count : plainName yX6_count.cls = true := by decide +kernel
theorem mw_X6_digest : MV yX6_digest cX6_digest 5 (some .long) 0 := ⟨⟨gt_at 580 (by decide +kernel) rfl, gt_at 30 (by decide +kernel) rfl, ⟨by decide +kernel, by decide +kernel, by decide +kernel⟩, by decide⟩, gt_at 578 (by decide +kernel) rfl, gt_at 579 (by decide +kernel) rfl⟩
theorem pn_X6_digest : plainName yX6_digest.cls = true := by decide +kernel
theorem mw_X6_fault : MV yX6_fault cX6_fault 1 (some .int) 0 := ⟨⟨gt_at 221 (by decide +kernel) rfl, gt_at 30 (by decide +kernel) rfl, ⟨by decide +kernel, by decide +kernel, by decide +kernel⟩, by decide⟩, gt_at 219 (by decide +kernel) rfl, gt_at 220 (by decide +kernel) rfl⟩
theorem pn_X6_fault : plainName yX6_fault.cls = true := by decide +kernel
theorem mw_X6_findMend : MV yX6_findMend cX6_findMend 5 none 0 := ⟨⟨gt_at 507 (by decide +kernel) rfl, gt_at 30 (by decide +kernel) rfl, ⟨by decide +kernel, by decide +kernel, by decide +kernel⟩, by decide⟩, gt_at 506 (by decide +kernel) rfl, gt_at 8 (by decide +kernel) rfl⟩
theorem pn_X6_findMend : plainName yX6_findMend.cls = true := by decide +kernel
theorem mw_X6_forget : MV yX6_forget cX6_forget 1 (some .int) 0 := ⟨⟨gt_at 528 (by decide +kernel) rfl, gt_at 30 (by decide +kernel) rfl, ⟨by decide +kernel, by decide +kernel, by decide +kernel⟩, by decide⟩, gt_at 526 (by decide +kernel) rfl, gt_at 527 (by decide +kernel) rfl⟩
theorem pn_X6_forget : plainName yX6_forget.cls = true := by decide +kernel
theorem mw_X6_greatestHeight : MV yX6_greatestHeight cX6_greatestHeight 2 (some .int) 0 := ⟨⟨gt_at 499 (by decide +kernel) rfl, gt_at 30 (by decide +kernel) rfl, ⟨by decide +kernel, by decide +kernel, by decide +kernel⟩, by decide⟩, gt_at 498 (by decide +kernel) rfl, gt_at 7 (by decide +kernel) rfl⟩
theorem pn_X6_greatestHeight : plainName yX6_greatestHeight.cls = true := by decide +kernel
theorem mw_X6_hasYard : MV yX6_hasYard cX6_hasYard 1 (some .boolean) 0 := ⟨⟨gt_at 427 (by decide +kernel) rfl, gt_at 30 (by decide +kernel) rfl, ⟨by decide +kernel, by decide +kernel, by decide +kernel⟩, by decide⟩, gt_at 426 (by decide +kernel) rfl, gt_at 2 (by decide +kernel) rfl⟩
theorem pn_X6_hasYard : plainName yX6_hasYard.cls = true := by decide +kernel
theorem mw_X6_hear : MV yX6_hear cX6_hear 5 (some .int) 4 := ⟨⟨gt_at 516 (by decide +kernel) rfl, gt_at 30 (by decide +kernel) rfl, ⟨by decide +kernel, by decide +kernel, by decide +kernel⟩, by decide⟩, gt_at 514 (by decide +kernel) rfl, gt_at 515 (by decide +kernel) rfl⟩
theorem pn_X6_hear : plainName yX6_hear.cls = true := by decide +kernel
theorem mw_X6_heights : MV yX6_heights cX6_heights 1 (some .int) 0 := ⟨⟨gt_at 533 (by decide +kernel) rfl, gt_at 30 (by decide +kernel) rfl, ⟨by decide +kernel, by decide +kernel, by decide +kernel⟩, by decide⟩, gt_at 531 (by decide +kernel) rfl, gt_at 532 (by decide +kernel) rfl⟩
theorem pn_X6_heights : plainName yX6_heights.cls = true := by decide +kernel
theorem mw_X6_high : MV yX6_high cX6_high 1 (some .int) 0 := ⟨⟨gt_at 495 (by decide +kernel) rfl, gt_at 30 (by decide +kernel) rfl, ⟨by decide +kernel, by decide +kernel, by decide +kernel⟩, by decide⟩, gt_at 493 (by decide +kernel) rfl, gt_at 494 (by decide +kernel) rfl⟩
theorem pn_X6_high : plainName yX6_high.cls = true := by decide +kernel
theorem mw_X6_image : MV yX6_image cX6_image 1 (some .int) 0 := ⟨⟨gt_at 563 (by decide +kernel) rfl, gt_at 30 (by decide +kernel) rfl, ⟨by decide +kernel, by decide +kernel, by decide +kernel⟩, by decide⟩, gt_at 561 (by decide +kernel) rfl, gt_at 562 (by decide +kernel) rfl⟩
theorem pn_X6_image : plainName yX6_image.cls = true := by decide +kernel
theorem mw_X6_lay : MV yX6_lay cX6_lay 3 (some .int) 2 := ⟨⟨gt_at 418 (by decide +kernel) rfl, gt_at 30 (by decide +kernel) rfl, ⟨by decide +kernel, by decide +kernel, by decide +kernel⟩, by decide⟩, gt_at 416 (by decide +kernel) rfl, gt_at 417 (by decide +kernel) rfl⟩
theorem pn_X6_lay : plainName yX6_lay.cls = true := by decide +kernel
theorem mw_X6_letter : MV yX6_letter cX6_letter 2 (some .int) 1 := ⟨⟨gt_at 201 (by decide +kernel) rfl, gt_at 30 (by decide +kernel) rfl, ⟨by decide +kernel, by decide +kernel, by decide +kernel⟩, by decide⟩, gt_at 199 (by decide +kernel) rfl, gt_at 200 (by decide +kernel) rfl⟩
theorem pn_X6_letter : plainName yX6_letter.cls = true := by decide +kernel
theorem mw_X6_mend : MV yX6_mend cX6_mend 2 (some .int) 1 := ⟨⟨gt_at 503 (by decide +kernel) rfl, gt_at 30 (by decide +kernel) rfl, ⟨by decide +kernel, by decide +kernel, by decide +kernel⟩, by decide⟩, gt_at 501 (by decide +kernel) rfl, gt_at 502 (by decide +kernel) rfl⟩
theorem pn_X6_mend : plainName yX6_mend.cls = true := by decide +kernel
theorem mw_X6_quick : MV yX6_quick cX6_quick 3 (some .int) 1 := ⟨⟨gt_at 464 (by decide +kernel) rfl, gt_at 30 (by decide +kernel) rfl, ⟨by decide +kernel, by decide +kernel, by decide +kernel⟩, by decide⟩, gt_at 462 (by decide +kernel) rfl, gt_at 463 (by decide +kernel) rfl⟩
theorem pn_X6_quick : plainName yX6_quick.cls = true := by decide +kernel
theorem mw_X6_races : MV yX6_races cX6_races 5 (some .int) 3 := ⟨⟨gt_at 538 (by decide +kernel) rfl, gt_at 30 (by decide +kernel) rfl, ⟨by decide +kernel, by decide +kernel, by decide +kernel⟩, by decide⟩, gt_at 536 (by decide +kernel) rfl, gt_at 537 (by decide +kernel) rfl⟩
theorem pn_X6_races : plainName yX6_races.cls = true := by decide +kernel
theorem mw_X6_refusalOfStep : MV yX6_refusalOfStep cX6_refusalOfStep 2 (some .int) 1 := ⟨⟨gt_at 439 (by decide +kernel) rfl, gt_at 30 (by decide +kernel) rfl, ⟨by decide +kernel, by decide +kernel, by decide +kernel⟩, by decide⟩, gt_at 438 (by decide +kernel) rfl, gt_at 3 (by decide +kernel) rfl⟩
theorem pn_X6_refusalOfStep : plainName yX6_refusalOfStep.cls = true := by decide +kernel
theorem mw_X6_restore : MV yX6_restore cX6_restore 1 (some .int) 0 := ⟨⟨gt_at 567 (by decide +kernel) rfl, gt_at 30 (by decide +kernel) rfl, ⟨by decide +kernel, by decide +kernel, by decide +kernel⟩, by decide⟩, gt_at 565 (by decide +kernel) rfl, gt_at 566 (by decide +kernel) rfl⟩
theorem pn_X6_restore : plainName yX6_restore.cls = true := by decide +kernel
theorem mw_X6_step : MV yX6_step cX6_step 3 (some .int) 1 := ⟨⟨gt_at 435 (by decide +kernel) rfl, gt_at 30 (by decide +kernel) rfl, ⟨by decide +kernel, by decide +kernel, by decide +kernel⟩, by decide⟩, gt_at 433 (by decide +kernel) rfl, gt_at 434 (by decide +kernel) rfl⟩
theorem pn_X6_step : plainName yX6_step.cls = true := by decide +kernel
theorem mw_X6_would : MV yX6_would cX6_would 3 (some .int) 1 := ⟨⟨gt_at 459 (by decide +kernel) rfl, gt_at 30 (by decide +kernel) rfl, ⟨by decide +kernel, by decide +kernel, by decide +kernel⟩, by decide⟩, gt_at 457 (by decide +kernel) rfl, gt_at 458 (by decide +kernel) rfl⟩
theorem pn_X6_would : plainName yX6_would.cls = true := by decide +kernel
theorem mw_X6_yard : MV yX6_yard cX6_yard 1 (some .int) 0 := ⟨⟨gt_at 328 (by decide +kernel) rfl, gt_at 30 (by decide +kernel) rfl, ⟨by decide +kernel, by decide +kernel, by decide +kernel⟩, by decide⟩, gt_at 326 (by decide +kernel) rfl, gt_at 327 (by decide +kernel) rfl⟩
theorem pn_X6_yard : plainName yX6_yard.cls = true := by decide +kernel
theorem mw_X0_init : MI yX0_init cX0_init 1 0 := ⟨⟨gt_at 76 (by decide +kernel) rfl, gt_at 33 (by decide +kernel) rfl, ⟨by decide +kernel, by decide +kernel, by decide +kernel⟩, by decide⟩, rfl, gt_at 75 (by decide +kernel) rfl⟩
theorem pn_X0_init : plainName yX0_init.cls = true := by decide +kernel
theorem mw_X0_copyFrom : MV yX0_copyFrom cX0_copyFrom 3 none 1 := ⟨⟨gt_at 511 (by decide +kernel) rfl, gt_at 33 (by decide +kernel) rfl, ⟨by decide +kernel, by decide +kernel, by decide +kernel⟩, by decide⟩, gt_at 509 (by decide +kernel) rfl, gt_at 510 (by decide +kernel) rfl⟩
theorem pn_X0_copyFrom : plainName yX0_copyFrom.cls = true := by decide +kernel
theorem mw_X0_has : MV yX0_has cX0_has 2 (some .boolean) 1 := ⟨⟨gt_at 352 (by decide +kernel) rfl, gt_at 33 (by decide +kernel) rfl, ⟨by decide +kernel, by decide +kernel, by decide +kernel⟩, by decide⟩, gt_at 350 (by decide +kernel) rfl, gt_at 351 (by decide +kernel) rfl⟩
theorem pn_X0_has : plainName yX0_has.cls = true := by decide +kernel
theorem mw_X0_kindAt : MV yX0_kindAt cX0_kindAt 2 (some .int) 1 := ⟨⟨gt_at 377 (by decide +kernel) rfl, gt_at 33 (by decide +kernel) rfl, ⟨by decide +kernel, by decide +kernel, by decide +kernel⟩, by decide⟩, gt_at 375 (by decide +kernel) rfl, gt_at 376 (by decide +kernel) rfl⟩
theorem pn_X0_kindAt : plainName yX0_kindAt.cls = true := by decide +kernel
theorem mw_X0_places : MV yX0_places cX0_places 1 (some .int) 0 := ⟨⟨gt_at 368 (by decide +kernel) rfl, gt_at 33 (by decide +kernel) rfl, ⟨by decide +kernel, by decide +kernel, by decide +kernel⟩, by decide⟩, gt_at 366 (by decide +kernel) rfl, gt_at 367 (by decide +kernel) rfl⟩
theorem pn_X0_places : plainName yX0_places.cls = true := by decide +kernel
theorem mw_X0_plainPlaces : MV yX0_plainPlaces cX0_plainPlaces 3 (some .int) 0 := ⟨⟨gt_at 576 (by decide +kernel) rfl, gt_at 33 (by decide +kernel) rfl, ⟨by decide +kernel, by decide +kernel, by decide +kernel⟩, by decide⟩, gt_at 574 (by decide +kernel) rfl, gt_at 575 (by decide +kernel) rfl⟩
theorem pn_X0_plainPlaces : plainName yX0_plainPlaces.cls = true := by decide +kernel
theorem mw_X0_put : MV yX0_put cX0_put 4 (some .int) 2 := ⟨⟨gt_at 348 (by decide +kernel) rfl, gt_at 33 (by decide +kernel) rfl, ⟨by decide +kernel, by decide +kernel, by decide +kernel⟩, by decide⟩, gt_at 346 (by decide +kernel) rfl, gt_at 347 (by decide +kernel) rfl⟩
theorem pn_X0_put : plainName yX0_put.cls = true := by decide +kernel
theorem mw_X0_read : MV yX0_read cX0_read 3 none 1 := ⟨⟨gt_at 341 (by decide +kernel) rfl, gt_at 33 (by decide +kernel) rfl, ⟨by decide +kernel, by decide +kernel, by decide +kernel⟩, by decide⟩, gt_at 339 (by decide +kernel) rfl, gt_at 340 (by decide +kernel) rfl⟩
theorem pn_X0_read : plainName yX0_read.cls = true := by decide +kernel
theorem mw_X1_init : MI yX1_init cX1_init 1 0 := ⟨⟨gt_at 89 (by decide +kernel) rfl, gt_at 34 (by decide +kernel) rfl, ⟨by decide +kernel, by decide +kernel, by decide +kernel⟩, by decide⟩, rfl, gt_at 88 (by decide +kernel) rfl⟩
theorem pn_X1_init : plainName yX1_init.cls = true := by decide +kernel
theorem mw_X1_allows : MV yX1_allows cX1_allows 5 (some .boolean) 2 := ⟨⟨gt_at 392 (by decide +kernel) rfl, gt_at 34 (by decide +kernel) rfl, ⟨by decide +kernel, by decide +kernel, by decide +kernel⟩, by decide⟩, gt_at 391 (by decide +kernel) rfl, gt_at 1 (by decide +kernel) rfl⟩
theorem pn_X1_allows : plainName yX1_allows.cls = true := by decide +kernel
theorem mw_X1_append : MV yX1_append cX1_append 5 (some .boolean) 4 := ⟨⟨gt_at 520 (by decide +kernel) rfl, gt_at 34 (by decide +kernel) rfl, ⟨by decide +kernel, by decide +kernel, by decide +kernel⟩, by decide⟩, gt_at 518 (by decide +kernel) rfl, gt_at 519 (by decide +kernel) rfl⟩
theorem pn_X1_append : plainName yX1_append.cls = true := by decide +kernel
theorem mw_X1_bestTry : MV yX1_bestTry cX1_bestTry 9 (some .int) 2 := ⟨⟨gt_at 384 (by decide +kernel) rfl, gt_at 34 (by decide +kernel) rfl, ⟨by decide +kernel, by decide +kernel, by decide +kernel⟩, by decide⟩, gt_at 382 (by decide +kernel) rfl, gt_at 383 (by decide +kernel) rfl⟩
theorem pn_X1_bestTry : plainName yX1_bestTry.cls = true := by decide +kernel
theorem mw_X1_clear : MV yX1_clear cX1_clear 2 (some .int) 0 := ⟨⟨gt_at 356 (by decide +kernel) rfl, gt_at 34 (by decide +kernel) rfl, ⟨by decide +kernel, by decide +kernel, by decide +kernel⟩, by decide⟩, gt_at 354 (by decide +kernel) rfl, gt_at 355 (by decide +kernel) rfl⟩
theorem pn_X1_clear : plainName yX1_clear.cls = true := by decide +kernel
theorem mw_X1_copyFrom : MV yX1_copyFrom cX1_copyFrom 3 none 1 := ⟨⟨gt_at 547 (by decide +kernel) rfl, gt_at 34 (by decide +kernel) rfl, ⟨by decide +kernel, by decide +kernel, by decide +kernel⟩, by decide⟩, gt_at 545 (by decide +kernel) rfl, gt_at 546 (by decide +kernel) rfl⟩
theorem pn_X1_copyFrom : plainName yX1_copyFrom.cls = true := by decide +kernel
theorem mw_X1_heightBits : MV yX1_heightBits cX1_heightBits 4 (some .int) 1 := ⟨⟨gt_at 388 (by decide +kernel) rfl, gt_at 34 (by decide +kernel) rfl, ⟨by decide +kernel, by decide +kernel, by decide +kernel⟩, by decide⟩, gt_at 386 (by decide +kernel) rfl, gt_at 387 (by decide +kernel) rfl⟩
theorem pn_X1_heightBits : plainName yX1_heightBits.cls = true := by decide +kernel
theorem mw_X1_leftAtWorst : MS yX1_leftAtWorst cX1_leftAtWorst 5 (some .int) 2 := ⟨⟨gt_at 402 (by decide +kernel) rfl, gt_at 34 (by decide +kernel) rfl, ⟨by decide +kernel, by decide +kernel, by decide +kernel⟩, by decide⟩, gt_at 401 (by decide +kernel) rfl⟩
theorem pn_X1_leftAtWorst : plainName yX1_leftAtWorst.cls = true := by decide +kernel
theorem mw_X1_size : MV yX1_size cX1_size 1 (some .int) 0 := ⟨⟨gt_at 524 (by decide +kernel) rfl, gt_at 34 (by decide +kernel) rfl, ⟨by decide +kernel, by decide +kernel, by decide +kernel⟩, by decide⟩, gt_at 522 (by decide +kernel) rfl, gt_at 523 (by decide +kernel) rfl⟩
theorem pn_X1_size : plainName yX1_size.cls = true := by decide +kernel
theorem mw_X2_growth : MS yX2_growth cX2_growth 2 (some .int) 2 := ⟨⟨gt_at 396 (by decide +kernel) rfl, gt_at 37 (by decide +kernel) rfl, ⟨by decide +kernel, by decide +kernel, by decide +kernel⟩, by decide⟩, gt_at 395 (by decide +kernel) rfl⟩
theorem pn_X2_growth : plainName yX2_growth.cls = true := by decide +kernel
theorem mw_X2_isA : MS yX2_isA cX2_isA 2 (some .boolean) 2 := ⟨⟨gt_at 414 (by decide +kernel) rfl, gt_at 37 (by decide +kernel) rfl, ⟨by decide +kernel, by decide +kernel, by decide +kernel⟩, by decide⟩, gt_at 413 (by decide +kernel) rfl⟩
theorem pn_X2_isA : plainName yX2_isA.cls = true := by decide +kernel
theorem mw_X2_isKind : MS yX2_isKind cX2_isKind 1 (some .boolean) 1 := ⟨⟨gt_at 411 (by decide +kernel) rfl, gt_at 37 (by decide +kernel) rfl, ⟨by decide +kernel, by decide +kernel, by decide +kernel⟩, by decide⟩, gt_at 410 (by decide +kernel) rfl⟩
theorem pn_X2_isKind : plainName yX2_isKind.cls = true := by decide +kernel
theorem mw_X2_ofLetter : MS yX2_ofLetter cX2_ofLetter 1 (some .int) 1 := ⟨⟨gt_at 236 (by decide +kernel) rfl, gt_at 37 (by decide +kernel) rfl, ⟨by decide +kernel, by decide +kernel, by decide +kernel⟩, by decide⟩, gt_at 235 (by decide +kernel) rfl⟩
theorem pn_X2_ofLetter : plainName yX2_ofLetter.cls = true := by decide +kernel
theorem mw_X2_onSpot : MS yX2_onSpot cX2_onSpot 1 (some .int) 1 := ⟨⟨gt_at 380 (by decide +kernel) rfl, gt_at 37 (by decide +kernel) rfl, ⟨by decide +kernel, by decide +kernel, by decide +kernel⟩, by decide⟩, gt_at 379 (by decide +kernel) rfl⟩
theorem pn_X2_onSpot : plainName yX2_onSpot.cls = true := by decide +kernel
theorem mw_X2_swayAfter : MS yX2_swayAfter cX2_swayAfter 3 (some .int) 3 := ⟨⟨gt_at 451 (by decide +kernel) rfl, gt_at 37 (by decide +kernel) rfl, ⟨by decide +kernel, by decide +kernel, by decide +kernel⟩, by decide⟩, gt_at 450 (by decide +kernel) rfl⟩
theorem pn_X2_swayAfter : plainName yX2_swayAfter.cls = true := by decide +kernel
theorem mw_X3_init : MI yX3_init cX3_init 1 0 := ⟨⟨gt_at 56 (by decide +kernel) rfl, gt_at 31 (by decide +kernel) rfl, ⟨by decide +kernel, by decide +kernel, by decide +kernel⟩, by decide⟩, rfl, gt_at 55 (by decide +kernel) rfl⟩
theorem pn_X3_init : plainName yX3_init.cls = true := by decide +kernel
theorem mw_X3_append : MV yX3_append cX3_append 2 (some .boolean) 1 := ⟨⟨gt_at 205 (by decide +kernel) rfl, gt_at 31 (by decide +kernel) rfl, ⟨by decide +kernel, by decide +kernel, by decide +kernel⟩, by decide⟩, gt_at 203 (by decide +kernel) rfl, gt_at 204 (by decide +kernel) rfl⟩
theorem pn_X3_append : plainName yX3_append.cls = true := by decide +kernel
theorem mw_X3_clear : MV yX3_clear cX3_clear 2 (some .int) 0 := ⟨⟨gt_at 217 (by decide +kernel) rfl, gt_at 31 (by decide +kernel) rfl, ⟨by decide +kernel, by decide +kernel, by decide +kernel⟩, by decide⟩, gt_at 215 (by decide +kernel) rfl, gt_at 216 (by decide +kernel) rfl⟩
theorem pn_X3_clear : plainName yX3_clear.cls = true := by decide +kernel
theorem mw_X3_codeAt : MV yX3_codeAt cX3_codeAt 2 (some .int) 1 := ⟨⟨gt_at 233 (by decide +kernel) rfl, gt_at 31 (by decide +kernel) rfl, ⟨by decide +kernel, by decide +kernel, by decide +kernel⟩, by decide⟩, gt_at 231 (by decide +kernel) rfl, gt_at 232 (by decide +kernel) rfl⟩
theorem pn_X3_codeAt : plainName yX3_codeAt.cls = true := by decide +kernel
theorem mw_X3_firstWrong : MV yX3_firstWrong cX3_firstWrong 3 (some .int) 0 := ⟨⟨gt_at 225 (by decide +kernel) rfl, gt_at 31 (by decide +kernel) rfl, ⟨by decide +kernel, by decide +kernel, by decide +kernel⟩, by decide⟩, gt_at 223 (by decide +kernel) rfl, gt_at 224 (by decide +kernel) rfl⟩
theorem pn_X3_firstWrong : plainName yX3_firstWrong.cls = true := by decide +kernel
theorem mw_X3_height : MV yX3_height cX3_height 1 (some .int) 0 := ⟨⟨gt_at 360 (by decide +kernel) rfl, gt_at 31 (by decide +kernel) rfl, ⟨by decide +kernel, by decide +kernel, by decide +kernel⟩, by decide⟩, gt_at 358 (by decide +kernel) rfl, gt_at 359 (by decide +kernel) rfl⟩
theorem pn_X3_height : plainName yX3_height.cls = true := by decide +kernel
theorem mw_X3_isWhole : MV yX3_isWhole cX3_isWhole 2 (some .boolean) 0 := ⟨⟨gt_at 332 (by decide +kernel) rfl, gt_at 31 (by decide +kernel) rfl, ⟨by decide +kernel, by decide +kernel, by decide +kernel⟩, by decide⟩, gt_at 330 (by decide +kernel) rfl, gt_at 331 (by decide +kernel) rfl⟩
theorem pn_X3_isWhole : plainName yX3_isWhole.cls = true := by decide +kernel
theorem mw_X3_placesAhead : MV yX3_placesAhead cX3_placesAhead 2 (some .int) 0 := ⟨⟨gt_at 229 (by decide +kernel) rfl, gt_at 31 (by decide +kernel) rfl, ⟨by decide +kernel, by decide +kernel, by decide +kernel⟩, by decide⟩, gt_at 227 (by decide +kernel) rfl, gt_at 228 (by decide +kernel) rfl⟩
theorem pn_X3_placesAhead : plainName yX3_placesAhead.cls = true := by decide +kernel
theorem mw_X3_size : MV yX3_size cX3_size 1 (some .int) 0 := ⟨⟨gt_at 209 (by decide +kernel) rfl, gt_at 31 (by decide +kernel) rfl, ⟨by decide +kernel, by decide +kernel, by decide +kernel⟩, by decide⟩, gt_at 207 (by decide +kernel) rfl, gt_at 208 (by decide +kernel) rfl⟩
theorem pn_X3_size : plainName yX3_size.cls = true := by decide +kernel
theorem mw_X4_init : MI yX4_init cX4_init 1 0 := ⟨⟨gt_at 143 (by decide +kernel) rfl, gt_at 35 (by decide +kernel) rfl, ⟨by decide +kernel, by decide +kernel, by decide +kernel⟩, by decide⟩, rfl, gt_at 142 (by decide +kernel) rfl⟩
theorem pn_X4_init : plainName yX4_init.cls = true := by decide +kernel
theorem mw_X4_farOfStep : MV yX4_farOfStep cX4_farOfStep 4 (some .int) 1 := ⟨⟨gt_at 491 (by decide +kernel) rfl, gt_at 35 (by decide +kernel) rfl, ⟨by decide +kernel, by decide +kernel, by decide +kernel⟩, by decide⟩, gt_at 489 (by decide +kernel) rfl, gt_at 490 (by decide +kernel) rfl⟩
theorem pn_X4_farOfStep : plainName yX4_farOfStep.cls = true := by decide +kernel
theorem mw_X4_fewest : MV yX4_fewest cX4_fewest 7 (some .int) 4 := ⟨⟨gt_at 468 (by decide +kernel) rfl, gt_at 35 (by decide +kernel) rfl, ⟨by decide +kernel, by decide +kernel, by decide +kernel⟩, by decide⟩, gt_at 466 (by decide +kernel) rfl, gt_at 467 (by decide +kernel) rfl⟩
theorem pn_X4_fewest : plainName yX4_fewest.cls = true := by decide +kernel
theorem mw_X4_goOn : MV yX4_goOn cX4_goOn 9 none 4 := ⟨⟨gt_at 485 (by decide +kernel) rfl, gt_at 35 (by decide +kernel) rfl, ⟨by decide +kernel, by decide +kernel, by decide +kernel⟩, by decide⟩, gt_at 484 (by decide +kernel) rfl, gt_at 6 (by decide +kernel) rfl⟩
theorem pn_X4_goOn : plainName yX4_goOn.cls = true := by decide +kernel
theorem mw_X4_isSpot : MS yX4_isSpot cX4_isSpot 1 (some .boolean) 1 := ⟨⟨gt_at 476 (by decide +kernel) rfl, gt_at 35 (by decide +kernel) rfl, ⟨by decide +kernel, by decide +kernel, by decide +kernel⟩, by decide⟩, gt_at 475 (by decide +kernel) rfl⟩
theorem pn_X4_isSpot : plainName yX4_isSpot.cls = true := by decide +kernel
theorem mw_X4_reach : MV yX4_reach cX4_reach 7 none 5 := ⟨⟨gt_at 473 (by decide +kernel) rfl, gt_at 35 (by decide +kernel) rfl, ⟨by decide +kernel, by decide +kernel, by decide +kernel⟩, by decide⟩, gt_at 472 (by decide +kernel) rfl, gt_at 4 (by decide +kernel) rfl⟩
theorem pn_X4_reach : plainName yX4_reach.cls = true := by decide +kernel
theorem mw_X4_stepsOf : MV yX4_stepsOf cX4_stepsOf 2 (some .int) 1 := ⟨⟨gt_at 480 (by decide +kernel) rfl, gt_at 35 (by decide +kernel) rfl, ⟨by decide +kernel, by decide +kernel, by decide +kernel⟩, by decide⟩, gt_at 479 (by decide +kernel) rfl, gt_at 5 (by decide +kernel) rfl⟩
theorem pn_X4_stepsOf : plainName yX4_stepsOf.cls = true := by decide +kernel
theorem mw_X5_init : MI yX5_init cX5_init 1 0 := ⟨⟨gt_at 70 (by decide +kernel) rfl, gt_at 32 (by decide +kernel) rfl, ⟨by decide +kernel, by decide +kernel, by decide +kernel⟩, by decide⟩, rfl, gt_at 69 (by decide +kernel) rfl⟩
theorem pn_X5_init : plainName yX5_init.cls = true := by decide +kernel
theorem mw_X5_backToStart : MV yX5_backToStart cX5_backToStart 1 none 0 := ⟨⟨gt_at 364 (by decide +kernel) rfl, gt_at 32 (by decide +kernel) rfl, ⟨by decide +kernel, by decide +kernel, by decide +kernel⟩, by decide⟩, gt_at 363 (by decide +kernel) rfl, gt_at 0 (by decide +kernel) rfl⟩
theorem pn_X5_backToStart : plainName yX5_backToStart.cls = true := by decide +kernel
theorem mw_X5_begin : MV yX5_begin cX5_begin 2 none 1 := ⟨⟨gt_at 337 (by decide +kernel) rfl, gt_at 32 (by decide +kernel) rfl, ⟨by decide +kernel, by decide +kernel, by decide +kernel⟩, by decide⟩, gt_at 335 (by decide +kernel) rfl, gt_at 336 (by decide +kernel) rfl⟩
theorem pn_X5_begin : plainName yX5_begin.cls = true := by decide +kernel
theorem mw_X5_changeHeight : MV yX5_changeHeight cX5_changeHeight 3 (some .int) 1 := ⟨⟨gt_at 431 (by decide +kernel) rfl, gt_at 32 (by decide +kernel) rfl, ⟨by decide +kernel, by decide +kernel, by decide +kernel⟩, by decide⟩, gt_at 429 (by decide +kernel) rfl, gt_at 430 (by decide +kernel) rfl⟩
theorem pn_X5_changeHeight : plainName yX5_changeHeight.cls = true := by decide +kernel
theorem mw_X5_copyFrom : MV yX5_copyFrom cX5_copyFrom 2 none 1 := ⟨⟨gt_at 542 (by decide +kernel) rfl, gt_at 32 (by decide +kernel) rfl, ⟨by decide +kernel, by decide +kernel, by decide +kernel⟩, by decide⟩, gt_at 540 (by decide +kernel) rfl, gt_at 541 (by decide +kernel) rfl⟩
theorem pn_X5_copyFrom : plainName yX5_copyFrom.cls = true := by decide +kernel
theorem mw_X5_go : MV yX5_go cX5_go 3 (some .boolean) 1 := ⟨⟨gt_at 443 (by decide +kernel) rfl, gt_at 32 (by decide +kernel) rfl, ⟨by decide +kernel, by decide +kernel, by decide +kernel⟩, by decide⟩, gt_at 441 (by decide +kernel) rfl, gt_at 442 (by decide +kernel) rfl⟩
theorem pn_X5_go : plainName yX5_go.cls = true := by decide +kernel
theorem mw_X5_race : MV yX5_race cX5_race 7 (some .int) 2 := ⟨⟨gt_at 552 (by decide +kernel) rfl, gt_at 32 (by decide +kernel) rfl, ⟨by decide +kernel, by decide +kernel, by decide +kernel⟩, by decide⟩, gt_at 550 (by decide +kernel) rfl, gt_at 551 (by decide +kernel) rfl⟩
theorem pn_X5_race : plainName yX5_race.cls = true := by decide +kernel
theorem mw_X5_swayBy : MV yX5_swayBy cX5_swayBy 2 (some .int) 1 := ⟨⟨gt_at 447 (by decide +kernel) rfl, gt_at 32 (by decide +kernel) rfl, ⟨by decide +kernel, by decide +kernel, by decide +kernel⟩, by decide⟩, gt_at 445 (by decide +kernel) rfl, gt_at 446 (by decide +kernel) rfl⟩
theorem pn_X5_swayBy : plainName yX5_swayBy.cls = true := by decide +kernel
theorem mw_X7_init : MI yX7_init cX7_init 1 0 := ⟨⟨gt_at 592 (by decide +kernel) rfl, gt_at 36 (by decide +kernel) rfl, ⟨by decide +kernel, by decide +kernel, by decide +kernel⟩, by decide⟩, rfl, gt_at 591 (by decide +kernel) rfl⟩
theorem pn_X7_init : plainName yX7_init.cls = true := by decide +kernel
theorem mw_X7_about : MV yX7_about cX7_about 3 (some .int) 2 := ⟨⟨gt_at 730 (by decide +kernel) rfl, gt_at 36 (by decide +kernel) rfl, ⟨by decide +kernel, by decide +kernel, by decide +kernel⟩, by decide⟩, gt_at 728 (by decide +kernel) rfl, gt_at 729 (by decide +kernel) rfl⟩
theorem pn_X7_about : plainName yX7_about.cls = true := by decide +kernel
theorem mw_X7_as : MV yX7_as cX7_as 4 (some .int) 2 := ⟨⟨gt_at 761 (by decide +kernel) rfl, gt_at 36 (by decide +kernel) rfl, ⟨by decide +kernel, by decide +kernel, by decide +kernel⟩, by decide⟩, gt_at 759 (by decide +kernel) rfl, gt_at 760 (by decide +kernel) rfl⟩
theorem pn_X7_as : plainName yX7_as.cls = true := by decide +kernel
theorem mw_X7_at : MV yX7_at cX7_at 2 (some .int) 1 := ⟨⟨gt_at 719 (by decide +kernel) rfl, gt_at 36 (by decide +kernel) rfl, ⟨by decide +kernel, by decide +kernel, by decide +kernel⟩, by decide⟩, gt_at 718 (by decide +kernel) rfl, gt_at 10 (by decide +kernel) rfl⟩
theorem pn_X7_at : plainName yX7_at.cls = true := by decide +kernel
theorem mw_X7_bears : MS yX7_bears cX7_bears 1 (some .int) 1 := ⟨⟨gt_at 753 (by decide +kernel) rfl, gt_at 36 (by decide +kernel) rfl, ⟨by decide +kernel, by decide +kernel, by decide +kernel⟩, by decide⟩, gt_at 752 (by decide +kernel) rfl⟩
theorem pn_X7_bears : plainName yX7_bears.cls = true := by decide +kernel
theorem mw_X7_blank : MV yX7_blank cX7_blank 2 (some .int) 0 := ⟨⟨gt_at 707 (by decide +kernel) rfl, gt_at 36 (by decide +kernel) rfl, ⟨by decide +kernel, by decide +kernel, by decide +kernel⟩, by decide⟩, gt_at 705 (by decide +kernel) rfl, gt_at 706 (by decide +kernel) rfl⟩
theorem pn_X7_blank : plainName yX7_blank.cls = true := by decide +kernel
theorem mw_X7_blocks : MV yX7_blocks cX7_blocks 3 (some .int) 1 := ⟨⟨gt_at 769 (by decide +kernel) rfl, gt_at 36 (by decide +kernel) rfl, ⟨by decide +kernel, by decide +kernel, by decide +kernel⟩, by decide⟩, gt_at 767 (by decide +kernel) rfl, gt_at 768 (by decide +kernel) rfl⟩
theorem pn_X7_blocks : plainName yX7_blocks.cls = true := by decide +kernel
theorem mw_X7_count : MV yX7_count cX7_count 2 (some .int) 1 := ⟨⟨gt_at 861 (by decide +kernel) rfl, gt_at 36 (by decide +kernel) rfl, ⟨by decide +kernel, by decide +kernel, by decide +kernel⟩, by decide⟩, gt_at 859 (by decide +kernel) rfl, gt_at 860 (by decide +kernel) rfl⟩
theorem pn_X7_count : plainName yX7_count.cls = true := by decide +kernel
theorem mw_X7_digest : MV yX7_digest cX7_digest 3 (some .long) 0 := ⟨⟨gt_at 873 (by decide +kernel) rfl, gt_at 36 (by decide +kernel) rfl, ⟨by decide +kernel, by decide +kernel, by decide +kernel⟩, by decide⟩, gt_at 871 (by decide +kernel) rfl, gt_at 872 (by decide +kernel) rfl⟩
theorem pn_X7_digest : plainName yX7_digest.cls = true := by decide +kernel
theorem mw_X7_draw : MV yX7_draw cX7_draw 2 (some .int) 1 := ⟨⟨gt_at 845 (by decide +kernel) rfl, gt_at 36 (by decide +kernel) rfl, ⟨by decide +kernel, by decide +kernel, by decide +kernel⟩, by decide⟩, gt_at 844 (by decide +kernel) rfl, gt_at 25 (by decide +kernel) rfl⟩
theorem pn_X7_draw : plainName yX7_draw.cls = true := by decide +kernel
theorem mw_X7_fault : MV yX7_fault cX7_fault 1 (some .int) 0 := ⟨⟨gt_at 711 (by decide +kernel) rfl, gt_at 36 (by decide +kernel) rfl, ⟨by decide +kernel, by decide +kernel, by decide +kernel⟩, by decide⟩, gt_at 709 (by decide +kernel) rfl, gt_at 710 (by decide +kernel) rfl⟩
theorem pn_X7_fault : plainName yX7_fault.cls = true := by decide +kernel
theorem mw_X7_fewBy : MV yX7_fewBy cX7_fewBy 6 (some .int) 4 := ⟨⟨gt_at 801 (by decide +kernel) rfl, gt_at 36 (by decide +kernel) rfl, ⟨by decide +kernel, by decide +kernel, by decide +kernel⟩, by decide⟩, gt_at 800 (by decide +kernel) rfl, gt_at 20 (by decide +kernel) rfl⟩
theorem pn_X7_fewBy : plainName yX7_fewBy.cls = true := by decide +kernel
theorem mw_X7_fewWith : MV yX7_fewWith cX7_fewWith 2 (some .int) 1 := ⟨⟨gt_at 813 (by decide +kernel) rfl, gt_at 36 (by decide +kernel) rfl, ⟨by decide +kernel, by decide +kernel, by decide +kernel⟩, by decide⟩, gt_at 812 (by decide +kernel) rfl, gt_at 22 (by decide +kernel) rfl⟩
theorem pn_X7_fewWith : plainName yX7_fewWith.cls = true := by decide +kernel
theorem mw_X7_forget : MV yX7_forget cX7_forget 2 (some .int) 0 := ⟨⟨gt_at 829 (by decide +kernel) rfl, gt_at 36 (by decide +kernel) rfl, ⟨by decide +kernel, by decide +kernel, by decide +kernel⟩, by decide⟩, gt_at 827 (by decide +kernel) rfl, gt_at 828 (by decide +kernel) rfl⟩
theorem pn_X7_forget : plainName yX7_forget.cls = true := by decide +kernel
theorem mw_X7_goes : MV yX7_goes cX7_goes 4 (some .boolean) 1 := ⟨⟨gt_at 777 (by decide +kernel) rfl, gt_at 36 (by decide +kernel) rfl, ⟨by decide +kernel, by decide +kernel, by decide +kernel⟩, by decide⟩, gt_at 776 (by decide +kernel) rfl, gt_at 16 (by decide +kernel) rfl⟩
theorem pn_X7_goes : plainName yX7_goes.cls = true := by decide +kernel
theorem mw_X7_hear : MV yX7_hear cX7_hear 5 (some .int) 4 := ⟨⟨gt_at 825 (by decide +kernel) rfl, gt_at 36 (by decide +kernel) rfl, ⟨by decide +kernel, by decide +kernel, by decide +kernel⟩, by decide⟩, gt_at 823 (by decide +kernel) rfl, gt_at 824 (by decide +kernel) rfl⟩
theorem pn_X7_hear : plainName yX7_hear.cls = true := by decide +kernel
theorem mw_X7_heights : MV yX7_heights cX7_heights 1 (some .int) 0 := ⟨⟨gt_at 833 (by decide +kernel) rfl, gt_at 36 (by decide +kernel) rfl, ⟨by decide +kernel, by decide +kernel, by decide +kernel⟩, by decide⟩, gt_at 831 (by decide +kernel) rfl, gt_at 832 (by decide +kernel) rfl⟩
theorem pn_X7_heights : plainName yX7_heights.cls = true := by decide +kernel
theorem mw_X7_heightsNow : MV yX7_heightsNow cX7_heightsNow 5 (some .int) 0 := ⟨⟨gt_at 750 (by decide +kernel) rfl, gt_at 36 (by decide +kernel) rfl, ⟨by decide +kernel, by decide +kernel, by decide +kernel⟩, by decide⟩, gt_at 749 (by decide +kernel) rfl, gt_at 15 (by decide +kernel) rfl⟩
theorem pn_X7_heightsNow : plainName yX7_heightsNow.cls = true := by decide +kernel
theorem mw_X7_high : MV yX7_high cX7_high 1 (some .int) 0 := ⟨⟨gt_at 805 (by decide +kernel) rfl, gt_at 36 (by decide +kernel) rfl, ⟨by decide +kernel, by decide +kernel, by decide +kernel⟩, by decide⟩, gt_at 803 (by decide +kernel) rfl, gt_at 804 (by decide +kernel) rfl⟩
theorem pn_X7_high : plainName yX7_high.cls = true := by decide +kernel
theorem mw_X7_highNow : MV yX7_highNow cX7_highNow 3 (some .int) 0 := ⟨⟨gt_at 809 (by decide +kernel) rfl, gt_at 36 (by decide +kernel) rfl, ⟨by decide +kernel, by decide +kernel, by decide +kernel⟩, by decide⟩, gt_at 808 (by decide +kernel) rfl, gt_at 21 (by decide +kernel) rfl⟩
theorem pn_X7_highNow : plainName yX7_highNow.cls = true := by decide +kernel
theorem mw_X7_howMany : MV yX7_howMany cX7_howMany 2 (some .int) 1 := ⟨⟨gt_at 865 (by decide +kernel) rfl, gt_at 36 (by decide +kernel) rfl, ⟨by decide +kernel, by decide +kernel, by decide +kernel⟩, by decide⟩, gt_at 864 (by decide +kernel) rfl, gt_at 26 (by decide +kernel) rfl⟩
theorem pn_X7_howMany : plainName yX7_howMany.cls = true := by decide +kernel
theorem mw_X7_image : MV yX7_image cX7_image 2 (some .int) 0 := ⟨⟨gt_at 853 (by decide +kernel) rfl, gt_at 36 (by decide +kernel) rfl, ⟨by decide +kernel, by decide +kernel, by decide +kernel⟩, by decide⟩, gt_at 851 (by decide +kernel) rfl, gt_at 852 (by decide +kernel) rfl⟩
theorem pn_X7_image : plainName yX7_image.cls = true := by decide +kernel
theorem mw_X7_isIn : MS yX7_isIn cX7_isIn 2 (some .boolean) 2 := ⟨⟨gt_at 757 (by decide +kernel) rfl, gt_at 36 (by decide +kernel) rfl, ⟨by decide +kernel, by decide +kernel, by decide +kernel⟩, by decide⟩, gt_at 756 (by decide +kernel) rfl⟩
theorem pn_X7_isIn : plainName yX7_isIn.cls = true := by decide +kernel
theorem mw_X7_isPlace : MV yX7_isPlace cX7_isPlace 2 (some .boolean) 1 := ⟨⟨gt_at 734 (by decide +kernel) rfl, gt_at 36 (by decide +kernel) rfl, ⟨by decide +kernel, by decide +kernel, by decide +kernel⟩, by decide⟩, gt_at 733 (by decide +kernel) rfl, gt_at 11 (by decide +kernel) rfl⟩
theorem pn_X7_isPlace : plainName yX7_isPlace.cls = true := by decide +kernel
theorem mw_X7_isShorter : MV yX7_isShorter cX7_isShorter 7 (some .boolean) 3 := ⟨⟨gt_at 797 (by decide +kernel) rfl, gt_at 36 (by decide +kernel) rfl, ⟨by decide +kernel, by decide +kernel, by decide +kernel⟩, by decide⟩, gt_at 796 (by decide +kernel) rfl, gt_at 19 (by decide +kernel) rfl⟩
theorem pn_X7_isShorter : plainName yX7_isShorter.cls = true := by decide +kernel
theorem mw_X7_kindBy : MS yX7_kindBy cX7_kindBy 1 (some .int) 1 := ⟨⟨gt_at 722 (by decide +kernel) rfl, gt_at 36 (by decide +kernel) rfl, ⟨by decide +kernel, by decide +kernel, by decide +kernel⟩, by decide⟩, gt_at 721 (by decide +kernel) rfl⟩
theorem pn_X7_kindBy : plainName yX7_kindBy.cls = true := by decide +kernel
theorem mw_X7_lay : MV yX7_lay cX7_lay 4 (some .int) 2 := ⟨⟨gt_at 765 (by decide +kernel) rfl, gt_at 36 (by decide +kernel) rfl, ⟨by decide +kernel, by decide +kernel, by decide +kernel⟩, by decide⟩, gt_at 763 (by decide +kernel) rfl, gt_at 764 (by decide +kernel) rfl⟩
theorem pn_X7_lay : plainName yX7_lay.cls = true := by decide +kernel
theorem mw_X7_layFew : MV yX7_layFew cX7_layFew 5 none 1 := ⟨⟨gt_at 793 (by decide +kernel) rfl, gt_at 36 (by decide +kernel) rfl, ⟨by decide +kernel, by decide +kernel, by decide +kernel⟩, by decide⟩, gt_at 792 (by decide +kernel) rfl, gt_at 18 (by decide +kernel) rfl⟩
theorem pn_X7_layFew : plainName yX7_layFew.cls = true := by decide +kernel
theorem mw_X7_letter : MV yX7_letter cX7_letter 2 (some .int) 1 := ⟨⟨gt_at 700 (by decide +kernel) rfl, gt_at 36 (by decide +kernel) rfl, ⟨by decide +kernel, by decide +kernel, by decide +kernel⟩, by decide⟩, gt_at 698 (by decide +kernel) rfl, gt_at 699 (by decide +kernel) rfl⟩
theorem pn_X7_letter : plainName yX7_letter.cls = true := by decide +kernel
theorem mw_X7_mend : MV yX7_mend cX7_mend 2 (some .int) 1 := ⟨⟨gt_at 817 (by decide +kernel) rfl, gt_at 36 (by decide +kernel) rfl, ⟨by decide +kernel, by decide +kernel, by decide +kernel⟩, by decide⟩, gt_at 815 (by decide +kernel) rfl, gt_at 816 (by decide +kernel) rfl⟩
theorem pn_X7_mend : plainName yX7_mend.cls = true := by decide +kernel
theorem mw_X7_mendNow : MV yX7_mendNow cX7_mendNow 7 (some .int) 1 := ⟨⟨gt_at 821 (by decide +kernel) rfl, gt_at 36 (by decide +kernel) rfl, ⟨by decide +kernel, by decide +kernel, by decide +kernel⟩, by decide⟩, gt_at 820 (by decide +kernel) rfl, gt_at 23 (by decide +kernel) rfl⟩
theorem pn_X7_mendNow : plainName yX7_mendNow.cls = true := by decide +kernel
theorem mw_X7_mix : MV yX7_mix cX7_mix 3 none 1 := ⟨⟨gt_at 878 (by decide +kernel) rfl, gt_at 36 (by decide +kernel) rfl, ⟨by decide +kernel, by decide +kernel, by decide +kernel⟩, by decide⟩, gt_at 877 (by decide +kernel) rfl, gt_at 28 (by decide +kernel) rfl⟩
theorem pn_X7_mix : plainName yX7_mix.cls = true := by decide +kernel
theorem mw_X7_placeNow : MV yX7_placeNow cX7_placeNow 3 (some .int) 2 := ⟨⟨gt_at 738 (by decide +kernel) rfl, gt_at 36 (by decide +kernel) rfl, ⟨by decide +kernel, by decide +kernel, by decide +kernel⟩, by decide⟩, gt_at 737 (by decide +kernel) rfl, gt_at 12 (by decide +kernel) rfl⟩
theorem pn_X7_placeNow : plainName yX7_placeNow.cls = true := by decide +kernel
theorem mw_X7_plain : MV yX7_plain cX7_plain 3 (some .int) 0 := ⟨⟨gt_at 869 (by decide +kernel) rfl, gt_at 36 (by decide +kernel) rfl, ⟨by decide +kernel, by decide +kernel, by decide +kernel⟩, by decide⟩, gt_at 868 (by decide +kernel) rfl, gt_at 27 (by decide +kernel) rfl⟩
theorem pn_X7_plain : plainName yX7_plain.cls = true := by decide +kernel
theorem mw_X7_quick : MV yX7_quick cX7_quick 2 (some .int) 1 := ⟨⟨gt_at 785 (by decide +kernel) rfl, gt_at 36 (by decide +kernel) rfl, ⟨by decide +kernel, by decide +kernel, by decide +kernel⟩, by decide⟩, gt_at 783 (by decide +kernel) rfl, gt_at 784 (by decide +kernel) rfl⟩
theorem pn_X7_quick : plainName yX7_quick.cls = true := by decide +kernel
theorem mw_X7_quickNow : MV yX7_quickNow cX7_quickNow 7 (some .int) 1 := ⟨⟨gt_at 789 (by decide +kernel) rfl, gt_at 36 (by decide +kernel) rfl, ⟨by decide +kernel, by decide +kernel, by decide +kernel⟩, by decide⟩, gt_at 788 (by decide +kernel) rfl, gt_at 17 (by decide +kernel) rfl⟩
theorem pn_X7_quickNow : plainName yX7_quickNow.cls = true := by decide +kernel
theorem mw_X7_races : MV yX7_races cX7_races 4 (some .int) 3 := ⟨⟨gt_at 837 (by decide +kernel) rfl, gt_at 36 (by decide +kernel) rfl, ⟨by decide +kernel, by decide +kernel, by decide +kernel⟩, by decide⟩, gt_at 835 (by decide +kernel) rfl, gt_at 836 (by decide +kernel) rfl⟩
theorem pn_X7_races : plainName yX7_races.cls = true := by decide +kernel
theorem mw_X7_racesNow : MV yX7_racesNow cX7_racesNow 10 (some .int) 3 := ⟨⟨gt_at 841 (by decide +kernel) rfl, gt_at 36 (by decide +kernel) rfl, ⟨by decide +kernel, by decide +kernel, by decide +kernel⟩, by decide⟩, gt_at 840 (by decide +kernel) rfl, gt_at 24 (by decide +kernel) rfl⟩
theorem pn_X7_racesNow : plainName yX7_racesNow.cls = true := by decide +kernel
theorem mw_X7_read : MV yX7_read cX7_read 3 (some .int) 0 := ⟨⟨gt_at 715 (by decide +kernel) rfl, gt_at 36 (by decide +kernel) rfl, ⟨by decide +kernel, by decide +kernel, by decide +kernel⟩, by decide⟩, gt_at 714 (by decide +kernel) rfl, gt_at 9 (by decide +kernel) rfl⟩
theorem pn_X7_read : plainName yX7_read.cls = true := by decide +kernel
theorem mw_X7_restore : MV yX7_restore cX7_restore 2 (some .int) 0 := ⟨⟨gt_at 857 (by decide +kernel) rfl, gt_at 36 (by decide +kernel) rfl, ⟨by decide +kernel, by decide +kernel, by decide +kernel⟩, by decide⟩, gt_at 855 (by decide +kernel) rfl, gt_at 856 (by decide +kernel) rfl⟩
theorem pn_X7_restore : plainName yX7_restore.cls = true := by decide +kernel
theorem mw_X7_step : MV yX7_step cX7_step 2 (some .int) 1 := ⟨⟨gt_at 773 (by decide +kernel) rfl, gt_at 36 (by decide +kernel) rfl, ⟨by decide +kernel, by decide +kernel, by decide +kernel⟩, by decide⟩, gt_at 771 (by decide +kernel) rfl, gt_at 772 (by decide +kernel) rfl⟩
theorem pn_X7_step : plainName yX7_step.cls = true := by decide +kernel
theorem mw_X7_swayBy : MV yX7_swayBy cX7_swayBy 6 (some .int) 3 := ⟨⟨gt_at 742 (by decide +kernel) rfl, gt_at 36 (by decide +kernel) rfl, ⟨by decide +kernel, by decide +kernel, by decide +kernel⟩, by decide⟩, gt_at 741 (by decide +kernel) rfl, gt_at 13 (by decide +kernel) rfl⟩
theorem pn_X7_swayBy : plainName yX7_swayBy.cls = true := by decide +kernel
theorem mw_X7_tryAt : MV yX7_tryAt cX7_tryAt 9 (some .int) 1 := ⟨⟨gt_at 746 (by decide +kernel) rfl, gt_at 36 (by decide +kernel) rfl, ⟨by decide +kernel, by decide +kernel, by decide +kernel⟩, by decide⟩, gt_at 745 (by decide +kernel) rfl, gt_at 14 (by decide +kernel) rfl⟩
theorem pn_X7_tryAt : plainName yX7_tryAt.cls = true := by decide +kernel
theorem mw_X7_within : MS yX7_within cX7_within 3 (some .boolean) 3 := ⟨⟨gt_at 703 (by decide +kernel) rfl, gt_at 36 (by decide +kernel) rfl, ⟨by decide +kernel, by decide +kernel, by decide +kernel⟩, by decide⟩, gt_at 702 (by decide +kernel) rfl⟩
theorem pn_X7_within : plainName yX7_within.cls = true := by decide +kernel
theorem mw_X7_would : MV yX7_would cX7_would 2 (some .int) 1 := ⟨⟨gt_at 781 (by decide +kernel) rfl, gt_at 36 (by decide +kernel) rfl, ⟨by decide +kernel, by decide +kernel, by decide +kernel⟩, by decide⟩, gt_at 779 (by decide +kernel) rfl, gt_at 780 (by decide +kernel) rfl⟩
theorem pn_X7_would : plainName yX7_would.cls = true := by decide +kernel
theorem mw_X7_yard : MV yX7_yard cX7_yard 3 (some .int) 0 := ⟨⟨gt_at 726 (by decide +kernel) rfl, gt_at 36 (by decide +kernel) rfl, ⟨by decide +kernel, by decide +kernel, by decide +kernel⟩, by decide⟩, gt_at 724 (by decide +kernel) rfl, gt_at 725 (by decide +kernel) rfl⟩
theorem pn_X7_yard : plainName yX7_yard.cls = true := by decide +kernel
theorem mw_J9_max_7cf53 : MS yJ9_max_7cf53 cJ9_max_7cf53 2 (some .int) 2 := ⟨⟨gt_at 268 (by decide +kernel) rfl, gt_at 40 (by decide +kernel) rfl, ⟨by decide +kernel, by decide +kernel, by decide +kernel⟩, by decide⟩, gt_at 267 (by decide +kernel) rfl⟩
theorem mw_J9_min_7cf53 : MS yJ9_min_7cf53 cJ9_min_7cf53 2 (some .int) 2 := ⟨⟨gt_at 271 (by decide +kernel) rfl, gt_at 40 (by decide +kernel) rfl, ⟨by decide +kernel, by decide +kernel, by decide +kernel⟩, by decide⟩, gt_at 270 (by decide +kernel) rfl⟩
theorem mw_J0_checkBoundsBeginEnd_23922 : MS yJ0_checkBoundsBeginEnd_23922 cJ0_checkBoundsBeginEnd_23922 3 none 3 := ⟨⟨gt_at 292 (by decide +kernel) rfl, gt_at 38 (by decide +kernel) rfl, ⟨by decide +kernel, by decide +kernel, by decide +kernel⟩, by decide⟩, gt_at 291 (by decide +kernel) rfl⟩
theorem pn_J0_checkBoundsBeginEnd_23922 : plainName yJ0_checkBoundsBeginEnd_23922.cls = true := by decide +kernel
theorem mw_J0_coder_7d493 : MV yJ0_coder_7d493 cJ0_coder_7d493 1 (some .byte) 0 := ⟨⟨gt_at 259 (by decide +kernel) rfl, gt_at 38 (by decide +kernel) rfl, ⟨by decide +kernel, by decide +kernel, by decide +kernel⟩, by decide⟩, gt_at 257 (by decide +kernel) rfl, gt_at 258 (by decide +kernel) rfl⟩
theorem pn_J0_coder_7d493 : plainName yJ0_coder_7d493.cls = true := by decide +kernel
theorem mw_J0_indexOf_0f7a4 : MV yJ0_indexOf_0f7a4 cJ0_indexOf_0f7a4 2 (some .int) 1 := ⟨⟨gt_at 241 (by decide +kernel) rfl, gt_at 38 (by decide +kernel) rfl, ⟨by decide +kernel, by decide +kernel, by decide +kernel⟩, by decide⟩, gt_at 239 (by decide +kernel) rfl, gt_at 240 (by decide +kernel) rfl⟩
theorem pn_J0_indexOf_0f7a4 : plainName yJ0_indexOf_0f7a4.cls = true := by decide +kernel
theorem mw_J0_indexOf_7cf53 : MV yJ0_indexOf_7cf53 cJ0_indexOf_7cf53 3 (some .int) 2 := ⟨⟨gt_at 245 (by decide +kernel) rfl, gt_at 38 (by decide +kernel) rfl, ⟨by decide +kernel, by decide +kernel, by decide +kernel⟩, by decide⟩, gt_at 243 (by decide +kernel) rfl, gt_at 244 (by decide +kernel) rfl⟩
theorem pn_J0_indexOf_7cf53 : plainName yJ0_indexOf_7cf53.cls = true := by decide +kernel
theorem mw_J0_isLatin1_aae02 : MV yJ0_isLatin1_aae02 cJ0_isLatin1_aae02 1 (some .boolean) 0 := ⟨⟨gt_at 249 (by decide +kernel) rfl, gt_at 38 (by decide +kernel) rfl, ⟨by decide +kernel, by decide +kernel, by decide +kernel⟩, by decide⟩, gt_at 247 (by decide +kernel) rfl, gt_at 248 (by decide +kernel) rfl⟩
theorem pn_J0_isLatin1_aae02 : plainName yJ0_isLatin1_aae02.cls = true := by decide +kernel
theorem mw_J0_length_8abf5 : MV yJ0_length_8abf5 cJ0_length_8abf5 1 (some .int) 0 := ⟨⟨gt_at 255 (by decide +kernel) rfl, gt_at 38 (by decide +kernel) rfl, ⟨by decide +kernel, by decide +kernel, by decide +kernel⟩, by decide⟩, gt_at 253 (by decide +kernel) rfl, gt_at 254 (by decide +kernel) rfl⟩
theorem pn_J0_length_8abf5 : plainName yJ0_length_8abf5.cls = true := by decide +kernel
theorem mw_J1_canEncode_9a6ad : MS yJ1_canEncode_9a6ad cJ1_canEncode_9a6ad 1 (some .boolean) 1 := ⟨⟨gt_at 265 (by decide +kernel) rfl, gt_at 39 (by decide +kernel) rfl, ⟨by decide +kernel, by decide +kernel, by decide +kernel⟩, by decide⟩, gt_at 264 (by decide +kernel) rfl⟩
theorem pn_J1_canEncode_9a6ad : plainName yJ1_canEncode_9a6ad.cls = true := by decide +kernel
theorem mw_J1_indexOf_4cfef : MS yJ1_indexOf_4cfef cJ1_indexOf_4cfef 4 (some .int) 4 := ⟨⟨gt_at 262 (by decide +kernel) rfl, gt_at 39 (by decide +kernel) rfl, ⟨by decide +kernel, by decide +kernel, by decide +kernel⟩, by decide⟩, gt_at 261 (by decide +kernel) rfl⟩
theorem pn_J1_indexOf_4cfef : plainName yJ1_indexOf_4cfef.cls = true := by decide +kernel
theorem mw_J1_indexOfChar_4cfef : MS yJ1_indexOfChar_4cfef cJ1_indexOfChar_4cfef 6 (some .int) 4 := ⟨⟨gt_at 274 (by decide +kernel) rfl, gt_at 39 (by decide +kernel) rfl, ⟨by decide +kernel, by decide +kernel, by decide +kernel⟩, by decide⟩, gt_at 273 (by decide +kernel) rfl⟩
theorem pn_J1_indexOfChar_4cfef : plainName yJ1_indexOfChar_4cfef.cls = true := by decide +kernel
theorem ic_m1 : Int32.ofInt (-1) = (-1 : Int32) := by decide
theorem ic_0 : Int32.ofInt (0) = (0 : Int32) := by decide
theorem ic_1 : Int32.ofInt (1) = (1 : Int32) := by decide
theorem ic_2 : Int32.ofInt (2) = (2 : Int32) := by decide
theorem ic_3 : Int32.ofInt (3) = (3 : Int32) := by decide
theorem ic_4 : Int32.ofInt (4) = (4 : Int32) := by decide
theorem ic_5 : Int32.ofInt (5) = (5 : Int32) := by decide
theorem bp_m104 : (Int8.ofInt (-104)).toInt32 = (-104 : Int32) := by decide
theorem bp_m103 : (Int8.ofInt (-103)).toInt32 = (-103 : Int32) := by decide
theorem bp_m102 : (Int8.ofInt (-102)).toInt32 = (-102 : Int32) := by decide
theorem bp_m101 : (Int8.ofInt (-101)).toInt32 = (-101 : Int32) := by decide
theorem bp_m2 : (Int8.ofInt (-2)).toInt32 = (-2 : Int32) := by decide
theorem bp_6 : (Int8.ofInt (6)).toInt32 = (6 : Int32) := by decide
theorem bp_9 : (Int8.ofInt (9)).toInt32 = (9 : Int32) := by decide
theorem bp_10 : (Int8.ofInt (10)).toInt32 = (10 : Int32) := by decide
theorem bp_11 : (Int8.ofInt (11)).toInt32 = (11 : Int32) := by decide
theorem bp_12 : (Int8.ofInt (12)).toInt32 = (12 : Int32) := by decide
theorem bp_13 : (Int8.ofInt (13)).toInt32 = (13 : Int32) := by decide
theorem bp_16 : (Int8.ofInt (16)).toInt32 = (16 : Int32) := by decide
theorem bp_31 : (Int8.ofInt (31)).toInt32 = (31 : Int32) := by decide
theorem bp_32 : (Int8.ofInt (32)).toInt32 = (32 : Int32) := by decide
theorem bp_40 : (Int8.ofInt (40)).toInt32 = (40 : Int32) := by decide
theorem bp_48 : (Int8.ofInt (48)).toInt32 = (48 : Int32) := by decide
theorem bp_49 : (Int8.ofInt (49)).toInt32 = (49 : Int32) := by decide
theorem bp_57 : (Int8.ofInt (57)).toInt32 = (57 : Int32) := by decide
theorem bp_59 : (Int8.ofInt (59)).toInt32 = (59 : Int32) := by decide
theorem bp_60 : (Int8.ofInt (60)).toInt32 = (60 : Int32) := by decide
theorem bp_126 : (Int8.ofInt (126)).toInt32 = (126 : Int32) := by decide
theorem sp_144 : (Int16.ofInt (144)).toInt32 = (144 : Int32) := by decide
theorem sp_255 : (Int16.ofInt (255)).toInt32 = (255 : Int32) := by decide
theorem kc_X7_118 : Cond.constant RX7 118 268435456 ∈ gt := gt_at 754 (by decide +kernel) rfl
theorem kc_X6_189 : Cond.constantLong RX6 189 1063 ∈ gt := gt_at 581 (by decide +kernel) rfl
theorem kc_X6_191 : Cond.constantLong RX6 191 31 ∈ gt := gt_at 582 (by decide +kernel) rfl
theorem kc_X5_79 : Cond.constantLong RX5 79 1103515245 ∈ gt := gt_at 553 (by decide +kernel) rfl
theorem kc_X5_81 : Cond.constantLong RX5 81 12345 ∈ gt := gt_at 554 (by decide +kernel) rfl
theorem kc_X5_83 : Cond.constantLong RX5 83 2147483647 ∈ gt := gt_at 555 (by decide +kernel) rfl
theorem kc_X5_85 : Cond.constantLong RX5 85 3 ∈ gt := gt_at 556 (by decide +kernel) rfl
theorem kc_X7_152 : Cond.constantLong RX7 152 1103515245 ∈ gt := gt_at 846 (by decide +kernel) rfl
theorem kc_X7_158 : Cond.constantLong RX7 158 12345 ∈ gt := gt_at 847 (by decide +kernel) rfl
theorem kc_X7_160 : Cond.constantLong RX7 160 2147483647 ∈ gt := gt_at 848 (by decide +kernel) rfl
theorem kc_X7_162 : Cond.constantLong RX7 162 65536 ∈ gt := gt_at 849 (by decide +kernel) rfl
theorem kc_X7_200 : Cond.constantLong RX7 200 31 ∈ gt := gt_at 879 (by decide +kernel) rfl
theorem kc_X7_205 : Cond.constantLong RX7 205 1063 ∈ gt := gt_at 874 (by decide +kernel) rfl
theorem cl_X6_7 : Cond.classLink RX6 7 RX3 ∈ gt := gt_at 52 (by decide +kernel) rfl
theorem cl_X6_16 : Cond.classLink RX6 16 RX5 ∈ gt := gt_at 66 (by decide +kernel) rfl
theorem cl_X6_29 : Cond.classLink RX6 29 RX0 ∈ gt := gt_at 137 (by decide +kernel) rfl
theorem cl_X6_36 : Cond.classLink RX6 36 RX4 ∈ gt := gt_at 139 (by decide +kernel) rfl
theorem cl_X5_7 : Cond.classLink RX5 7 RX0 ∈ gt := gt_at 72 (by decide +kernel) rfl
theorem cl_X5_16 : Cond.classLink RX5 16 RX1 ∈ gt := gt_at 85 (by decide +kernel) rfl
theorem cl_L_7 : Cond.classLink RL 7 RX6 ∈ gt := gt_at 44 (by decide +kernel) rfl
theorem cl_L_10 : Cond.classLink RL 10 RX7 ∈ gt := gt_at 588 (by decide +kernel) rfl
theorem in_X6 : Cond.instantiable RX6 11 ∈ gt := gt_at 45 (by decide +kernel) rfl
theorem in_X0 : Cond.instantiable RX0 2 ∈ gt := gt_at 73 (by decide +kernel) rfl
theorem in_X1 : Cond.instantiable RX1 5 ∈ gt := gt_at 86 (by decide +kernel) rfl
theorem in_X3 : Cond.instantiable RX3 2 ∈ gt := gt_at 53 (by decide +kernel) rfl
theorem in_X4 : Cond.instantiable RX4 6 ∈ gt := gt_at 140 (by decide +kernel) rfl
theorem in_X5 : Cond.instantiable RX5 7 ∈ gt := gt_at 67 (by decide +kernel) rfl
theorem in_X7 : Cond.instantiable RX7 34 ∈ gt := gt_at 589 (by decide +kernel) rfl
theorem iz_X6 : Cond.initialized RX6 ∈ gt := gt_at 30 (by decide +kernel) rfl
theorem iz_X0 : Cond.initialized RX0 ∈ gt := gt_at 33 (by decide +kernel) rfl
theorem iz_X1 : Cond.initialized RX1 ∈ gt := gt_at 34 (by decide +kernel) rfl
theorem iz_X2 : Cond.initialized RX2 ∈ gt := gt_at 37 (by decide +kernel) rfl
theorem iz_X3 : Cond.initialized RX3 ∈ gt := gt_at 31 (by decide +kernel) rfl
theorem iz_X4 : Cond.initialized RX4 ∈ gt := gt_at 35 (by decide +kernel) rfl
theorem iz_X5 : Cond.initialized RX5 ∈ gt := gt_at 32 (by decide +kernel) rfl
theorem iz_L : Cond.initialized RL ∈ gt := gt_at 29 (by decide +kernel) rfl
theorem iz_X7 : Cond.initialized RX7 ∈ gt := gt_at 36 (by decide +kernel) rfl
theorem iz_J11 : Cond.initialized RJ11 ∈ gt := gt_at 43 (by decide +kernel) rfl
theorem iz_J9 : Cond.initialized RJ9 ∈ gt := gt_at 40 (by decide +kernel) rfl
theorem iz_J0 : Cond.initialized RJ0 ∈ gt := gt_at 38 (by decide +kernel) rfl
theorem iz_J1 : Cond.initialized RJ1 ∈ gt := gt_at 39 (by decide +kernel) rfl
theorem iz_J2 : Cond.initialized RJ2 ∈ gt := gt_at 41 (by decide +kernel) rfl
theorem iz_J3 : Cond.initialized RJ3 ∈ gt := gt_at 42 (by decide +kernel) rfl
theorem ac_boolean : Cond.arrayClass .boolean ∈ gt := gt_at 107 (by decide +kernel) rfl
theorem ac_byte : Cond.arrayClass .byte ∈ gt := gt_at 324 (by decide +kernel) rfl
theorem ac_int : Cond.arrayClass .int ∈ gt := gt_at 65 (by decide +kernel) rfl
theorem oi_1 : Cond.instanceMethod objectInit ∈ gt := gt_at 50 (by decide +kernel) rfl
theorem oi_2 : Cond.code objectInit ⟨#[0xb1]⟩ 1 none ∈ gt := gt_at 51 (by decide +kernel) rfl
abbrev aX6_init (k : Nat) (mc ms : Nat) (av : List Value) (h : AH) (K : Option Value → AH → Prop) : Prop := AM k mc ms yX6_init cX6_init 1 none av h K
abbrev aX6_about (k : Nat) (av : List Value) (h : AH) (K : Option Value → AH → Prop) : Prop := AM k 0 0 yX6_about cX6_about 4 (some .int) av h K
abbrev aX6_as (k : Nat) (av : List Value) (h : AH) (K : Option Value → AH → Prop) : Prop := AM k 0 0 yX6_as cX6_as 3 (some .int) av h K
abbrev aX6_bearable (k : Nat) (av : List Value) (h : AH) (K : Option Value → AH → Prop) : Prop := AM k 0 0 yX6_bearable cX6_bearable 1 (some .int) av h K
abbrev aX6_blank (k : Nat) (av : List Value) (h : AH) (K : Option Value → AH → Prop) : Prop := AM k 0 0 yX6_blank cX6_blank 1 (some .int) av h K
abbrev aX6_blocks (k : Nat) (av : List Value) (h : AH) (K : Option Value → AH → Prop) : Prop := AM k 0 0 yX6_blocks cX6_blocks 2 (some .int) av h K
abbrev aX6_count (k : Nat) (av : List Value) (h : AH) (K : Option Value → AH → Prop) : Prop := AM k 0 0 yX6_count cX6_count 2 (some .int) av h K
abbrev aX6_digest (k : Nat) (av : List Value) (h : AH) (K : Option Value → AH → Prop) : Prop := AM k 0 0 yX6_digest cX6_digest 5 (some .long) av h K
abbrev aX6_fault (k : Nat) (av : List Value) (h : AH) (K : Option Value → AH → Prop) : Prop := AM k 0 0 yX6_fault cX6_fault 1 (some .int) av h K
abbrev aX6_findMend (k : Nat) (av : List Value) (h : AH) (K : Option Value → AH → Prop) : Prop := AM k 0 0 yX6_findMend cX6_findMend 5 none av h K
abbrev aX6_forget (k : Nat) (av : List Value) (h : AH) (K : Option Value → AH → Prop) : Prop := AM k 0 0 yX6_forget cX6_forget 1 (some .int) av h K
abbrev aX6_greatestHeight (k : Nat) (av : List Value) (h : AH) (K : Option Value → AH → Prop) : Prop := AM k 0 0 yX6_greatestHeight cX6_greatestHeight 2 (some .int) av h K
abbrev aX6_hasYard (k : Nat) (av : List Value) (h : AH) (K : Option Value → AH → Prop) : Prop := AM k 0 0 yX6_hasYard cX6_hasYard 1 (some .boolean) av h K
abbrev aX6_hear (k : Nat) (av : List Value) (h : AH) (K : Option Value → AH → Prop) : Prop := AM k 0 0 yX6_hear cX6_hear 5 (some .int) av h K
abbrev aX6_heights (k : Nat) (av : List Value) (h : AH) (K : Option Value → AH → Prop) : Prop := AM k 0 0 yX6_heights cX6_heights 1 (some .int) av h K
abbrev aX6_high (k : Nat) (av : List Value) (h : AH) (K : Option Value → AH → Prop) : Prop := AM k 0 0 yX6_high cX6_high 1 (some .int) av h K
abbrev aX6_image (k : Nat) (av : List Value) (h : AH) (K : Option Value → AH → Prop) : Prop := AM k 0 0 yX6_image cX6_image 1 (some .int) av h K
abbrev aX6_lay (k : Nat) (av : List Value) (h : AH) (K : Option Value → AH → Prop) : Prop := AM k 0 0 yX6_lay cX6_lay 3 (some .int) av h K
abbrev aX6_letter (k : Nat) (av : List Value) (h : AH) (K : Option Value → AH → Prop) : Prop := AM k 0 0 yX6_letter cX6_letter 2 (some .int) av h K
abbrev aX6_mend (k : Nat) (av : List Value) (h : AH) (K : Option Value → AH → Prop) : Prop := AM k 0 0 yX6_mend cX6_mend 2 (some .int) av h K
abbrev aX6_quick (k : Nat) (av : List Value) (h : AH) (K : Option Value → AH → Prop) : Prop := AM k 0 0 yX6_quick cX6_quick 3 (some .int) av h K
abbrev aX6_races (k : Nat) (av : List Value) (h : AH) (K : Option Value → AH → Prop) : Prop := AM k 0 0 yX6_races cX6_races 5 (some .int) av h K
abbrev aX6_refusalOfStep (k : Nat) (av : List Value) (h : AH) (K : Option Value → AH → Prop) : Prop := AM k 0 0 yX6_refusalOfStep cX6_refusalOfStep 2 (some .int) av h K
abbrev aX6_restore (k : Nat) (av : List Value) (h : AH) (K : Option Value → AH → Prop) : Prop := AM k 0 0 yX6_restore cX6_restore 1 (some .int) av h K
abbrev aX6_step (k : Nat) (av : List Value) (h : AH) (K : Option Value → AH → Prop) : Prop := AM k 0 0 yX6_step cX6_step 3 (some .int) av h K
abbrev aX6_would (k : Nat) (av : List Value) (h : AH) (K : Option Value → AH → Prop) : Prop := AM k 0 0 yX6_would cX6_would 3 (some .int) av h K
abbrev aX6_yard (k : Nat) (av : List Value) (h : AH) (K : Option Value → AH → Prop) : Prop := AM k 0 0 yX6_yard cX6_yard 1 (some .int) av h K
abbrev aX0_init (k : Nat) (mc ms : Nat) (av : List Value) (h : AH) (K : Option Value → AH → Prop) : Prop := AM k mc ms yX0_init cX0_init 1 none av h K
abbrev aX0_copyFrom (k : Nat) (av : List Value) (h : AH) (K : Option Value → AH → Prop) : Prop := AM k 0 0 yX0_copyFrom cX0_copyFrom 3 none av h K
abbrev aX0_has (k : Nat) (av : List Value) (h : AH) (K : Option Value → AH → Prop) : Prop := AM k 0 0 yX0_has cX0_has 2 (some .boolean) av h K
abbrev aX0_kindAt (k : Nat) (av : List Value) (h : AH) (K : Option Value → AH → Prop) : Prop := AM k 0 0 yX0_kindAt cX0_kindAt 2 (some .int) av h K
abbrev aX0_places (k : Nat) (av : List Value) (h : AH) (K : Option Value → AH → Prop) : Prop := AM k 0 0 yX0_places cX0_places 1 (some .int) av h K
abbrev aX0_plainPlaces (k : Nat) (av : List Value) (h : AH) (K : Option Value → AH → Prop) : Prop := AM k 0 0 yX0_plainPlaces cX0_plainPlaces 3 (some .int) av h K
abbrev aX0_put (k : Nat) (av : List Value) (h : AH) (K : Option Value → AH → Prop) : Prop := AM k 0 0 yX0_put cX0_put 4 (some .int) av h K
abbrev aX0_read (k : Nat) (av : List Value) (h : AH) (K : Option Value → AH → Prop) : Prop := AM k 0 0 yX0_read cX0_read 3 none av h K
abbrev aX1_init (k : Nat) (mc ms : Nat) (av : List Value) (h : AH) (K : Option Value → AH → Prop) : Prop := AM k mc ms yX1_init cX1_init 1 none av h K
abbrev aX1_allows (k : Nat) (av : List Value) (h : AH) (K : Option Value → AH → Prop) : Prop := AM k 0 0 yX1_allows cX1_allows 5 (some .boolean) av h K
abbrev aX1_append (k : Nat) (av : List Value) (h : AH) (K : Option Value → AH → Prop) : Prop := AM k 0 0 yX1_append cX1_append 5 (some .boolean) av h K
abbrev aX1_bestTry (k : Nat) (av : List Value) (h : AH) (K : Option Value → AH → Prop) : Prop := AM k 0 0 yX1_bestTry cX1_bestTry 9 (some .int) av h K
abbrev aX1_clear (k : Nat) (av : List Value) (h : AH) (K : Option Value → AH → Prop) : Prop := AM k 0 0 yX1_clear cX1_clear 2 (some .int) av h K
abbrev aX1_copyFrom (k : Nat) (av : List Value) (h : AH) (K : Option Value → AH → Prop) : Prop := AM k 0 0 yX1_copyFrom cX1_copyFrom 3 none av h K
abbrev aX1_heightBits (k : Nat) (av : List Value) (h : AH) (K : Option Value → AH → Prop) : Prop := AM k 0 0 yX1_heightBits cX1_heightBits 4 (some .int) av h K
abbrev aX1_leftAtWorst (k : Nat) (av : List Value) (h : AH) (K : Option Value → AH → Prop) : Prop := AM k 0 0 yX1_leftAtWorst cX1_leftAtWorst 5 (some .int) av h K
abbrev aX1_size (k : Nat) (av : List Value) (h : AH) (K : Option Value → AH → Prop) : Prop := AM k 0 0 yX1_size cX1_size 1 (some .int) av h K
abbrev aX2_growth (k : Nat) (av : List Value) (h : AH) (K : Option Value → AH → Prop) : Prop := AM k 0 0 yX2_growth cX2_growth 2 (some .int) av h K
abbrev aX2_isA (k : Nat) (av : List Value) (h : AH) (K : Option Value → AH → Prop) : Prop := AM k 0 0 yX2_isA cX2_isA 2 (some .boolean) av h K
abbrev aX2_isKind (k : Nat) (av : List Value) (h : AH) (K : Option Value → AH → Prop) : Prop := AM k 0 0 yX2_isKind cX2_isKind 1 (some .boolean) av h K
abbrev aX2_ofLetter (k : Nat) (av : List Value) (h : AH) (K : Option Value → AH → Prop) : Prop := AM k 0 0 yX2_ofLetter cX2_ofLetter 1 (some .int) av h K
abbrev aX2_onSpot (k : Nat) (av : List Value) (h : AH) (K : Option Value → AH → Prop) : Prop := AM k 0 0 yX2_onSpot cX2_onSpot 1 (some .int) av h K
abbrev aX2_swayAfter (k : Nat) (av : List Value) (h : AH) (K : Option Value → AH → Prop) : Prop := AM k 0 0 yX2_swayAfter cX2_swayAfter 3 (some .int) av h K
abbrev aX3_init (k : Nat) (mc ms : Nat) (av : List Value) (h : AH) (K : Option Value → AH → Prop) : Prop := AM k mc ms yX3_init cX3_init 1 none av h K
abbrev aX3_append (k : Nat) (av : List Value) (h : AH) (K : Option Value → AH → Prop) : Prop := AM k 0 0 yX3_append cX3_append 2 (some .boolean) av h K
abbrev aX3_clear (k : Nat) (av : List Value) (h : AH) (K : Option Value → AH → Prop) : Prop := AM k 0 0 yX3_clear cX3_clear 2 (some .int) av h K
abbrev aX3_codeAt (k : Nat) (av : List Value) (h : AH) (K : Option Value → AH → Prop) : Prop := AM k 0 0 yX3_codeAt cX3_codeAt 2 (some .int) av h K
abbrev aX3_firstWrong (k : Nat) (av : List Value) (h : AH) (K : Option Value → AH → Prop) : Prop := AM k 0 0 yX3_firstWrong cX3_firstWrong 3 (some .int) av h K
abbrev aX3_height (k : Nat) (av : List Value) (h : AH) (K : Option Value → AH → Prop) : Prop := AM k 0 0 yX3_height cX3_height 1 (some .int) av h K
abbrev aX3_isWhole (k : Nat) (av : List Value) (h : AH) (K : Option Value → AH → Prop) : Prop := AM k 0 0 yX3_isWhole cX3_isWhole 2 (some .boolean) av h K
abbrev aX3_placesAhead (k : Nat) (av : List Value) (h : AH) (K : Option Value → AH → Prop) : Prop := AM k 0 0 yX3_placesAhead cX3_placesAhead 2 (some .int) av h K
abbrev aX3_size (k : Nat) (av : List Value) (h : AH) (K : Option Value → AH → Prop) : Prop := AM k 0 0 yX3_size cX3_size 1 (some .int) av h K
abbrev aX4_init (k : Nat) (mc ms : Nat) (av : List Value) (h : AH) (K : Option Value → AH → Prop) : Prop := AM k mc ms yX4_init cX4_init 1 none av h K
abbrev aX4_farOfStep (k : Nat) (av : List Value) (h : AH) (K : Option Value → AH → Prop) : Prop := AM k 0 0 yX4_farOfStep cX4_farOfStep 4 (some .int) av h K
abbrev aX4_fewest (k : Nat) (av : List Value) (h : AH) (K : Option Value → AH → Prop) : Prop := AM k 0 0 yX4_fewest cX4_fewest 7 (some .int) av h K
abbrev aX4_goOn (k : Nat) (av : List Value) (h : AH) (K : Option Value → AH → Prop) : Prop := AM k 0 0 yX4_goOn cX4_goOn 9 none av h K
abbrev aX4_isSpot (k : Nat) (av : List Value) (h : AH) (K : Option Value → AH → Prop) : Prop := AM k 0 0 yX4_isSpot cX4_isSpot 1 (some .boolean) av h K
abbrev aX4_reach (k : Nat) (av : List Value) (h : AH) (K : Option Value → AH → Prop) : Prop := AM k 0 0 yX4_reach cX4_reach 7 none av h K
abbrev aX4_stepsOf (k : Nat) (av : List Value) (h : AH) (K : Option Value → AH → Prop) : Prop := AM k 0 0 yX4_stepsOf cX4_stepsOf 2 (some .int) av h K
abbrev aX5_init (k : Nat) (mc ms : Nat) (av : List Value) (h : AH) (K : Option Value → AH → Prop) : Prop := AM k mc ms yX5_init cX5_init 1 none av h K
abbrev aX5_backToStart (k : Nat) (av : List Value) (h : AH) (K : Option Value → AH → Prop) : Prop := AM k 0 0 yX5_backToStart cX5_backToStart 1 none av h K
abbrev aX5_begin (k : Nat) (av : List Value) (h : AH) (K : Option Value → AH → Prop) : Prop := AM k 0 0 yX5_begin cX5_begin 2 none av h K
abbrev aX5_changeHeight (k : Nat) (av : List Value) (h : AH) (K : Option Value → AH → Prop) : Prop := AM k 0 0 yX5_changeHeight cX5_changeHeight 3 (some .int) av h K
abbrev aX5_copyFrom (k : Nat) (av : List Value) (h : AH) (K : Option Value → AH → Prop) : Prop := AM k 0 0 yX5_copyFrom cX5_copyFrom 2 none av h K
abbrev aX5_go (k : Nat) (av : List Value) (h : AH) (K : Option Value → AH → Prop) : Prop := AM k 0 0 yX5_go cX5_go 3 (some .boolean) av h K
abbrev aX5_race (k : Nat) (av : List Value) (h : AH) (K : Option Value → AH → Prop) : Prop := AM k 0 0 yX5_race cX5_race 7 (some .int) av h K
abbrev aX5_swayBy (k : Nat) (av : List Value) (h : AH) (K : Option Value → AH → Prop) : Prop := AM k 0 0 yX5_swayBy cX5_swayBy 2 (some .int) av h K
abbrev aX7_init (k : Nat) (mc ms : Nat) (av : List Value) (h : AH) (K : Option Value → AH → Prop) : Prop := AM k mc ms yX7_init cX7_init 1 none av h K
abbrev aX7_about (k : Nat) (av : List Value) (h : AH) (K : Option Value → AH → Prop) : Prop := AM k 0 0 yX7_about cX7_about 3 (some .int) av h K
abbrev aX7_as (k : Nat) (av : List Value) (h : AH) (K : Option Value → AH → Prop) : Prop := AM k 0 0 yX7_as cX7_as 4 (some .int) av h K
abbrev aX7_at (k : Nat) (av : List Value) (h : AH) (K : Option Value → AH → Prop) : Prop := AM k 0 0 yX7_at cX7_at 2 (some .int) av h K
abbrev aX7_bears (k : Nat) (av : List Value) (h : AH) (K : Option Value → AH → Prop) : Prop := AM k 0 0 yX7_bears cX7_bears 1 (some .int) av h K
abbrev aX7_blank (k : Nat) (av : List Value) (h : AH) (K : Option Value → AH → Prop) : Prop := AM k 0 0 yX7_blank cX7_blank 2 (some .int) av h K
abbrev aX7_blocks (k : Nat) (av : List Value) (h : AH) (K : Option Value → AH → Prop) : Prop := AM k 0 0 yX7_blocks cX7_blocks 3 (some .int) av h K
abbrev aX7_count (k : Nat) (av : List Value) (h : AH) (K : Option Value → AH → Prop) : Prop := AM k 0 0 yX7_count cX7_count 2 (some .int) av h K
abbrev aX7_digest (k : Nat) (av : List Value) (h : AH) (K : Option Value → AH → Prop) : Prop := AM k 0 0 yX7_digest cX7_digest 3 (some .long) av h K
abbrev aX7_draw (k : Nat) (av : List Value) (h : AH) (K : Option Value → AH → Prop) : Prop := AM k 0 0 yX7_draw cX7_draw 2 (some .int) av h K
abbrev aX7_fault (k : Nat) (av : List Value) (h : AH) (K : Option Value → AH → Prop) : Prop := AM k 0 0 yX7_fault cX7_fault 1 (some .int) av h K
abbrev aX7_fewBy (k : Nat) (av : List Value) (h : AH) (K : Option Value → AH → Prop) : Prop := AM k 0 0 yX7_fewBy cX7_fewBy 6 (some .int) av h K
abbrev aX7_fewWith (k : Nat) (av : List Value) (h : AH) (K : Option Value → AH → Prop) : Prop := AM k 0 0 yX7_fewWith cX7_fewWith 2 (some .int) av h K
abbrev aX7_forget (k : Nat) (av : List Value) (h : AH) (K : Option Value → AH → Prop) : Prop := AM k 0 0 yX7_forget cX7_forget 2 (some .int) av h K
abbrev aX7_goes (k : Nat) (av : List Value) (h : AH) (K : Option Value → AH → Prop) : Prop := AM k 0 0 yX7_goes cX7_goes 4 (some .boolean) av h K
abbrev aX7_hear (k : Nat) (av : List Value) (h : AH) (K : Option Value → AH → Prop) : Prop := AM k 0 0 yX7_hear cX7_hear 5 (some .int) av h K
abbrev aX7_heights (k : Nat) (av : List Value) (h : AH) (K : Option Value → AH → Prop) : Prop := AM k 0 0 yX7_heights cX7_heights 1 (some .int) av h K
abbrev aX7_heightsNow (k : Nat) (av : List Value) (h : AH) (K : Option Value → AH → Prop) : Prop := AM k 0 0 yX7_heightsNow cX7_heightsNow 5 (some .int) av h K
abbrev aX7_high (k : Nat) (av : List Value) (h : AH) (K : Option Value → AH → Prop) : Prop := AM k 0 0 yX7_high cX7_high 1 (some .int) av h K
abbrev aX7_highNow (k : Nat) (av : List Value) (h : AH) (K : Option Value → AH → Prop) : Prop := AM k 0 0 yX7_highNow cX7_highNow 3 (some .int) av h K
abbrev aX7_howMany (k : Nat) (av : List Value) (h : AH) (K : Option Value → AH → Prop) : Prop := AM k 0 0 yX7_howMany cX7_howMany 2 (some .int) av h K
abbrev aX7_image (k : Nat) (av : List Value) (h : AH) (K : Option Value → AH → Prop) : Prop := AM k 0 0 yX7_image cX7_image 2 (some .int) av h K
abbrev aX7_isIn (k : Nat) (av : List Value) (h : AH) (K : Option Value → AH → Prop) : Prop := AM k 0 0 yX7_isIn cX7_isIn 2 (some .boolean) av h K
abbrev aX7_isPlace (k : Nat) (av : List Value) (h : AH) (K : Option Value → AH → Prop) : Prop := AM k 0 0 yX7_isPlace cX7_isPlace 2 (some .boolean) av h K
abbrev aX7_isShorter (k : Nat) (av : List Value) (h : AH) (K : Option Value → AH → Prop) : Prop := AM k 0 0 yX7_isShorter cX7_isShorter 7 (some .boolean) av h K
abbrev aX7_kindBy (k : Nat) (av : List Value) (h : AH) (K : Option Value → AH → Prop) : Prop := AM k 0 0 yX7_kindBy cX7_kindBy 1 (some .int) av h K
abbrev aX7_lay (k : Nat) (av : List Value) (h : AH) (K : Option Value → AH → Prop) : Prop := AM k 0 0 yX7_lay cX7_lay 4 (some .int) av h K
abbrev aX7_layFew (k : Nat) (av : List Value) (h : AH) (K : Option Value → AH → Prop) : Prop := AM k 0 0 yX7_layFew cX7_layFew 5 none av h K
abbrev aX7_letter (k : Nat) (av : List Value) (h : AH) (K : Option Value → AH → Prop) : Prop := AM k 0 0 yX7_letter cX7_letter 2 (some .int) av h K
abbrev aX7_mend (k : Nat) (av : List Value) (h : AH) (K : Option Value → AH → Prop) : Prop := AM k 0 0 yX7_mend cX7_mend 2 (some .int) av h K
abbrev aX7_mendNow (k : Nat) (av : List Value) (h : AH) (K : Option Value → AH → Prop) : Prop := AM k 0 0 yX7_mendNow cX7_mendNow 7 (some .int) av h K
abbrev aX7_mix (k : Nat) (av : List Value) (h : AH) (K : Option Value → AH → Prop) : Prop := AM k 0 0 yX7_mix cX7_mix 3 none av h K
abbrev aX7_placeNow (k : Nat) (av : List Value) (h : AH) (K : Option Value → AH → Prop) : Prop := AM k 0 0 yX7_placeNow cX7_placeNow 3 (some .int) av h K
abbrev aX7_plain (k : Nat) (av : List Value) (h : AH) (K : Option Value → AH → Prop) : Prop := AM k 0 0 yX7_plain cX7_plain 3 (some .int) av h K
abbrev aX7_quick (k : Nat) (av : List Value) (h : AH) (K : Option Value → AH → Prop) : Prop := AM k 0 0 yX7_quick cX7_quick 2 (some .int) av h K
abbrev aX7_quickNow (k : Nat) (av : List Value) (h : AH) (K : Option Value → AH → Prop) : Prop := AM k 0 0 yX7_quickNow cX7_quickNow 7 (some .int) av h K
abbrev aX7_races (k : Nat) (av : List Value) (h : AH) (K : Option Value → AH → Prop) : Prop := AM k 0 0 yX7_races cX7_races 4 (some .int) av h K
abbrev aX7_racesNow (k : Nat) (av : List Value) (h : AH) (K : Option Value → AH → Prop) : Prop := AM k 0 0 yX7_racesNow cX7_racesNow 10 (some .int) av h K
abbrev aX7_read (k : Nat) (av : List Value) (h : AH) (K : Option Value → AH → Prop) : Prop := AM k 0 0 yX7_read cX7_read 3 (some .int) av h K
abbrev aX7_restore (k : Nat) (av : List Value) (h : AH) (K : Option Value → AH → Prop) : Prop := AM k 0 0 yX7_restore cX7_restore 2 (some .int) av h K
abbrev aX7_step (k : Nat) (av : List Value) (h : AH) (K : Option Value → AH → Prop) : Prop := AM k 0 0 yX7_step cX7_step 2 (some .int) av h K
abbrev aX7_swayBy (k : Nat) (av : List Value) (h : AH) (K : Option Value → AH → Prop) : Prop := AM k 0 0 yX7_swayBy cX7_swayBy 6 (some .int) av h K
abbrev aX7_tryAt (k : Nat) (av : List Value) (h : AH) (K : Option Value → AH → Prop) : Prop := AM k 0 0 yX7_tryAt cX7_tryAt 9 (some .int) av h K
abbrev aX7_within (k : Nat) (av : List Value) (h : AH) (K : Option Value → AH → Prop) : Prop := AM k 0 0 yX7_within cX7_within 3 (some .boolean) av h K
abbrev aX7_would (k : Nat) (av : List Value) (h : AH) (K : Option Value → AH → Prop) : Prop := AM k 0 0 yX7_would cX7_would 2 (some .int) av h K
abbrev aX7_yard (k : Nat) (av : List Value) (h : AH) (K : Option Value → AH → Prop) : Prop := AM k 0 0 yX7_yard cX7_yard 3 (some .int) av h K
abbrev aJ9_max_7cf53 (k : Nat) (av : List Value) (h : AH) (K : Option Value → AH → Prop) : Prop := AM k 0 0 yJ9_max_7cf53 cJ9_max_7cf53 2 (some .int) av h K
abbrev aJ9_min_7cf53 (k : Nat) (av : List Value) (h : AH) (K : Option Value → AH → Prop) : Prop := AM k 0 0 yJ9_min_7cf53 cJ9_min_7cf53 2 (some .int) av h K
abbrev aJ0_checkBoundsBeginEnd_23922 (k : Nat) (av : List Value) (h : AH) (K : Option Value → AH → Prop) : Prop := AM k 0 0 yJ0_checkBoundsBeginEnd_23922 cJ0_checkBoundsBeginEnd_23922 3 none av h K
abbrev aJ0_coder_7d493 (k : Nat) (av : List Value) (h : AH) (K : Option Value → AH → Prop) : Prop := AM k 0 0 yJ0_coder_7d493 cJ0_coder_7d493 1 (some .byte) av h K
abbrev aJ0_indexOf_0f7a4 (k : Nat) (av : List Value) (h : AH) (K : Option Value → AH → Prop) : Prop := AM k 0 0 yJ0_indexOf_0f7a4 cJ0_indexOf_0f7a4 2 (some .int) av h K
abbrev aJ0_indexOf_7cf53 (k : Nat) (av : List Value) (h : AH) (K : Option Value → AH → Prop) : Prop := AM k 0 0 yJ0_indexOf_7cf53 cJ0_indexOf_7cf53 3 (some .int) av h K
abbrev aJ0_isLatin1_aae02 (k : Nat) (av : List Value) (h : AH) (K : Option Value → AH → Prop) : Prop := AM k 0 0 yJ0_isLatin1_aae02 cJ0_isLatin1_aae02 1 (some .boolean) av h K
abbrev aJ0_length_8abf5 (k : Nat) (av : List Value) (h : AH) (K : Option Value → AH → Prop) : Prop := AM k 0 0 yJ0_length_8abf5 cJ0_length_8abf5 1 (some .int) av h K
abbrev aJ1_canEncode_9a6ad (k : Nat) (av : List Value) (h : AH) (K : Option Value → AH → Prop) : Prop := AM k 0 0 yJ1_canEncode_9a6ad cJ1_canEncode_9a6ad 1 (some .boolean) av h K
abbrev aJ1_indexOf_4cfef (k : Nat) (av : List Value) (h : AH) (K : Option Value → AH → Prop) : Prop := AM k 0 0 yJ1_indexOf_4cfef cJ1_indexOf_4cfef 4 (some .int) av h K
abbrev aJ1_indexOfChar_4cfef (k : Nat) (av : List Value) (h : AH) (K : Option Value → AH → Prop) : Prop := AM k 0 0 yJ1_indexOfChar_4cfef cJ1_indexOfChar_4cfef 6 (some .int) av h K
