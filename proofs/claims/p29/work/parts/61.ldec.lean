/-! the law's places and words, by program -/
theorem wk_L_7 : Cond.constant RL 7 (zi 763049417) ∈ z_ws := z_ws_t 453 (by decide +kernel) (by decide +kernel)
theorem wk_L_8 : Cond.constant RL 8 (zi 2147483647) ∈ z_ws := z_ws_t 457 (by decide +kernel) (by decide +kernel)
theorem wm_L_9 : Cond.methodLink RL 9 yX5_fingerprint ∈ z_ws := z_ws_t 427 (by decide +kernel) (by decide +kernel)
theorem wc_X5_fingerprint : Cond.code yX5_fingerprint cX5_fingerprint 4 (some .long) ∈ z_ws := z_ws_t 430 (by decide +kernel) (by decide +kernel)
theorem win_X5_fingerprint : Cond.instanceMethod yX5_fingerprint ∈ z_ws := z_ws_t 428 (by decide +kernel) (by decide +kernel)
theorem wse_X5_fingerprint : Cond.selects RX5 yX5_fingerprint yX5_fingerprint ∈ z_ws := z_ws_t 429 (by decide +kernel) (by decide +kernel)
theorem cv_L_9 : z_cv RL 9 yX5_fingerprint cX5_fingerprint 4 (some .long) 0 := z_cv_of wm_L_9 win_X5_fingerprint wse_X5_fingerprint wi_X5 wc_X5_fingerprint (by decide +kernel)
theorem wm_L_15 : Cond.methodLink RL 15 yX5_setting ∈ z_ws := z_ws_t 267 (by decide +kernel) (by decide +kernel)
theorem cv_L_15 : z_cv RL 15 yX5_setting cX5_setting 2 (some .int) 1 := z_cv_of wm_L_15 win_X5_setting wse_X5_setting wi_X5 wc_X5_setting (by decide +kernel)
theorem wm_L_19 : Cond.methodLink RL 19 yX5_append ∈ z_ws := z_ws_t 199 (by decide +kernel) (by decide +kernel)
theorem wc_X5_append : Cond.code yX5_append cX5_append 4 (some .int) ∈ z_ws := z_ws_t 202 (by decide +kernel) (by decide +kernel)
theorem win_X5_append : Cond.instanceMethod yX5_append ∈ z_ws := z_ws_t 200 (by decide +kernel) (by decide +kernel)
theorem wse_X5_append : Cond.selects RX5 yX5_append yX5_append ∈ z_ws := z_ws_t 201 (by decide +kernel) (by decide +kernel)
theorem cv_L_19 : z_cv RL 19 yX5_append cX5_append 4 (some .int) 2 := z_cv_of wm_L_19 win_X5_append wse_X5_append wi_X5 wc_X5_append (by decide +kernel)
theorem wm_L_23 : Cond.methodLink RL 23 yX5_babble ∈ z_ws := z_ws_t 227 (by decide +kernel) (by decide +kernel)
theorem wc_X5_babble : Cond.code yX5_babble cX5_babble 5 (some .int) ∈ z_ws := z_ws_t 230 (by decide +kernel) (by decide +kernel)
theorem win_X5_babble : Cond.instanceMethod yX5_babble ∈ z_ws := z_ws_t 228 (by decide +kernel) (by decide +kernel)
theorem wse_X5_babble : Cond.selects RX5 yX5_babble yX5_babble ∈ z_ws := z_ws_t 229 (by decide +kernel) (by decide +kernel)
theorem cv_L_23 : z_cv RL 23 yX5_babble cX5_babble 5 (some .int) 2 := z_cv_of wm_L_23 win_X5_babble wse_X5_babble wi_X5 wc_X5_babble (by decide +kernel)
theorem wm_L_26 : Cond.methodLink RL 26 yX5_mark ∈ z_ws := z_ws_t 232 (by decide +kernel) (by decide +kernel)
theorem wc_X5_mark : Cond.code yX5_mark cX5_mark 5 (some .int) ∈ z_ws := z_ws_t 235 (by decide +kernel) (by decide +kernel)
theorem win_X5_mark : Cond.instanceMethod yX5_mark ∈ z_ws := z_ws_t 233 (by decide +kernel) (by decide +kernel)
theorem wse_X5_mark : Cond.selects RX5 yX5_mark yX5_mark ∈ z_ws := z_ws_t 234 (by decide +kernel) (by decide +kernel)
theorem cv_L_26 : z_cv RL 26 yX5_mark cX5_mark 5 (some .int) 4 := z_cv_of wm_L_26 win_X5_mark wse_X5_mark wi_X5 wc_X5_mark (by decide +kernel)
theorem wm_L_30 : Cond.methodLink RL 30 yX5_unmark ∈ z_ws := z_ws_t 244 (by decide +kernel) (by decide +kernel)
theorem wc_X5_unmark : Cond.code yX5_unmark cX5_unmark 2 (some .int) ∈ z_ws := z_ws_t 247 (by decide +kernel) (by decide +kernel)
theorem win_X5_unmark : Cond.instanceMethod yX5_unmark ∈ z_ws := z_ws_t 245 (by decide +kernel) (by decide +kernel)
theorem wse_X5_unmark : Cond.selects RX5 yX5_unmark yX5_unmark ∈ z_ws := z_ws_t 246 (by decide +kernel) (by decide +kernel)
theorem cv_L_30 : z_cv RL 30 yX5_unmark cX5_unmark 2 (some .int) 1 := z_cv_of wm_L_30 win_X5_unmark wse_X5_unmark wi_X5 wc_X5_unmark (by decide +kernel)
theorem wm_L_33 : Cond.methodLink RL 33 yX5_hold ∈ z_ws := z_ws_t 257 (by decide +kernel) (by decide +kernel)
theorem wc_X5_hold : Cond.code yX5_hold cX5_hold 4 (some .int) ∈ z_ws := z_ws_t 260 (by decide +kernel) (by decide +kernel)
theorem win_X5_hold : Cond.instanceMethod yX5_hold ∈ z_ws := z_ws_t 258 (by decide +kernel) (by decide +kernel)
theorem wse_X5_hold : Cond.selects RX5 yX5_hold yX5_hold ∈ z_ws := z_ws_t 259 (by decide +kernel) (by decide +kernel)
theorem cv_L_33 : z_cv RL 33 yX5_hold cX5_hold 4 (some .int) 2 := z_cv_of wm_L_33 win_X5_hold wse_X5_hold wi_X5 wc_X5_hold (by decide +kernel)
theorem wm_L_37 : Cond.methodLink RL 37 yX5_set ∈ z_ws := z_ws_t 261 (by decide +kernel) (by decide +kernel)
theorem wc_X5_set : Cond.code yX5_set cX5_set 4 (some .int) ∈ z_ws := z_ws_t 264 (by decide +kernel) (by decide +kernel)
theorem win_X5_set : Cond.instanceMethod yX5_set ∈ z_ws := z_ws_t 262 (by decide +kernel) (by decide +kernel)
theorem wse_X5_set : Cond.selects RX5 yX5_set yX5_set ∈ z_ws := z_ws_t 263 (by decide +kernel) (by decide +kernel)
theorem cv_L_37 : z_cv RL 37 yX5_set cX5_set 4 (some .int) 2 := z_cv_of wm_L_37 win_X5_set wse_X5_set wi_X5 wc_X5_set (by decide +kernel)
theorem wm_L_40 : Cond.methodLink RL 40 yX5_about ∈ z_ws := z_ws_t 271 (by decide +kernel) (by decide +kernel)
theorem wc_X5_about : Cond.code yX5_about cX5_about 3 (some .int) ∈ z_ws := z_ws_t 274 (by decide +kernel) (by decide +kernel)
theorem win_X5_about : Cond.instanceMethod yX5_about ∈ z_ws := z_ws_t 272 (by decide +kernel) (by decide +kernel)
theorem wse_X5_about : Cond.selects RX5 yX5_about yX5_about ∈ z_ws := z_ws_t 273 (by decide +kernel) (by decide +kernel)
theorem cv_L_40 : z_cv RL 40 yX5_about cX5_about 3 (some .int) 2 := z_cv_of wm_L_40 win_X5_about wse_X5_about wi_X5 wc_X5_about (by decide +kernel)
theorem wm_L_43 : Cond.methodLink RL 43 yX5_level ∈ z_ws := z_ws_t 461 (by decide +kernel) (by decide +kernel)
theorem wc_X5_level : Cond.code yX5_level cX5_level 2 (some .int) ∈ z_ws := z_ws_t 464 (by decide +kernel) (by decide +kernel)
theorem win_X5_level : Cond.instanceMethod yX5_level ∈ z_ws := z_ws_t 462 (by decide +kernel) (by decide +kernel)
theorem wse_X5_level : Cond.selects RX5 yX5_level yX5_level ∈ z_ws := z_ws_t 463 (by decide +kernel) (by decide +kernel)
theorem cv_L_43 : z_cv RL 43 yX5_level cX5_level 2 (some .int) 1 := z_cv_of wm_L_43 win_X5_level wse_X5_level wi_X5 wc_X5_level (by decide +kernel)
theorem wm_L_46 : Cond.methodLink RL 46 yX5_cuts ∈ z_ws := z_ws_t 333 (by decide +kernel) (by decide +kernel)
theorem wc_X5_cuts : Cond.code yX5_cuts cX5_cuts 1 (some .int) ∈ z_ws := z_ws_t 336 (by decide +kernel) (by decide +kernel)
theorem win_X5_cuts : Cond.instanceMethod yX5_cuts ∈ z_ws := z_ws_t 334 (by decide +kernel) (by decide +kernel)
theorem wse_X5_cuts : Cond.selects RX5 yX5_cuts yX5_cuts ∈ z_ws := z_ws_t 335 (by decide +kernel) (by decide +kernel)
theorem cv_L_46 : z_cv RL 46 yX5_cuts cX5_cuts 1 (some .int) 0 := z_cv_of wm_L_46 win_X5_cuts wse_X5_cuts wi_X5 wc_X5_cuts (by decide +kernel)
theorem wm_L_50 : Cond.methodLink RL 50 yX5_cut ∈ z_ws := z_ws_t 467 (by decide +kernel) (by decide +kernel)
theorem wc_X5_cut : Cond.code yX5_cut cX5_cut 4 (some .int) ∈ z_ws := z_ws_t 470 (by decide +kernel) (by decide +kernel)
theorem win_X5_cut : Cond.instanceMethod yX5_cut ∈ z_ws := z_ws_t 468 (by decide +kernel) (by decide +kernel)
theorem wse_X5_cut : Cond.selects RX5 yX5_cut yX5_cut ∈ z_ws := z_ws_t 469 (by decide +kernel) (by decide +kernel)
theorem cv_L_50 : z_cv RL 50 yX5_cut cX5_cut 4 (some .int) 2 := z_cv_of wm_L_50 win_X5_cut wse_X5_cut wi_X5 wc_X5_cut (by decide +kernel)
theorem wm_L_53 : Cond.methodLink RL 53 yX5_sum ∈ z_ws := z_ws_t 471 (by decide +kernel) (by decide +kernel)
theorem wc_X5_sum : Cond.code yX5_sum cX5_sum 3 (some .int) ∈ z_ws := z_ws_t 474 (by decide +kernel) (by decide +kernel)
theorem win_X5_sum : Cond.instanceMethod yX5_sum ∈ z_ws := z_ws_t 472 (by decide +kernel) (by decide +kernel)
theorem wse_X5_sum : Cond.selects RX5 yX5_sum yX5_sum ∈ z_ws := z_ws_t 473 (by decide +kernel) (by decide +kernel)
theorem cv_L_53 : z_cv RL 53 yX5_sum cX5_sum 3 (some .int) 1 := z_cv_of wm_L_53 win_X5_sum wse_X5_sum wi_X5 wc_X5_sum (by decide +kernel)
theorem wm_L_56 : Cond.methodLink RL 56 yX5_greatestDoubt ∈ z_ws := z_ws_t 345 (by decide +kernel) (by decide +kernel)
theorem wc_X5_greatestDoubt : Cond.code yX5_greatestDoubt cX5_greatestDoubt 3 (some .int) ∈ z_ws := z_ws_t 348 (by decide +kernel) (by decide +kernel)
theorem win_X5_greatestDoubt : Cond.instanceMethod yX5_greatestDoubt ∈ z_ws := z_ws_t 346 (by decide +kernel) (by decide +kernel)
theorem wse_X5_greatestDoubt : Cond.selects RX5 yX5_greatestDoubt yX5_greatestDoubt ∈ z_ws := z_ws_t 347 (by decide +kernel) (by decide +kernel)
theorem cv_L_56 : z_cv RL 56 yX5_greatestDoubt cX5_greatestDoubt 3 (some .int) 1 := z_cv_of wm_L_56 win_X5_greatestDoubt wse_X5_greatestDoubt wi_X5 wc_X5_greatestDoubt (by decide +kernel)
theorem wm_L_59 : Cond.methodLink RL 59 yX5_length ∈ z_ws := z_ws_t 357 (by decide +kernel) (by decide +kernel)
theorem wc_X5_length : Cond.code yX5_length cX5_length 1 (some .int) ∈ z_ws := z_ws_t 360 (by decide +kernel) (by decide +kernel)
theorem win_X5_length : Cond.instanceMethod yX5_length ∈ z_ws := z_ws_t 358 (by decide +kernel) (by decide +kernel)
theorem wse_X5_length : Cond.selects RX5 yX5_length yX5_length ∈ z_ws := z_ws_t 359 (by decide +kernel) (by decide +kernel)
theorem cv_L_59 : z_cv RL 59 yX5_length cX5_length 1 (some .int) 0 := z_cv_of wm_L_59 win_X5_length wse_X5_length wi_X5 wc_X5_length (by decide +kernel)
theorem wm_L_62 : Cond.methodLink RL 62 yX5_heard ∈ z_ws := z_ws_t 479 (by decide +kernel) (by decide +kernel)
theorem wc_X5_heard : Cond.code yX5_heard cX5_heard 4 (some .int) ∈ z_ws := z_ws_t 482 (by decide +kernel) (by decide +kernel)
theorem win_X5_heard : Cond.instanceMethod yX5_heard ∈ z_ws := z_ws_t 480 (by decide +kernel) (by decide +kernel)
theorem wse_X5_heard : Cond.selects RX5 yX5_heard yX5_heard ∈ z_ws := z_ws_t 481 (by decide +kernel) (by decide +kernel)
theorem cv_L_62 : z_cv RL 62 yX5_heard cX5_heard 4 (some .int) 2 := z_cv_of wm_L_62 win_X5_heard wse_X5_heard wi_X5 wc_X5_heard (by decide +kernel)
theorem wm_L_65 : Cond.methodLink RL 65 yX5_where ∈ z_ws := z_ws_t 483 (by decide +kernel) (by decide +kernel)
theorem wc_X5_where : Cond.code yX5_where cX5_where 2 (some .int) ∈ z_ws := z_ws_t 486 (by decide +kernel) (by decide +kernel)
theorem win_X5_where : Cond.instanceMethod yX5_where ∈ z_ws := z_ws_t 484 (by decide +kernel) (by decide +kernel)
theorem wse_X5_where : Cond.selects RX5 yX5_where yX5_where ∈ z_ws := z_ws_t 485 (by decide +kernel) (by decide +kernel)
theorem cv_L_65 : z_cv RL 65 yX5_where cX5_where 2 (some .int) 1 := z_cv_of wm_L_65 win_X5_where wse_X5_where wi_X5 wc_X5_where (by decide +kernel)
theorem wm_L_68 : Cond.methodLink RL 68 yX5_clicks ∈ z_ws := z_ws_t 491 (by decide +kernel) (by decide +kernel)
theorem wc_X5_clicks : Cond.code yX5_clicks cX5_clicks 2 (some .int) ∈ z_ws := z_ws_t 494 (by decide +kernel) (by decide +kernel)
theorem win_X5_clicks : Cond.instanceMethod yX5_clicks ∈ z_ws := z_ws_t 492 (by decide +kernel) (by decide +kernel)
theorem wse_X5_clicks : Cond.selects RX5 yX5_clicks yX5_clicks ∈ z_ws := z_ws_t 493 (by decide +kernel) (by decide +kernel)
theorem cv_L_68 : z_cv RL 68 yX5_clicks cX5_clicks 2 (some .int) 1 := z_cv_of wm_L_68 win_X5_clicks wse_X5_clicks wi_X5 wc_X5_clicks (by decide +kernel)
theorem wm_L_71 : Cond.methodLink RL 71 yX5_type ∈ z_ws := z_ws_t 502 (by decide +kernel) (by decide +kernel)
theorem wc_X5_type : Cond.code yX5_type cX5_type 2 (some .int) ∈ z_ws := z_ws_t 505 (by decide +kernel) (by decide +kernel)
theorem win_X5_type : Cond.instanceMethod yX5_type ∈ z_ws := z_ws_t 503 (by decide +kernel) (by decide +kernel)
theorem wse_X5_type : Cond.selects RX5 yX5_type yX5_type ∈ z_ws := z_ws_t 504 (by decide +kernel) (by decide +kernel)
theorem cv_L_71 : z_cv RL 71 yX5_type cX5_type 2 (some .int) 1 := z_cv_of wm_L_71 win_X5_type wse_X5_type wi_X5 wc_X5_type (by decide +kernel)
theorem wm_L_74 : Cond.methodLink RL 74 yX5_undo ∈ z_ws := z_ws_t 419 (by decide +kernel) (by decide +kernel)
theorem wc_X5_undo : Cond.code yX5_undo cX5_undo 1 (some .int) ∈ z_ws := z_ws_t 422 (by decide +kernel) (by decide +kernel)
theorem win_X5_undo : Cond.instanceMethod yX5_undo ∈ z_ws := z_ws_t 420 (by decide +kernel) (by decide +kernel)
theorem wse_X5_undo : Cond.selects RX5 yX5_undo yX5_undo ∈ z_ws := z_ws_t 421 (by decide +kernel) (by decide +kernel)
theorem cv_L_74 : z_cv RL 74 yX5_undo cX5_undo 1 (some .int) 0 := z_cv_of wm_L_74 win_X5_undo wse_X5_undo wi_X5 wc_X5_undo (by decide +kernel)
theorem wm_L_77 : Cond.methodLink RL 77 yX5_loudness ∈ z_ws := z_ws_t 398 (by decide +kernel) (by decide +kernel)
theorem wc_X5_loudness : Cond.code yX5_loudness cX5_loudness 2 (some .float) ∈ z_ws := z_ws_t 401 (by decide +kernel) (by decide +kernel)
theorem win_X5_loudness : Cond.instanceMethod yX5_loudness ∈ z_ws := z_ws_t 399 (by decide +kernel) (by decide +kernel)
theorem wse_X5_loudness : Cond.selects RX5 yX5_loudness yX5_loudness ∈ z_ws := z_ws_t 400 (by decide +kernel) (by decide +kernel)
theorem cv_L_77 : z_cv RL 77 yX5_loudness cX5_loudness 2 (some .float) 0 := z_cv_of wm_L_77 win_X5_loudness wse_X5_loudness wi_X5 wc_X5_loudness (by decide +kernel)
theorem wm_L_81 : Cond.methodLink RL 81 yX5_share ∈ z_ws := z_ws_t 406 (by decide +kernel) (by decide +kernel)
theorem wc_X5_share : Cond.code yX5_share cX5_share 2 (some .float) ∈ z_ws := z_ws_t 409 (by decide +kernel) (by decide +kernel)
theorem win_X5_share : Cond.instanceMethod yX5_share ∈ z_ws := z_ws_t 407 (by decide +kernel) (by decide +kernel)
theorem wse_X5_share : Cond.selects RX5 yX5_share yX5_share ∈ z_ws := z_ws_t 408 (by decide +kernel) (by decide +kernel)
theorem cv_L_81 : z_cv RL 81 yX5_share cX5_share 2 (some .float) 0 := z_cv_of wm_L_81 win_X5_share wse_X5_share wi_X5 wc_X5_share (by decide +kernel)
theorem wm_L_84 : Cond.methodLink RL 84 yX5_silence ∈ z_ws := z_ws_t 410 (by decide +kernel) (by decide +kernel)
theorem wc_X5_silence : Cond.code yX5_silence cX5_silence 1 (some .int) ∈ z_ws := z_ws_t 413 (by decide +kernel) (by decide +kernel)
theorem win_X5_silence : Cond.instanceMethod yX5_silence ∈ z_ws := z_ws_t 411 (by decide +kernel) (by decide +kernel)
theorem wse_X5_silence : Cond.selects RX5 yX5_silence yX5_silence ∈ z_ws := z_ws_t 412 (by decide +kernel) (by decide +kernel)
theorem cv_L_84 : z_cv RL 84 yX5_silence cX5_silence 1 (some .int) 0 := z_cv_of wm_L_84 win_X5_silence wse_X5_silence wi_X5 wc_X5_silence (by decide +kernel)
theorem wm_L_87 : Cond.methodLink RL 87 yX5_bestWindow ∈ z_ws := z_ws_t 337 (by decide +kernel) (by decide +kernel)
theorem wc_X5_bestWindow : Cond.code yX5_bestWindow cX5_bestWindow 5 (some .int) ∈ z_ws := z_ws_t 340 (by decide +kernel) (by decide +kernel)
theorem win_X5_bestWindow : Cond.instanceMethod yX5_bestWindow ∈ z_ws := z_ws_t 338 (by decide +kernel) (by decide +kernel)
theorem wse_X5_bestWindow : Cond.selects RX5 yX5_bestWindow yX5_bestWindow ∈ z_ws := z_ws_t 339 (by decide +kernel) (by decide +kernel)
theorem cv_L_87 : z_cv RL 87 yX5_bestWindow cX5_bestWindow 5 (some .int) 0 := z_cv_of wm_L_87 win_X5_bestWindow wse_X5_bestWindow wi_X5 wc_X5_bestWindow (by decide +kernel)
theorem wm_L_91 : Cond.methodLink RL 91 yL_fails ∈ z_ws := z_ws_t 458 (by decide +kernel) (by decide +kernel)
theorem wi_L : Cond.initialized RL ∈ z_ws := z_ws_t 0 (by decide +kernel) (by decide +kernel)
theorem wc_L_fails : Cond.code yL_fails cL_fails 6 (some .boolean) ∈ z_ws := z_ws_t 460 (by decide +kernel) (by decide +kernel)
theorem wst_L_fails : Cond.static yL_fails ∈ z_ws := z_ws_t 459 (by decide +kernel) (by decide +kernel)
theorem cv_L_91 : z_cs RL 91 yL_fails cL_fails 6 (some .boolean) 1 := z_cs_of wm_L_91 wst_L_fails wi_L wc_L_fails (by decide +kernel)
theorem wm_L_97 : Cond.methodLink RL 97 yL_cell ∈ z_ws := z_ws_t 450 (by decide +kernel) (by decide +kernel)
theorem wc_L_cell : Cond.code yL_cell cL_cell 2 (some .int) ∈ z_ws := z_ws_t 452 (by decide +kernel) (by decide +kernel)
theorem wst_L_cell : Cond.static yL_cell ∈ z_ws := z_ws_t 451 (by decide +kernel) (by decide +kernel)
theorem cv_L_97 : z_cs RL 97 yL_cell cL_cell 2 (some .int) 2 := z_cs_of wm_L_97 wst_L_cell wi_L wc_L_cell (by decide +kernel)
theorem wm_L_101 : Cond.methodLink RL 101 yL_up ∈ z_ws := z_ws_t 454 (by decide +kernel) (by decide +kernel)
theorem wc_L_up : Cond.code yL_up cL_up 2 (some .int) ∈ z_ws := z_ws_t 456 (by decide +kernel) (by decide +kernel)
theorem wst_L_up : Cond.static yL_up ∈ z_ws := z_ws_t 455 (by decide +kernel) (by decide +kernel)
theorem cv_L_101 : z_cs RL 101 yL_up cL_up 2 (some .int) 2 := z_cs_of wm_L_101 wst_L_up wi_L wc_L_up (by decide +kernel)
theorem wm_L_104 : Cond.methodLink RL 104 yL_cuts ∈ z_ws := z_ws_t 506 (by decide +kernel) (by decide +kernel)
theorem wc_L_cuts : Cond.code yL_cuts cL_cuts 14 (some .boolean) ∈ z_ws := z_ws_t 508 (by decide +kernel) (by decide +kernel)
theorem wst_L_cuts : Cond.static yL_cuts ∈ z_ws := z_ws_t 507 (by decide +kernel) (by decide +kernel)
theorem cv_L_104 : z_cs RL 104 yL_cuts cL_cuts 14 (some .boolean) 1 := z_cs_of wm_L_104 wst_L_cuts wi_L wc_L_cuts (by decide +kernel)
theorem wm_L_106 : Cond.methodLink RL 106 yL_result ∈ z_ws := z_ws_t 509 (by decide +kernel) (by decide +kernel)
theorem wc_L_result : Cond.code yL_result cL_result 9 (some .boolean) ∈ z_ws := z_ws_t 511 (by decide +kernel) (by decide +kernel)
theorem wst_L_result : Cond.static yL_result ∈ z_ws := z_ws_t 510 (by decide +kernel) (by decide +kernel)
theorem cv_L_106 : z_cs RL 106 yL_result cL_result 9 (some .boolean) 1 := z_cs_of wm_L_106 wst_L_result wi_L wc_L_result (by decide +kernel)
theorem wm_L_109 : Cond.methodLink RL 109 yL_asks ∈ z_ws := z_ws_t 512 (by decide +kernel) (by decide +kernel)
theorem wc_L_asks : Cond.code yL_asks cL_asks 9 (some .boolean) ∈ z_ws := z_ws_t 514 (by decide +kernel) (by decide +kernel)
theorem wst_L_asks : Cond.static yL_asks ∈ z_ws := z_ws_t 513 (by decide +kernel) (by decide +kernel)
theorem cv_L_109 : z_cs RL 109 yL_asks cL_asks 9 (some .boolean) 2 := z_cs_of wm_L_109 wst_L_asks wi_L wc_L_asks (by decide +kernel)
theorem dL_cell_0 : decode cL_cell 0 = .ok (.iload_n 1, 1) := by decide +kernel
theorem dL_cell_1 : decode cL_cell 1 = .ok (.aload_n 0, 1) := by decide +kernel
theorem dL_cell_2 : decode cL_cell 2 = .ok (.arraylength, 1) := by decide +kernel
theorem dL_cell_3 : decode cL_cell 3 = .ok (.if_icmp .ge 9, 3) := by decide +kernel
theorem dL_cell_6 : decode cL_cell 6 = .ok (.aload_n 0, 1) := by decide +kernel
theorem dL_cell_7 : decode cL_cell 7 = .ok (.iload_n 1, 1) := by decide +kernel
theorem dL_cell_8 : decode cL_cell 8 = .ok (.iaload, 1) := by decide +kernel
theorem dL_cell_9 : decode cL_cell 9 = .ok (.goto 9, 3) := by decide +kernel
theorem dL_cell_12 : decode cL_cell 12 = .ok (.ldc 7, 2) := by decide +kernel
theorem dL_cell_14 : decode cL_cell 14 = .ok (.iload_n 1, 1) := by decide +kernel
theorem dL_cell_15 : decode cL_cell 15 = .ok (.iconst 3, 1) := by decide +kernel
theorem dL_cell_16 : decode cL_cell 16 = .ok (.iadd, 1) := by decide +kernel
theorem dL_cell_17 : decode cL_cell 17 = .ok (.imul, 1) := by decide +kernel
theorem dL_cell_18 : decode cL_cell 18 = .ok (.ireturn, 1) := by decide +kernel
theorem dL_up_0 : decode cL_up 0 = .ok (.iload_n 0, 1) := by decide +kernel
theorem dL_up_1 : decode cL_up 1 = .ok (.ldc 8, 2) := by decide +kernel
theorem dL_up_3 : decode cL_up 3 = .ok (.iand, 1) := by decide +kernel
theorem dL_up_4 : decode cL_up 4 = .ok (.iload_n 1, 1) := by decide +kernel
theorem dL_up_5 : decode cL_up 5 = .ok (.irem, 1) := by decide +kernel
theorem dL_up_6 : decode cL_up 6 = .ok (.ireturn, 1) := by decide +kernel
theorem dL_fails_0 : decode cL_fails 0 = .ok (.aload_n 0, 1) := by decide +kernel
theorem dL_fails_1 : decode cL_fails 1 = .ok (.invokevirtual 9, 3) := by decide +kernel
theorem dL_fails_4 : decode cL_fails 4 = .ok (.lstore_n 1, 1) := by decide +kernel
theorem dL_fails_5 : decode cL_fails 5 = .ok (.aload_n 0, 1) := by decide +kernel
theorem dL_fails_6 : decode cL_fails 6 = .ok (.bipush 7, 2) := by decide +kernel
theorem dL_fails_8 : decode cL_fails 8 = .ok (.invokevirtual 15, 3) := by decide +kernel
theorem dL_fails_11 : decode cL_fails 11 = .ok (.istore_n 3, 1) := by decide +kernel
theorem dL_fails_12 : decode cL_fails 12 = .ok (.aload_n 0, 1) := by decide +kernel
theorem dL_fails_13 : decode cL_fails 13 = .ok (.bipush 8, 2) := by decide +kernel
theorem dL_fails_15 : decode cL_fails 15 = .ok (.invokevirtual 15, 3) := by decide +kernel
theorem dL_fails_18 : decode cL_fails 18 = .ok (.istore 4, 2) := by decide +kernel
theorem dL_fails_20 : decode cL_fails 20 = .ok (.aload_n 0, 1) := by decide +kernel
theorem dL_fails_21 : decode cL_fails 21 = .ok (.bipush 10, 2) := by decide +kernel
theorem dL_fails_23 : decode cL_fails 23 = .ok (.iconst 1, 1) := by decide +kernel
theorem dL_fails_24 : decode cL_fails 24 = .ok (.invokevirtual 19, 3) := by decide +kernel
theorem dL_fails_27 : decode cL_fails 27 = .ok (.iconst (-1), 1) := by decide +kernel
theorem dL_fails_28 : decode cL_fails 28 = .ok (.if_icmp .ne 156, 3) := by decide +kernel
theorem dL_fails_31 : decode cL_fails 31 = .ok (.aload_n 0, 1) := by decide +kernel
theorem dL_fails_32 : decode cL_fails 32 = .ok (.iconst 0, 1) := by decide +kernel
theorem dL_fails_33 : decode cL_fails 33 = .ok (.iconst 0, 1) := by decide +kernel
theorem dL_fails_34 : decode cL_fails 34 = .ok (.invokevirtual 19, 3) := by decide +kernel
theorem dL_fails_37 : decode cL_fails 37 = .ok (.iconst (-1), 1) := by decide +kernel
theorem dL_fails_38 : decode cL_fails 38 = .ok (.if_icmp .ne 146, 3) := by decide +kernel
theorem dL_fails_41 : decode cL_fails 41 = .ok (.aload_n 0, 1) := by decide +kernel
theorem dL_fails_42 : decode cL_fails 42 = .ok (.iconst 0, 1) := by decide +kernel
theorem dL_fails_43 : decode cL_fails 43 = .ok (.sipush 201, 3) := by decide +kernel
theorem dL_fails_46 : decode cL_fails 46 = .ok (.invokevirtual 19, 3) := by decide +kernel
theorem dL_fails_49 : decode cL_fails 49 = .ok (.iconst (-1), 1) := by decide +kernel
theorem dL_fails_50 : decode cL_fails 50 = .ok (.if_icmp .ne 134, 3) := by decide +kernel
theorem dL_fails_53 : decode cL_fails 53 = .ok (.aload_n 0, 1) := by decide +kernel
theorem dL_fails_54 : decode cL_fails 54 = .ok (.iconst 1, 1) := by decide +kernel
theorem dL_fails_55 : decode cL_fails 55 = .ok (.iconst 0, 1) := by decide +kernel
theorem dL_fails_56 : decode cL_fails 56 = .ok (.invokevirtual 23, 3) := by decide +kernel
theorem dL_fails_59 : decode cL_fails 59 = .ok (.iconst (-1), 1) := by decide +kernel
theorem dL_fails_60 : decode cL_fails 60 = .ok (.if_icmp .ne 124, 3) := by decide +kernel
theorem dL_fails_63 : decode cL_fails 63 = .ok (.aload_n 0, 1) := by decide +kernel
theorem dL_fails_64 : decode cL_fails 64 = .ok (.iconst 4, 1) := by decide +kernel
theorem dL_fails_65 : decode cL_fails 65 = .ok (.iconst 0, 1) := by decide +kernel
theorem dL_fails_66 : decode cL_fails 66 = .ok (.iconst 1, 1) := by decide +kernel
theorem dL_fails_67 : decode cL_fails 67 = .ok (.iconst 0, 1) := by decide +kernel
theorem dL_fails_68 : decode cL_fails 68 = .ok (.invokevirtual 26, 3) := by decide +kernel
theorem dL_fails_71 : decode cL_fails 71 = .ok (.iconst (-1), 1) := by decide +kernel
theorem dL_fails_72 : decode cL_fails 72 = .ok (.if_icmp .ne 112, 3) := by decide +kernel
theorem dL_fails_75 : decode cL_fails 75 = .ok (.aload_n 0, 1) := by decide +kernel
theorem dL_fails_76 : decode cL_fails 76 = .ok (.iconst 0, 1) := by decide +kernel
theorem dL_fails_77 : decode cL_fails 77 = .ok (.iconst (-1), 1) := by decide +kernel
theorem dL_fails_78 : decode cL_fails 78 = .ok (.iconst 1, 1) := by decide +kernel
theorem dL_fails_79 : decode cL_fails 79 = .ok (.iconst 0, 1) := by decide +kernel
theorem dL_fails_80 : decode cL_fails 80 = .ok (.invokevirtual 26, 3) := by decide +kernel
theorem dL_fails_83 : decode cL_fails 83 = .ok (.iconst (-1), 1) := by decide +kernel
theorem dL_fails_84 : decode cL_fails 84 = .ok (.if_icmp .ne 100, 3) := by decide +kernel
theorem dL_fails_87 : decode cL_fails 87 = .ok (.aload_n 0, 1) := by decide +kernel
theorem dL_fails_88 : decode cL_fails 88 = .ok (.iconst 0, 1) := by decide +kernel
theorem dL_fails_89 : decode cL_fails 89 = .ok (.iconst 0, 1) := by decide +kernel
theorem dL_fails_90 : decode cL_fails 90 = .ok (.iload_n 3, 1) := by decide +kernel
theorem dL_fails_91 : decode cL_fails 91 = .ok (.iconst 1, 1) := by decide +kernel
theorem dL_fails_92 : decode cL_fails 92 = .ok (.iadd, 1) := by decide +kernel
theorem dL_fails_93 : decode cL_fails 93 = .ok (.iconst 0, 1) := by decide +kernel
theorem dL_fails_94 : decode cL_fails 94 = .ok (.invokevirtual 26, 3) := by decide +kernel
theorem dL_fails_97 : decode cL_fails 97 = .ok (.iconst (-1), 1) := by decide +kernel
theorem dL_fails_98 : decode cL_fails 98 = .ok (.if_icmp .ne 86, 3) := by decide +kernel
theorem dL_fails_101 : decode cL_fails 101 = .ok (.aload_n 0, 1) := by decide +kernel
theorem dL_fails_102 : decode cL_fails 102 = .ok (.iconst 0, 1) := by decide +kernel
theorem dL_fails_103 : decode cL_fails 103 = .ok (.iconst 0, 1) := by decide +kernel
theorem dL_fails_104 : decode cL_fails 104 = .ok (.iconst 0, 1) := by decide +kernel
theorem dL_fails_105 : decode cL_fails 105 = .ok (.iconst 0, 1) := by decide +kernel
theorem dL_fails_106 : decode cL_fails 106 = .ok (.invokevirtual 26, 3) := by decide +kernel
theorem dL_fails_109 : decode cL_fails 109 = .ok (.iconst (-1), 1) := by decide +kernel
theorem dL_fails_110 : decode cL_fails 110 = .ok (.if_icmp .ne 74, 3) := by decide +kernel
theorem dL_fails_113 : decode cL_fails 113 = .ok (.aload_n 0, 1) := by decide +kernel
theorem dL_fails_114 : decode cL_fails 114 = .ok (.iconst 0, 1) := by decide +kernel
theorem dL_fails_115 : decode cL_fails 115 = .ok (.iconst 0, 1) := by decide +kernel
theorem dL_fails_116 : decode cL_fails 116 = .ok (.iconst 1, 1) := by decide +kernel
theorem dL_fails_117 : decode cL_fails 117 = .ok (.bipush 101, 2) := by decide +kernel
theorem dL_fails_119 : decode cL_fails 119 = .ok (.invokevirtual 26, 3) := by decide +kernel
theorem dL_fails_122 : decode cL_fails 122 = .ok (.iconst (-1), 1) := by decide +kernel
theorem dL_fails_123 : decode cL_fails 123 = .ok (.if_icmp .ne 61, 3) := by decide +kernel
theorem dL_fails_126 : decode cL_fails 126 = .ok (.aload_n 0, 1) := by decide +kernel
theorem dL_fails_127 : decode cL_fails 127 = .ok (.iload 4, 2) := by decide +kernel
theorem dL_fails_129 : decode cL_fails 129 = .ok (.invokevirtual 30, 3) := by decide +kernel
theorem dL_fails_132 : decode cL_fails 132 = .ok (.iconst (-1), 1) := by decide +kernel
theorem dL_fails_133 : decode cL_fails 133 = .ok (.if_icmp .ne 51, 3) := by decide +kernel
theorem dL_fails_136 : decode cL_fails 136 = .ok (.aload_n 0, 1) := by decide +kernel
theorem dL_fails_137 : decode cL_fails 137 = .ok (.iload 4, 2) := by decide +kernel
theorem dL_fails_139 : decode cL_fails 139 = .ok (.iconst 1, 1) := by decide +kernel
theorem dL_fails_140 : decode cL_fails 140 = .ok (.invokevirtual 33, 3) := by decide +kernel
theorem dL_fails_143 : decode cL_fails 143 = .ok (.iconst (-1), 1) := by decide +kernel
theorem dL_fails_144 : decode cL_fails 144 = .ok (.if_icmp .ne 40, 3) := by decide +kernel
theorem dL_fails_147 : decode cL_fails 147 = .ok (.aload_n 0, 1) := by decide +kernel
theorem dL_fails_148 : decode cL_fails 148 = .ok (.bipush 7, 2) := by decide +kernel
theorem dL_fails_150 : decode cL_fails 150 = .ok (.iconst 1, 1) := by decide +kernel
theorem dL_fails_151 : decode cL_fails 151 = .ok (.invokevirtual 37, 3) := by decide +kernel
theorem dL_fails_154 : decode cL_fails 154 = .ok (.iconst (-1), 1) := by decide +kernel
theorem dL_fails_155 : decode cL_fails 155 = .ok (.if_icmp .ne 29, 3) := by decide +kernel
theorem dL_fails_158 : decode cL_fails 158 = .ok (.aload_n 0, 1) := by decide +kernel
theorem dL_fails_159 : decode cL_fails 159 = .ok (.iconst 0, 1) := by decide +kernel
theorem dL_fails_160 : decode cL_fails 160 = .ok (.bipush 101, 2) := by decide +kernel
theorem dL_fails_162 : decode cL_fails 162 = .ok (.invokevirtual 37, 3) := by decide +kernel
theorem dL_fails_165 : decode cL_fails 165 = .ok (.iconst (-1), 1) := by decide +kernel
theorem dL_fails_166 : decode cL_fails 166 = .ok (.if_icmp .ne 18, 3) := by decide +kernel
theorem dL_fails_169 : decode cL_fails 169 = .ok (.aload_n 0, 1) := by decide +kernel
theorem dL_fails_170 : decode cL_fails 170 = .ok (.iconst 1, 1) := by decide +kernel
theorem dL_fails_171 : decode cL_fails 171 = .ok (.bipush 10, 2) := by decide +kernel
theorem dL_fails_173 : decode cL_fails 173 = .ok (.invokevirtual 37, 3) := by decide +kernel
theorem dL_fails_176 : decode cL_fails 176 = .ok (.iconst (-1), 1) := by decide +kernel
theorem dL_fails_177 : decode cL_fails 177 = .ok (.if_icmp .ne 7, 3) := by decide +kernel
theorem dL_fails_180 : decode cL_fails 180 = .ok (.iconst 1, 1) := by decide +kernel
theorem dL_fails_181 : decode cL_fails 181 = .ok (.goto 4, 3) := by decide +kernel
theorem dL_fails_184 : decode cL_fails 184 = .ok (.iconst 0, 1) := by decide +kernel
theorem dL_fails_185 : decode cL_fails 185 = .ok (.istore 5, 2) := by decide +kernel
theorem dL_fails_187 : decode cL_fails 187 = .ok (.iload 5, 2) := by decide +kernel
theorem dL_fails_189 : decode cL_fails 189 = .ok (.ifCond .eq 161, 3) := by decide +kernel
theorem dL_fails_192 : decode cL_fails 192 = .ok (.aload_n 0, 1) := by decide +kernel
theorem dL_fails_193 : decode cL_fails 193 = .ok (.iconst 2, 1) := by decide +kernel
theorem dL_fails_194 : decode cL_fails 194 = .ok (.bipush 21, 2) := by decide +kernel
theorem dL_fails_196 : decode cL_fails 196 = .ok (.invokevirtual 37, 3) := by decide +kernel
theorem dL_fails_199 : decode cL_fails 199 = .ok (.iconst (-1), 1) := by decide +kernel
theorem dL_fails_200 : decode cL_fails 200 = .ok (.if_icmp .ne 150, 3) := by decide +kernel
theorem dL_fails_203 : decode cL_fails 203 = .ok (.aload_n 0, 1) := by decide +kernel
theorem dL_fails_204 : decode cL_fails 204 = .ok (.iconst 5, 1) := by decide +kernel
theorem dL_fails_205 : decode cL_fails 205 = .ok (.bipush 51, 2) := by decide +kernel
theorem dL_fails_207 : decode cL_fails 207 = .ok (.invokevirtual 37, 3) := by decide +kernel
theorem dL_fails_210 : decode cL_fails 210 = .ok (.iconst (-1), 1) := by decide +kernel
theorem dL_fails_211 : decode cL_fails 211 = .ok (.if_icmp .ne 139, 3) := by decide +kernel
theorem dL_fails_214 : decode cL_fails 214 = .ok (.aload_n 0, 1) := by decide +kernel
theorem dL_fails_215 : decode cL_fails 215 = .ok (.bipush 9, 2) := by decide +kernel
theorem dL_fails_217 : decode cL_fails 217 = .ok (.invokevirtual 15, 3) := by decide +kernel
theorem dL_fails_220 : decode cL_fails 220 = .ok (.iconst (-1), 1) := by decide +kernel
theorem dL_fails_221 : decode cL_fails 221 = .ok (.if_icmp .ne 129, 3) := by decide +kernel
theorem dL_fails_224 : decode cL_fails 224 = .ok (.aload_n 0, 1) := by decide +kernel
theorem dL_fails_225 : decode cL_fails 225 = .ok (.iload 4, 2) := by decide +kernel
theorem dL_fails_227 : decode cL_fails 227 = .ok (.iconst 0, 1) := by decide +kernel
theorem dL_fails_228 : decode cL_fails 228 = .ok (.invokevirtual 40, 3) := by decide +kernel
theorem dL_fails_231 : decode cL_fails 231 = .ok (.iconst (-1), 1) := by decide +kernel
theorem dL_fails_232 : decode cL_fails 232 = .ok (.if_icmp .ne 118, 3) := by decide +kernel
theorem dL_fails_235 : decode cL_fails 235 = .ok (.aload_n 0, 1) := by decide +kernel
theorem dL_fails_236 : decode cL_fails 236 = .ok (.iload_n 3, 1) := by decide +kernel
theorem dL_fails_237 : decode cL_fails 237 = .ok (.invokevirtual 43, 3) := by decide +kernel
theorem dL_fails_240 : decode cL_fails 240 = .ok (.iconst (-1), 1) := by decide +kernel
theorem dL_fails_241 : decode cL_fails 241 = .ok (.if_icmp .ne 109, 3) := by decide +kernel
theorem dL_fails_244 : decode cL_fails 244 = .ok (.aload_n 0, 1) := by decide +kernel
theorem dL_fails_245 : decode cL_fails 245 = .ok (.iconst (-1), 1) := by decide +kernel
theorem dL_fails_246 : decode cL_fails 246 = .ok (.invokevirtual 43, 3) := by decide +kernel
theorem dL_fails_249 : decode cL_fails 249 = .ok (.iconst (-1), 1) := by decide +kernel
theorem dL_fails_250 : decode cL_fails 250 = .ok (.if_icmp .ne 100, 3) := by decide +kernel
theorem dL_fails_253 : decode cL_fails 253 = .ok (.aload_n 0, 1) := by decide +kernel
theorem dL_fails_254 : decode cL_fails 254 = .ok (.aload_n 0, 1) := by decide +kernel
theorem dL_fails_255 : decode cL_fails 255 = .ok (.invokevirtual 46, 3) := by decide +kernel
theorem dL_fails_258 : decode cL_fails 258 = .ok (.iconst 0, 1) := by decide +kernel
theorem dL_fails_259 : decode cL_fails 259 = .ok (.invokevirtual 50, 3) := by decide +kernel
theorem dL_fails_262 : decode cL_fails 262 = .ok (.iconst (-1), 1) := by decide +kernel
theorem dL_fails_263 : decode cL_fails 263 = .ok (.if_icmp .ne 87, 3) := by decide +kernel
theorem dL_fails_266 : decode cL_fails 266 = .ok (.aload_n 0, 1) := by decide +kernel
theorem dL_fails_267 : decode cL_fails 267 = .ok (.iconst 0, 1) := by decide +kernel
theorem dL_fails_268 : decode cL_fails 268 = .ok (.iconst 5, 1) := by decide +kernel
theorem dL_fails_269 : decode cL_fails 269 = .ok (.invokevirtual 50, 3) := by decide +kernel
theorem dL_fails_272 : decode cL_fails 272 = .ok (.iconst (-1), 1) := by decide +kernel
theorem dL_fails_273 : decode cL_fails 273 = .ok (.if_icmp .ne 77, 3) := by decide +kernel
theorem dL_fails_276 : decode cL_fails 276 = .ok (.aload_n 0, 1) := by decide +kernel
theorem dL_fails_277 : decode cL_fails 277 = .ok (.iconst 3, 1) := by decide +kernel
theorem dL_fails_278 : decode cL_fails 278 = .ok (.invokevirtual 53, 3) := by decide +kernel
theorem dL_fails_281 : decode cL_fails 281 = .ok (.iconst (-1), 1) := by decide +kernel
theorem dL_fails_282 : decode cL_fails 282 = .ok (.if_icmp .ne 68, 3) := by decide +kernel
theorem dL_fails_285 : decode cL_fails 285 = .ok (.aload_n 0, 1) := by decide +kernel
theorem dL_fails_286 : decode cL_fails 286 = .ok (.iconst (-1), 1) := by decide +kernel
theorem dL_fails_287 : decode cL_fails 287 = .ok (.invokevirtual 56, 3) := by decide +kernel
theorem dL_fails_290 : decode cL_fails 290 = .ok (.iconst (-1), 1) := by decide +kernel
theorem dL_fails_291 : decode cL_fails 291 = .ok (.if_icmp .ne 59, 3) := by decide +kernel
theorem dL_fails_294 : decode cL_fails 294 = .ok (.aload_n 0, 1) := by decide +kernel
theorem dL_fails_295 : decode cL_fails 295 = .ok (.aload_n 0, 1) := by decide +kernel
theorem dL_fails_296 : decode cL_fails 296 = .ok (.invokevirtual 59, 3) := by decide +kernel
theorem dL_fails_299 : decode cL_fails 299 = .ok (.iconst 0, 1) := by decide +kernel
theorem dL_fails_300 : decode cL_fails 300 = .ok (.invokevirtual 62, 3) := by decide +kernel
theorem dL_fails_303 : decode cL_fails 303 = .ok (.iconst (-1), 1) := by decide +kernel
theorem dL_fails_304 : decode cL_fails 304 = .ok (.if_icmp .ne 46, 3) := by decide +kernel
theorem dL_fails_307 : decode cL_fails 307 = .ok (.aload_n 0, 1) := by decide +kernel
theorem dL_fails_308 : decode cL_fails 308 = .ok (.iconst 0, 1) := by decide +kernel
theorem dL_fails_309 : decode cL_fails 309 = .ok (.iconst 2, 1) := by decide +kernel
theorem dL_fails_310 : decode cL_fails 310 = .ok (.invokevirtual 62, 3) := by decide +kernel
theorem dL_fails_313 : decode cL_fails 313 = .ok (.iconst (-1), 1) := by decide +kernel
theorem dL_fails_314 : decode cL_fails 314 = .ok (.if_icmp .ne 36, 3) := by decide +kernel
theorem dL_fails_317 : decode cL_fails 317 = .ok (.aload_n 0, 1) := by decide +kernel
theorem dL_fails_318 : decode cL_fails 318 = .ok (.iload_n 3, 1) := by decide +kernel
theorem dL_fails_319 : decode cL_fails 319 = .ok (.invokevirtual 65, 3) := by decide +kernel
theorem dL_fails_322 : decode cL_fails 322 = .ok (.iconst (-1), 1) := by decide +kernel
theorem dL_fails_323 : decode cL_fails 323 = .ok (.if_icmp .ne 27, 3) := by decide +kernel
theorem dL_fails_326 : decode cL_fails 326 = .ok (.aload_n 0, 1) := by decide +kernel
theorem dL_fails_327 : decode cL_fails 327 = .ok (.bipush 10, 2) := by decide +kernel
theorem dL_fails_329 : decode cL_fails 329 = .ok (.invokevirtual 68, 3) := by decide +kernel
theorem dL_fails_332 : decode cL_fails 332 = .ok (.iconst (-1), 1) := by decide +kernel
theorem dL_fails_333 : decode cL_fails 333 = .ok (.if_icmp .ne 17, 3) := by decide +kernel
theorem dL_fails_336 : decode cL_fails 336 = .ok (.aload_n 0, 1) := by decide +kernel
theorem dL_fails_337 : decode cL_fails 337 = .ok (.bipush 31, 2) := by decide +kernel
theorem dL_fails_339 : decode cL_fails 339 = .ok (.invokevirtual 71, 3) := by decide +kernel
theorem dL_fails_342 : decode cL_fails 342 = .ok (.iconst (-1), 1) := by decide +kernel
theorem dL_fails_343 : decode cL_fails 343 = .ok (.if_icmp .ne 7, 3) := by decide +kernel
theorem dL_fails_346 : decode cL_fails 346 = .ok (.iconst 1, 1) := by decide +kernel
theorem dL_fails_347 : decode cL_fails 347 = .ok (.goto 4, 3) := by decide +kernel
theorem dL_fails_350 : decode cL_fails 350 = .ok (.iconst 0, 1) := by decide +kernel
theorem dL_fails_351 : decode cL_fails 351 = .ok (.istore 5, 2) := by decide +kernel
theorem dL_fails_353 : decode cL_fails 353 = .ok (.iload 5, 2) := by decide +kernel
theorem dL_fails_355 : decode cL_fails 355 = .ok (.ifCond .eq 57, 3) := by decide +kernel
theorem dL_fails_358 : decode cL_fails 358 = .ok (.iload_n 3, 1) := by decide +kernel
theorem dL_fails_359 : decode cL_fails 359 = .ok (.sipush 200, 3) := by decide +kernel
theorem dL_fails_362 : decode cL_fails 362 = .ok (.if_icmp .eq 26, 3) := by decide +kernel
theorem dL_fails_365 : decode cL_fails 365 = .ok (.aload_n 0, 1) := by decide +kernel
theorem dL_fails_366 : decode cL_fails 366 = .ok (.iconst 1, 1) := by decide +kernel
theorem dL_fails_367 : decode cL_fails 367 = .ok (.sipush 200, 3) := by decide +kernel
theorem dL_fails_370 : decode cL_fails 370 = .ok (.invokevirtual 19, 3) := by decide +kernel
theorem dL_fails_373 : decode cL_fails 373 = .ok (.iload_n 3, 1) := by decide +kernel
theorem dL_fails_374 : decode cL_fails 374 = .ok (.ifCond .ne 9, 3) := by decide +kernel
theorem dL_fails_377 : decode cL_fails 377 = .ok (.sipush 200, 3) := by decide +kernel
theorem dL_fails_380 : decode cL_fails 380 = .ok (.goto 5, 3) := by decide +kernel
theorem dL_fails_383 : decode cL_fails 383 = .ok (.bipush (-3), 2) := by decide +kernel
theorem dL_fails_385 : decode cL_fails 385 = .ok (.if_icmp .ne 27, 3) := by decide +kernel
theorem dL_fails_388 : decode cL_fails 388 = .ok (.iload_n 3, 1) := by decide +kernel
theorem dL_fails_389 : decode cL_fails 389 = .ok (.ifCond .gt 10, 3) := by decide +kernel
theorem dL_fails_392 : decode cL_fails 392 = .ok (.aload_n 0, 1) := by decide +kernel
theorem dL_fails_393 : decode cL_fails 393 = .ok (.invokevirtual 74, 3) := by decide +kernel
theorem dL_fails_396 : decode cL_fails 396 = .ok (.ifCond .lt 16, 3) := by decide +kernel
theorem dL_fails_399 : decode cL_fails 399 = .ok (.aload_n 0, 1) := by decide +kernel
theorem dL_fails_400 : decode cL_fails 400 = .ok (.invokevirtual 9, 3) := by decide +kernel
theorem dL_fails_403 : decode cL_fails 403 = .ok (.lload_n 1, 1) := by decide +kernel
theorem dL_fails_404 : decode cL_fails 404 = .ok (.lcmp, 1) := by decide +kernel
theorem dL_fails_405 : decode cL_fails 405 = .ok (.ifCond .ne 7, 3) := by decide +kernel
theorem dL_fails_408 : decode cL_fails 408 = .ok (.iconst 1, 1) := by decide +kernel
theorem dL_fails_409 : decode cL_fails 409 = .ok (.goto 4, 3) := by decide +kernel
theorem dL_fails_412 : decode cL_fails 412 = .ok (.iconst 0, 1) := by decide +kernel
theorem dL_fails_413 : decode cL_fails 413 = .ok (.ireturn, 1) := by decide +kernel
theorem dL_cuts_0 : decode cL_cuts 0 = .ok (.aload_n 0, 1) := by decide +kernel
theorem dL_cuts_1 : decode cL_cuts 1 = .ok (.invokevirtual 46, 3) := by decide +kernel
theorem dL_cuts_4 : decode cL_cuts 4 = .ok (.istore_n 1, 1) := by decide +kernel
theorem dL_cuts_5 : decode cL_cuts 5 = .ok (.iconst 0, 1) := by decide +kernel
theorem dL_cuts_6 : decode cL_cuts 6 = .ok (.istore_n 2, 1) := by decide +kernel
theorem dL_cuts_7 : decode cL_cuts 7 = .ok (.iconst (-1), 1) := by decide +kernel
theorem dL_cuts_8 : decode cL_cuts 8 = .ok (.istore_n 3, 1) := by decide +kernel
theorem dL_cuts_9 : decode cL_cuts 9 = .ok (.iconst 0, 1) := by decide +kernel
theorem dL_cuts_10 : decode cL_cuts 10 = .ok (.istore 4, 2) := by decide +kernel
theorem dL_cuts_12 : decode cL_cuts 12 = .ok (.iconst 0, 1) := by decide +kernel
theorem dL_cuts_13 : decode cL_cuts 13 = .ok (.istore 5, 2) := by decide +kernel
theorem dL_cuts_15 : decode cL_cuts 15 = .ok (.iconst 0, 1) := by decide +kernel
theorem dL_cuts_16 : decode cL_cuts 16 = .ok (.istore 6, 2) := by decide +kernel
theorem dL_cuts_18 : decode cL_cuts 18 = .ok (.iconst 0, 1) := by decide +kernel
theorem dL_cuts_19 : decode cL_cuts 19 = .ok (.istore 7, 2) := by decide +kernel
theorem dL_cuts_21 : decode cL_cuts 21 = .ok (.iload 7, 2) := by decide +kernel
theorem dL_cuts_23 : decode cL_cuts 23 = .ok (.iload_n 1, 1) := by decide +kernel
theorem dL_cuts_24 : decode cL_cuts 24 = .ok (.if_icmp .ge 367, 3) := by decide +kernel
theorem dL_cuts_27 : decode cL_cuts 27 = .ok (.aload_n 0, 1) := by decide +kernel
theorem dL_cuts_28 : decode cL_cuts 28 = .ok (.iload 7, 2) := by decide +kernel
theorem dL_cuts_30 : decode cL_cuts 30 = .ok (.iconst 0, 1) := by decide +kernel
theorem dL_cuts_31 : decode cL_cuts 31 = .ok (.invokevirtual 50, 3) := by decide +kernel
theorem dL_cuts_34 : decode cL_cuts 34 = .ok (.istore 8, 2) := by decide +kernel
theorem dL_cuts_36 : decode cL_cuts 36 = .ok (.aload_n 0, 1) := by decide +kernel
theorem dL_cuts_37 : decode cL_cuts 37 = .ok (.iload 7, 2) := by decide +kernel
theorem dL_cuts_39 : decode cL_cuts 39 = .ok (.iconst 1, 1) := by decide +kernel
theorem dL_cuts_40 : decode cL_cuts 40 = .ok (.invokevirtual 50, 3) := by decide +kernel
theorem dL_cuts_43 : decode cL_cuts 43 = .ok (.istore 9, 2) := by decide +kernel
theorem dL_cuts_45 : decode cL_cuts 45 = .ok (.aload_n 0, 1) := by decide +kernel
theorem dL_cuts_46 : decode cL_cuts 46 = .ok (.iload 7, 2) := by decide +kernel
theorem dL_cuts_48 : decode cL_cuts 48 = .ok (.iconst 4, 1) := by decide +kernel
theorem dL_cuts_49 : decode cL_cuts 49 = .ok (.invokevirtual 50, 3) := by decide +kernel
theorem dL_cuts_52 : decode cL_cuts 52 = .ok (.istore 10, 2) := by decide +kernel
theorem dL_cuts_54 : decode cL_cuts 54 = .ok (.aload_n 0, 1) := by decide +kernel
theorem dL_cuts_55 : decode cL_cuts 55 = .ok (.iload 10, 2) := by decide +kernel
theorem dL_cuts_57 : decode cL_cuts 57 = .ok (.iconst 0, 1) := by decide +kernel
theorem dL_cuts_58 : decode cL_cuts 58 = .ok (.invokevirtual 40, 3) := by decide +kernel
theorem dL_cuts_61 : decode cL_cuts 61 = .ok (.istore 11, 2) := by decide +kernel
theorem dL_cuts_63 : decode cL_cuts 63 = .ok (.iload 10, 2) := by decide +kernel
theorem dL_cuts_65 : decode cL_cuts 65 = .ok (.iload_n 3, 1) := by decide +kernel
theorem dL_cuts_66 : decode cL_cuts 66 = .ok (.if_icmp .le 138, 3) := by decide +kernel
theorem dL_cuts_69 : decode cL_cuts 69 = .ok (.iload 8, 2) := by decide +kernel
theorem dL_cuts_71 : decode cL_cuts 71 = .ok (.iload_n 2, 1) := by decide +kernel
theorem dL_cuts_72 : decode cL_cuts 72 = .ok (.if_icmp .lt 132, 3) := by decide +kernel
theorem dL_cuts_75 : decode cL_cuts 75 = .ok (.iload 9, 2) := by decide +kernel
theorem dL_cuts_77 : decode cL_cuts 77 = .ok (.iload 8, 2) := by decide +kernel
theorem dL_cuts_79 : decode cL_cuts 79 = .ok (.if_icmp .gt 8, 3) := by decide +kernel
theorem dL_cuts_82 : decode cL_cuts 82 = .ok (.iload 11, 2) := by decide +kernel
theorem dL_cuts_84 : decode cL_cuts 84 = .ok (.ifCond .eq 120, 3) := by decide +kernel
theorem dL_cuts_87 : decode cL_cuts 87 = .ok (.iload 9, 2) := by decide +kernel
theorem dL_cuts_89 : decode cL_cuts 89 = .ok (.iload 8, 2) := by decide +kernel
theorem dL_cuts_91 : decode cL_cuts 91 = .ok (.if_icmp .lt 113, 3) := by decide +kernel
theorem dL_cuts_94 : decode cL_cuts 94 = .ok (.iload 9, 2) := by decide +kernel
theorem dL_cuts_96 : decode cL_cuts 96 = .ok (.aload_n 0, 1) := by decide +kernel
theorem dL_cuts_97 : decode cL_cuts 97 = .ok (.bipush 7, 2) := by decide +kernel
theorem dL_cuts_99 : decode cL_cuts 99 = .ok (.invokevirtual 15, 3) := by decide +kernel
theorem dL_cuts_102 : decode cL_cuts 102 = .ok (.if_icmp .gt 102, 3) := by decide +kernel
theorem dL_cuts_105 : decode cL_cuts 105 = .ok (.aload_n 0, 1) := by decide +kernel
theorem dL_cuts_106 : decode cL_cuts 106 = .ok (.iload 10, 2) := by decide +kernel
theorem dL_cuts_108 : decode cL_cuts 108 = .ok (.iconst 5, 1) := by decide +kernel
theorem dL_cuts_109 : decode cL_cuts 109 = .ok (.invokevirtual 40, 3) := by decide +kernel
theorem dL_cuts_112 : decode cL_cuts 112 = .ok (.iload 7, 2) := by decide +kernel
theorem dL_cuts_114 : decode cL_cuts 114 = .ok (.if_icmp .ne 90, 3) := by decide +kernel
theorem dL_cuts_117 : decode cL_cuts 117 = .ok (.iload 11, 2) := by decide +kernel
theorem dL_cuts_119 : decode cL_cuts 119 = .ok (.iconst 1, 1) := by decide +kernel
theorem dL_cuts_120 : decode cL_cuts 120 = .ok (.if_icmp .gt 84, 3) := by decide +kernel
theorem dL_cuts_123 : decode cL_cuts 123 = .ok (.aload_n 0, 1) := by decide +kernel
theorem dL_cuts_124 : decode cL_cuts 124 = .ok (.iload 10, 2) := by decide +kernel
theorem dL_cuts_126 : decode cL_cuts 126 = .ok (.iconst 4, 1) := by decide +kernel
theorem dL_cuts_127 : decode cL_cuts 127 = .ok (.invokevirtual 40, 3) := by decide +kernel
theorem dL_cuts_130 : decode cL_cuts 130 = .ok (.iconst 1, 1) := by decide +kernel
theorem dL_cuts_131 : decode cL_cuts 131 = .ok (.if_icmp .eq 73, 3) := by decide +kernel
theorem dL_cuts_134 : decode cL_cuts 134 = .ok (.iload 11, 2) := by decide +kernel
theorem dL_cuts_136 : decode cL_cuts 136 = .ok (.ifCond .ne 18, 3) := by decide +kernel
theorem dL_cuts_139 : decode cL_cuts 139 = .ok (.aload_n 0, 1) := by decide +kernel
theorem dL_cuts_140 : decode cL_cuts 140 = .ok (.iload 10, 2) := by decide +kernel
theorem dL_cuts_142 : decode cL_cuts 142 = .ok (.iconst 3, 1) := by decide +kernel
theorem dL_cuts_143 : decode cL_cuts 143 = .ok (.invokevirtual 40, 3) := by decide +kernel
theorem dL_cuts_146 : decode cL_cuts 146 = .ok (.aload_n 0, 1) := by decide +kernel
theorem dL_cuts_147 : decode cL_cuts 147 = .ok (.iconst 0, 1) := by decide +kernel
theorem dL_cuts_148 : decode cL_cuts 148 = .ok (.invokevirtual 15, 3) := by decide +kernel
theorem dL_cuts_151 : decode cL_cuts 151 = .ok (.if_icmp .gt 53, 3) := by decide +kernel
theorem dL_cuts_154 : decode cL_cuts 154 = .ok (.iload 11, 2) := by decide +kernel
theorem dL_cuts_156 : decode cL_cuts 156 = .ok (.iconst 1, 1) := by decide +kernel
theorem dL_cuts_157 : decode cL_cuts 157 = .ok (.if_icmp .ne 49, 3) := by decide +kernel
theorem dL_cuts_160 : decode cL_cuts 160 = .ok (.aload_n 0, 1) := by decide +kernel
theorem dL_cuts_161 : decode cL_cuts 161 = .ok (.iload 7, 2) := by decide +kernel
theorem dL_cuts_163 : decode cL_cuts 163 = .ok (.iconst 2, 1) := by decide +kernel
theorem dL_cuts_164 : decode cL_cuts 164 = .ok (.invokevirtual 50, 3) := by decide +kernel
theorem dL_cuts_167 : decode cL_cuts 167 = .ok (.ifCond .ne 37, 3) := by decide +kernel
theorem dL_cuts_170 : decode cL_cuts 170 = .ok (.aload_n 0, 1) := by decide +kernel
theorem dL_cuts_171 : decode cL_cuts 171 = .ok (.iload 7, 2) := by decide +kernel
theorem dL_cuts_173 : decode cL_cuts 173 = .ok (.iconst 3, 1) := by decide +kernel
theorem dL_cuts_174 : decode cL_cuts 174 = .ok (.invokevirtual 50, 3) := by decide +kernel
theorem dL_cuts_177 : decode cL_cuts 177 = .ok (.ifCond .ne 27, 3) := by decide +kernel
theorem dL_cuts_180 : decode cL_cuts 180 = .ok (.iload 8, 2) := by decide +kernel
theorem dL_cuts_182 : decode cL_cuts 182 = .ok (.aload_n 0, 1) := by decide +kernel
theorem dL_cuts_183 : decode cL_cuts 183 = .ok (.iload 10, 2) := by decide +kernel
theorem dL_cuts_185 : decode cL_cuts 185 = .ok (.iconst 1, 1) := by decide +kernel
theorem dL_cuts_186 : decode cL_cuts 186 = .ok (.invokevirtual 40, 3) := by decide +kernel
theorem dL_cuts_189 : decode cL_cuts 189 = .ok (.if_icmp .lt 15, 3) := by decide +kernel
theorem dL_cuts_192 : decode cL_cuts 192 = .ok (.iload 9, 2) := by decide +kernel
theorem dL_cuts_194 : decode cL_cuts 194 = .ok (.aload_n 0, 1) := by decide +kernel
theorem dL_cuts_195 : decode cL_cuts 195 = .ok (.iload 10, 2) := by decide +kernel
theorem dL_cuts_197 : decode cL_cuts 197 = .ok (.iconst 2, 1) := by decide +kernel
theorem dL_cuts_198 : decode cL_cuts 198 = .ok (.invokevirtual 40, 3) := by decide +kernel
theorem dL_cuts_201 : decode cL_cuts 201 = .ok (.if_icmp .le 5, 3) := by decide +kernel
theorem dL_cuts_204 : decode cL_cuts 204 = .ok (.iconst 0, 1) := by decide +kernel
theorem dL_cuts_205 : decode cL_cuts 205 = .ok (.ireturn, 1) := by decide +kernel
theorem dL_cuts_206 : decode cL_cuts 206 = .ok (.iload 10, 2) := by decide +kernel
theorem dL_cuts_208 : decode cL_cuts 208 = .ok (.iconst 1, 1) := by decide +kernel
theorem dL_cuts_209 : decode cL_cuts 209 = .ok (.iadd, 1) := by decide +kernel
theorem dL_cuts_210 : decode cL_cuts 210 = .ok (.aload_n 0, 1) := by decide +kernel
theorem dL_cuts_211 : decode cL_cuts 211 = .ok (.bipush 8, 2) := by decide +kernel
theorem dL_cuts_213 : decode cL_cuts 213 = .ok (.invokevirtual 15, 3) := by decide +kernel
theorem dL_cuts_216 : decode cL_cuts 216 = .ok (.if_icmp .ge 15, 3) := by decide +kernel
theorem dL_cuts_219 : decode cL_cuts 219 = .ok (.aload_n 0, 1) := by decide +kernel
theorem dL_cuts_220 : decode cL_cuts 220 = .ok (.iload 10, 2) := by decide +kernel
theorem dL_cuts_222 : decode cL_cuts 222 = .ok (.iconst 1, 1) := by decide +kernel
theorem dL_cuts_223 : decode cL_cuts 223 = .ok (.iadd, 1) := by decide +kernel
theorem dL_cuts_224 : decode cL_cuts 224 = .ok (.iconst 1, 1) := by decide +kernel
theorem dL_cuts_225 : decode cL_cuts 225 = .ok (.invokevirtual 40, 3) := by decide +kernel
theorem dL_cuts_228 : decode cL_cuts 228 = .ok (.goto 9, 3) := by decide +kernel
theorem dL_cuts_231 : decode cL_cuts 231 = .ok (.aload_n 0, 1) := by decide +kernel
theorem dL_cuts_232 : decode cL_cuts 232 = .ok (.bipush 7, 2) := by decide +kernel
theorem dL_cuts_234 : decode cL_cuts 234 = .ok (.invokevirtual 15, 3) := by decide +kernel
theorem dL_cuts_237 : decode cL_cuts 237 = .ok (.istore 12, 2) := by decide +kernel
theorem dL_cuts_239 : decode cL_cuts 239 = .ok (.iload 10, 2) := by decide +kernel
theorem dL_cuts_241 : decode cL_cuts 241 = .ok (.ifCond .le 15, 3) := by decide +kernel
theorem dL_cuts_244 : decode cL_cuts 244 = .ok (.aload_n 0, 1) := by decide +kernel
theorem dL_cuts_245 : decode cL_cuts 245 = .ok (.iload 10, 2) := by decide +kernel
theorem dL_cuts_247 : decode cL_cuts 247 = .ok (.iconst 1, 1) := by decide +kernel
theorem dL_cuts_248 : decode cL_cuts 248 = .ok (.isub, 1) := by decide +kernel
theorem dL_cuts_249 : decode cL_cuts 249 = .ok (.iconst 2, 1) := by decide +kernel
theorem dL_cuts_250 : decode cL_cuts 250 = .ok (.invokevirtual 40, 3) := by decide +kernel
theorem dL_cuts_253 : decode cL_cuts 253 = .ok (.goto 4, 3) := by decide +kernel
theorem dL_cuts_256 : decode cL_cuts 256 = .ok (.iconst 0, 1) := by decide +kernel
theorem dL_cuts_257 : decode cL_cuts 257 = .ok (.istore 13, 2) := by decide +kernel
theorem dL_cuts_259 : decode cL_cuts 259 = .ok (.iload 9, 2) := by decide +kernel
theorem dL_cuts_261 : decode cL_cuts 261 = .ok (.iload 12, 2) := by decide +kernel
theorem dL_cuts_263 : decode cL_cuts 263 = .ok (.if_icmp .gt 80, 3) := by decide +kernel
theorem dL_cuts_266 : decode cL_cuts 266 = .ok (.iload 8, 2) := by decide +kernel
theorem dL_cuts_268 : decode cL_cuts 268 = .ok (.iload 13, 2) := by decide +kernel
theorem dL_cuts_270 : decode cL_cuts 270 = .ok (.if_icmp .lt 73, 3) := by decide +kernel
theorem dL_cuts_273 : decode cL_cuts 273 = .ok (.aload_n 0, 1) := by decide +kernel
theorem dL_cuts_274 : decode cL_cuts 274 = .ok (.iload 7, 2) := by decide +kernel
theorem dL_cuts_276 : decode cL_cuts 276 = .ok (.iconst 2, 1) := by decide +kernel
theorem dL_cuts_277 : decode cL_cuts 277 = .ok (.invokevirtual 50, 3) := by decide +kernel
theorem dL_cuts_280 : decode cL_cuts 280 = .ok (.aload_n 0, 1) := by decide +kernel
theorem dL_cuts_281 : decode cL_cuts 281 = .ok (.iconst 3, 1) := by decide +kernel
theorem dL_cuts_282 : decode cL_cuts 282 = .ok (.invokevirtual 15, 3) := by decide +kernel
theorem dL_cuts_285 : decode cL_cuts 285 = .ok (.if_icmp .gt 58, 3) := by decide +kernel
theorem dL_cuts_288 : decode cL_cuts 288 = .ok (.aload_n 0, 1) := by decide +kernel
theorem dL_cuts_289 : decode cL_cuts 289 = .ok (.iload 7, 2) := by decide +kernel
theorem dL_cuts_291 : decode cL_cuts 291 = .ok (.iconst 2, 1) := by decide +kernel
theorem dL_cuts_292 : decode cL_cuts 292 = .ok (.invokevirtual 50, 3) := by decide +kernel
theorem dL_cuts_295 : decode cL_cuts 295 = .ok (.iload 9, 2) := by decide +kernel
theorem dL_cuts_297 : decode cL_cuts 297 = .ok (.iload 8, 2) := by decide +kernel
theorem dL_cuts_299 : decode cL_cuts 299 = .ok (.isub, 1) := by decide +kernel
theorem dL_cuts_300 : decode cL_cuts 300 = .ok (.if_icmp .gt 43, 3) := by decide +kernel
theorem dL_cuts_303 : decode cL_cuts 303 = .ok (.iload 11, 2) := by decide +kernel
theorem dL_cuts_305 : decode cL_cuts 305 = .ok (.ifCond .ne 40, 3) := by decide +kernel
theorem dL_cuts_308 : decode cL_cuts 308 = .ok (.aload_n 0, 1) := by decide +kernel
theorem dL_cuts_309 : decode cL_cuts 309 = .ok (.iload 7, 2) := by decide +kernel
theorem dL_cuts_311 : decode cL_cuts 311 = .ok (.iconst 3, 1) := by decide +kernel
theorem dL_cuts_312 : decode cL_cuts 312 = .ok (.invokevirtual 50, 3) := by decide +kernel
theorem dL_cuts_315 : decode cL_cuts 315 = .ok (.ifCond .ne 30, 3) := by decide +kernel
theorem dL_cuts_318 : decode cL_cuts 318 = .ok (.aload_n 0, 1) := by decide +kernel
theorem dL_cuts_319 : decode cL_cuts 319 = .ok (.iload 8, 2) := by decide +kernel
theorem dL_cuts_321 : decode cL_cuts 321 = .ok (.invokevirtual 43, 3) := by decide +kernel
theorem dL_cuts_324 : decode cL_cuts 324 = .ok (.aload_n 0, 1) := by decide +kernel
theorem dL_cuts_325 : decode cL_cuts 325 = .ok (.iconst 1, 1) := by decide +kernel
theorem dL_cuts_326 : decode cL_cuts 326 = .ok (.invokevirtual 15, 3) := by decide +kernel
theorem dL_cuts_329 : decode cL_cuts 329 = .ok (.if_icmp .le 16, 3) := by decide +kernel
theorem dL_cuts_332 : decode cL_cuts 332 = .ok (.iload 8, 2) := by decide +kernel
theorem dL_cuts_334 : decode cL_cuts 334 = .ok (.aload_n 0, 1) := by decide +kernel
theorem dL_cuts_335 : decode cL_cuts 335 = .ok (.bipush 7, 2) := by decide +kernel
theorem dL_cuts_337 : decode cL_cuts 337 = .ok (.invokevirtual 15, 3) := by decide +kernel
theorem dL_cuts_340 : decode cL_cuts 340 = .ok (.if_icmp .ge 5, 3) := by decide +kernel
theorem dL_cuts_343 : decode cL_cuts 343 = .ok (.iconst 0, 1) := by decide +kernel
theorem dL_cuts_344 : decode cL_cuts 344 = .ok (.ireturn, 1) := by decide +kernel
theorem dL_cuts_345 : decode cL_cuts 345 = .ok (.iload 9, 2) := by decide +kernel
theorem dL_cuts_347 : decode cL_cuts 347 = .ok (.istore_n 2, 1) := by decide +kernel
theorem dL_cuts_348 : decode cL_cuts 348 = .ok (.iload 10, 2) := by decide +kernel
theorem dL_cuts_350 : decode cL_cuts 350 = .ok (.istore_n 3, 1) := by decide +kernel
theorem dL_cuts_351 : decode cL_cuts 351 = .ok (.iload 4, 2) := by decide +kernel
theorem dL_cuts_353 : decode cL_cuts 353 = .ok (.iload 9, 2) := by decide +kernel
theorem dL_cuts_355 : decode cL_cuts 355 = .ok (.iload 8, 2) := by decide +kernel
theorem dL_cuts_357 : decode cL_cuts 357 = .ok (.isub, 1) := by decide +kernel
theorem dL_cuts_358 : decode cL_cuts 358 = .ok (.iadd, 1) := by decide +kernel
theorem dL_cuts_359 : decode cL_cuts 359 = .ok (.istore 4, 2) := by decide +kernel
theorem dL_cuts_361 : decode cL_cuts 361 = .ok (.iload 5, 2) := by decide +kernel
theorem dL_cuts_363 : decode cL_cuts 363 = .ok (.aload_n 0, 1) := by decide +kernel
theorem dL_cuts_364 : decode cL_cuts 364 = .ok (.iload 7, 2) := by decide +kernel
theorem dL_cuts_366 : decode cL_cuts 366 = .ok (.iconst 2, 1) := by decide +kernel
theorem dL_cuts_367 : decode cL_cuts 367 = .ok (.invokevirtual 50, 3) := by decide +kernel
theorem dL_cuts_370 : decode cL_cuts 370 = .ok (.iadd, 1) := by decide +kernel
theorem dL_cuts_371 : decode cL_cuts 371 = .ok (.istore 5, 2) := by decide +kernel
theorem dL_cuts_373 : decode cL_cuts 373 = .ok (.iload 6, 2) := by decide +kernel
theorem dL_cuts_375 : decode cL_cuts 375 = .ok (.aload_n 0, 1) := by decide +kernel
theorem dL_cuts_376 : decode cL_cuts 376 = .ok (.iload 7, 2) := by decide +kernel
theorem dL_cuts_378 : decode cL_cuts 378 = .ok (.iconst 3, 1) := by decide +kernel
theorem dL_cuts_379 : decode cL_cuts 379 = .ok (.invokevirtual 50, 3) := by decide +kernel
theorem dL_cuts_382 : decode cL_cuts 382 = .ok (.iadd, 1) := by decide +kernel
theorem dL_cuts_383 : decode cL_cuts 383 = .ok (.istore 6, 2) := by decide +kernel
theorem dL_cuts_385 : decode cL_cuts 385 = .ok (.iinc 7 1, 3) := by decide +kernel
theorem dL_cuts_388 : decode cL_cuts 388 = .ok (.goto (-367), 3) := by decide +kernel
theorem dL_cuts_391 : decode cL_cuts 391 = .ok (.aload_n 0, 1) := by decide +kernel
theorem dL_cuts_392 : decode cL_cuts 392 = .ok (.iconst 0, 1) := by decide +kernel
theorem dL_cuts_393 : decode cL_cuts 393 = .ok (.invokevirtual 53, 3) := by decide +kernel
theorem dL_cuts_396 : decode cL_cuts 396 = .ok (.iload 4, 2) := by decide +kernel
theorem dL_cuts_398 : decode cL_cuts 398 = .ok (.if_icmp .ne 46, 3) := by decide +kernel
theorem dL_cuts_401 : decode cL_cuts 401 = .ok (.aload_n 0, 1) := by decide +kernel
theorem dL_cuts_402 : decode cL_cuts 402 = .ok (.iconst 1, 1) := by decide +kernel
theorem dL_cuts_403 : decode cL_cuts 403 = .ok (.invokevirtual 53, 3) := by decide +kernel
theorem dL_cuts_406 : decode cL_cuts 406 = .ok (.iload 5, 2) := by decide +kernel
theorem dL_cuts_408 : decode cL_cuts 408 = .ok (.if_icmp .ne 36, 3) := by decide +kernel
theorem dL_cuts_411 : decode cL_cuts 411 = .ok (.aload_n 0, 1) := by decide +kernel
theorem dL_cuts_412 : decode cL_cuts 412 = .ok (.iconst 2, 1) := by decide +kernel
theorem dL_cuts_413 : decode cL_cuts 413 = .ok (.invokevirtual 53, 3) := by decide +kernel
theorem dL_cuts_416 : decode cL_cuts 416 = .ok (.iload 6, 2) := by decide +kernel
theorem dL_cuts_418 : decode cL_cuts 418 = .ok (.if_icmp .ne 26, 3) := by decide +kernel
theorem dL_cuts_421 : decode cL_cuts 421 = .ok (.aload_n 0, 1) := by decide +kernel
theorem dL_cuts_422 : decode cL_cuts 422 = .ok (.invokevirtual 59, 3) := by decide +kernel
theorem dL_cuts_425 : decode cL_cuts 425 = .ok (.aload_n 0, 1) := by decide +kernel
theorem dL_cuts_426 : decode cL_cuts 426 = .ok (.bipush 7, 2) := by decide +kernel
theorem dL_cuts_428 : decode cL_cuts 428 = .ok (.invokevirtual 15, 3) := by decide +kernel
theorem dL_cuts_431 : decode cL_cuts 431 = .ok (.iload 4, 2) := by decide +kernel
theorem dL_cuts_433 : decode cL_cuts 433 = .ok (.isub, 1) := by decide +kernel
theorem dL_cuts_434 : decode cL_cuts 434 = .ok (.iload 5, 2) := by decide +kernel
theorem dL_cuts_436 : decode cL_cuts 436 = .ok (.iadd, 1) := by decide +kernel
theorem dL_cuts_437 : decode cL_cuts 437 = .ok (.if_icmp .ne 7, 3) := by decide +kernel
theorem dL_cuts_440 : decode cL_cuts 440 = .ok (.iconst 1, 1) := by decide +kernel
theorem dL_cuts_441 : decode cL_cuts 441 = .ok (.goto 4, 3) := by decide +kernel
theorem dL_cuts_444 : decode cL_cuts 444 = .ok (.iconst 0, 1) := by decide +kernel
theorem dL_cuts_445 : decode cL_cuts 445 = .ok (.ireturn, 1) := by decide +kernel
theorem dL_result_0 : decode cL_result 0 = .ok (.aload_n 0, 1) := by decide +kernel
theorem dL_result_1 : decode cL_result 1 = .ok (.invokevirtual 59, 3) := by decide +kernel
theorem dL_result_4 : decode cL_result 4 = .ok (.istore_n 1, 1) := by decide +kernel
theorem dL_result_5 : decode cL_result 5 = .ok (.iconst 0, 1) := by decide +kernel
theorem dL_result_6 : decode cL_result 6 = .ok (.istore_n 2, 1) := by decide +kernel
theorem dL_result_7 : decode cL_result 7 = .ok (.iconst 0, 1) := by decide +kernel
theorem dL_result_8 : decode cL_result 8 = .ok (.istore_n 3, 1) := by decide +kernel
theorem dL_result_9 : decode cL_result 9 = .ok (.iconst 0, 1) := by decide +kernel
theorem dL_result_10 : decode cL_result 10 = .ok (.istore 4, 2) := by decide +kernel
theorem dL_result_12 : decode cL_result 12 = .ok (.iconst 0, 1) := by decide +kernel
theorem dL_result_13 : decode cL_result 13 = .ok (.istore 5, 2) := by decide +kernel
theorem dL_result_15 : decode cL_result 15 = .ok (.iconst 0, 1) := by decide +kernel
theorem dL_result_16 : decode cL_result 16 = .ok (.istore 6, 2) := by decide +kernel
theorem dL_result_18 : decode cL_result 18 = .ok (.iload 6, 2) := by decide +kernel
theorem dL_result_20 : decode cL_result 20 = .ok (.iload_n 1, 1) := by decide +kernel
theorem dL_result_21 : decode cL_result 21 = .ok (.if_icmp .ge 140, 3) := by decide +kernel
theorem dL_result_24 : decode cL_result 24 = .ok (.aload_n 0, 1) := by decide +kernel
theorem dL_result_25 : decode cL_result 25 = .ok (.iload 6, 2) := by decide +kernel
theorem dL_result_27 : decode cL_result 27 = .ok (.iconst 0, 1) := by decide +kernel
theorem dL_result_28 : decode cL_result 28 = .ok (.invokevirtual 62, 3) := by decide +kernel
theorem dL_result_31 : decode cL_result 31 = .ok (.istore 7, 2) := by decide +kernel
theorem dL_result_33 : decode cL_result 33 = .ok (.aload_n 0, 1) := by decide +kernel
theorem dL_result_34 : decode cL_result 34 = .ok (.iload 6, 2) := by decide +kernel
theorem dL_result_36 : decode cL_result 36 = .ok (.iconst 1, 1) := by decide +kernel
theorem dL_result_37 : decode cL_result 37 = .ok (.invokevirtual 62, 3) := by decide +kernel
theorem dL_result_40 : decode cL_result 40 = .ok (.istore 8, 2) := by decide +kernel
theorem dL_result_42 : decode cL_result 42 = .ok (.iload 7, 2) := by decide +kernel
theorem dL_result_44 : decode cL_result 44 = .ok (.sipush 1000, 3) := by decide +kernel
theorem dL_result_47 : decode cL_result 47 = .ok (.if_icmp .ge 57, 3) := by decide +kernel
theorem dL_result_50 : decode cL_result 50 = .ok (.iload 7, 2) := by decide +kernel
theorem dL_result_52 : decode cL_result 52 = .ok (.iload_n 2, 1) := by decide +kernel
theorem dL_result_53 : decode cL_result 53 = .ok (.if_icmp .lt 38, 3) := by decide +kernel
theorem dL_result_56 : decode cL_result 56 = .ok (.aload_n 0, 1) := by decide +kernel
theorem dL_result_57 : decode cL_result 57 = .ok (.iload 7, 2) := by decide +kernel
theorem dL_result_59 : decode cL_result 59 = .ok (.invokevirtual 65, 3) := by decide +kernel
theorem dL_result_62 : decode cL_result 62 = .ok (.iload 6, 2) := by decide +kernel
theorem dL_result_64 : decode cL_result 64 = .ok (.if_icmp .ne 27, 3) := by decide +kernel
theorem dL_result_67 : decode cL_result 67 = .ok (.iload 8, 2) := by decide +kernel
theorem dL_result_69 : decode cL_result 69 = .ok (.aload_n 0, 1) := by decide +kernel
theorem dL_result_70 : decode cL_result 70 = .ok (.iload 7, 2) := by decide +kernel
theorem dL_result_72 : decode cL_result 72 = .ok (.invokevirtual 43, 3) := by decide +kernel
theorem dL_result_75 : decode cL_result 75 = .ok (.if_icmp .gt 16, 3) := by decide +kernel
theorem dL_result_78 : decode cL_result 78 = .ok (.iload 8, 2) := by decide +kernel
theorem dL_result_80 : decode cL_result 80 = .ok (.aload_n 0, 1) := by decide +kernel
theorem dL_result_81 : decode cL_result 81 = .ok (.iload 7, 2) := by decide +kernel
theorem dL_result_83 : decode cL_result 83 = .ok (.invokevirtual 43, 3) := by decide +kernel
theorem dL_result_86 : decode cL_result 86 = .ok (.iconst 2, 1) := by decide +kernel
theorem dL_result_87 : decode cL_result 87 = .ok (.idiv, 1) := by decide +kernel
theorem dL_result_88 : decode cL_result 88 = .ok (.if_icmp .ge 5, 3) := by decide +kernel
theorem dL_result_91 : decode cL_result 91 = .ok (.iconst 0, 1) := by decide +kernel
theorem dL_result_92 : decode cL_result 92 = .ok (.ireturn, 1) := by decide +kernel
theorem dL_result_93 : decode cL_result 93 = .ok (.iload 7, 2) := by decide +kernel
theorem dL_result_95 : decode cL_result 95 = .ok (.iconst 1, 1) := by decide +kernel
theorem dL_result_96 : decode cL_result 96 = .ok (.iadd, 1) := by decide +kernel
theorem dL_result_97 : decode cL_result 97 = .ok (.istore_n 2, 1) := by decide +kernel
theorem dL_result_98 : decode cL_result 98 = .ok (.iinc 5 1, 3) := by decide +kernel
theorem dL_result_101 : decode cL_result 101 = .ok (.goto 47, 3) := by decide +kernel
theorem dL_result_104 : decode cL_result 104 = .ok (.iinc 3 1, 3) := by decide +kernel
theorem dL_result_107 : decode cL_result 107 = .ok (.iload 7, 2) := by decide +kernel
theorem dL_result_109 : decode cL_result 109 = .ok (.sipush 2000, 3) := by decide +kernel
theorem dL_result_112 : decode cL_result 112 = .ok (.if_icmp .ne 11, 3) := by decide +kernel
theorem dL_result_115 : decode cL_result 115 = .ok (.iload 8, 2) := by decide +kernel
theorem dL_result_117 : decode cL_result 117 = .ok (.ifCond .eq 31, 3) := by decide +kernel
theorem dL_result_120 : decode cL_result 120 = .ok (.goto 26, 3) := by decide +kernel
theorem dL_result_123 : decode cL_result 123 = .ok (.iload 7, 2) := by decide +kernel
theorem dL_result_125 : decode cL_result 125 = .ok (.sipush 1199, 3) := by decide +kernel
theorem dL_result_128 : decode cL_result 128 = .ok (.if_icmp .gt 18, 3) := by decide +kernel
theorem dL_result_131 : decode cL_result 131 = .ok (.iload 8, 2) := by decide +kernel
theorem dL_result_133 : decode cL_result 133 = .ok (.aload_n 0, 1) := by decide +kernel
theorem dL_result_134 : decode cL_result 134 = .ok (.iload 7, 2) := by decide +kernel
theorem dL_result_136 : decode cL_result 136 = .ok (.sipush 1000, 3) := by decide +kernel
theorem dL_result_139 : decode cL_result 139 = .ok (.isub, 1) := by decide +kernel
theorem dL_result_140 : decode cL_result 140 = .ok (.invokevirtual 43, 3) := by decide +kernel
theorem dL_result_143 : decode cL_result 143 = .ok (.if_icmp .eq 5, 3) := by decide +kernel
theorem dL_result_146 : decode cL_result 146 = .ok (.iconst 0, 1) := by decide +kernel
theorem dL_result_147 : decode cL_result 147 = .ok (.ireturn, 1) := by decide +kernel
theorem dL_result_148 : decode cL_result 148 = .ok (.iload 4, 2) := by decide +kernel
theorem dL_result_150 : decode cL_result 150 = .ok (.iload 8, 2) := by decide +kernel
theorem dL_result_152 : decode cL_result 152 = .ok (.iadd, 1) := by decide +kernel
theorem dL_result_153 : decode cL_result 153 = .ok (.istore 4, 2) := by decide +kernel
theorem dL_result_155 : decode cL_result 155 = .ok (.iinc 6 1, 3) := by decide +kernel
theorem dL_result_158 : decode cL_result 158 = .ok (.goto (-140), 3) := by decide +kernel
theorem dL_result_161 : decode cL_result 161 = .ok (.iconst 0, 1) := by decide +kernel
theorem dL_result_162 : decode cL_result 162 = .ok (.istore 6, 2) := by decide +kernel
theorem dL_result_164 : decode cL_result 164 = .ok (.iconst 0, 1) := by decide +kernel
theorem dL_result_165 : decode cL_result 165 = .ok (.istore 7, 2) := by decide +kernel
theorem dL_result_167 : decode cL_result 167 = .ok (.iload 7, 2) := by decide +kernel
theorem dL_result_169 : decode cL_result 169 = .ok (.aload_n 0, 1) := by decide +kernel
theorem dL_result_170 : decode cL_result 170 = .ok (.bipush 7, 2) := by decide +kernel
theorem dL_result_172 : decode cL_result 172 = .ok (.invokevirtual 15, 3) := by decide +kernel
theorem dL_result_175 : decode cL_result 175 = .ok (.if_icmp .ge 28, 3) := by decide +kernel
theorem dL_result_178 : decode cL_result 178 = .ok (.iload 6, 2) := by decide +kernel
theorem dL_result_180 : decode cL_result 180 = .ok (.aload_n 0, 1) := by decide +kernel
theorem dL_result_181 : decode cL_result 181 = .ok (.iload 7, 2) := by decide +kernel
theorem dL_result_183 : decode cL_result 183 = .ok (.invokevirtual 65, 3) := by decide +kernel
theorem dL_result_186 : decode cL_result 186 = .ok (.ifCond .ge 7, 3) := by decide +kernel
theorem dL_result_189 : decode cL_result 189 = .ok (.iconst 1, 1) := by decide +kernel
theorem dL_result_190 : decode cL_result 190 = .ok (.goto 4, 3) := by decide +kernel
theorem dL_result_193 : decode cL_result 193 = .ok (.iconst 0, 1) := by decide +kernel
theorem dL_result_194 : decode cL_result 194 = .ok (.iadd, 1) := by decide +kernel
theorem dL_result_195 : decode cL_result 195 = .ok (.istore 6, 2) := by decide +kernel
theorem dL_result_197 : decode cL_result 197 = .ok (.iinc 7 1, 3) := by decide +kernel
theorem dL_result_200 : decode cL_result 200 = .ok (.goto (-33), 3) := by decide +kernel
theorem dL_result_203 : decode cL_result 203 = .ok (.iload_n 1, 1) := by decide +kernel
theorem dL_result_204 : decode cL_result 204 = .ok (.ifCond .ne 7, 3) := by decide +kernel
theorem dL_result_207 : decode cL_result 207 = .ok (.fconst 0, 1) := by decide +kernel
theorem dL_result_208 : decode cL_result 208 = .ok (.goto 9, 3) := by decide +kernel
theorem dL_result_211 : decode cL_result 211 = .ok (.iload 4, 2) := by decide +kernel
theorem dL_result_213 : decode cL_result 213 = .ok (.i2f, 1) := by decide +kernel
theorem dL_result_214 : decode cL_result 214 = .ok (.iload_n 1, 1) := by decide +kernel
theorem dL_result_215 : decode cL_result 215 = .ok (.i2f, 1) := by decide +kernel
theorem dL_result_216 : decode cL_result 216 = .ok (.fdiv, 1) := by decide +kernel
theorem dL_result_217 : decode cL_result 217 = .ok (.fstore 7, 2) := by decide +kernel
theorem dL_result_219 : decode cL_result 219 = .ok (.aload_n 0, 1) := by decide +kernel
theorem dL_result_220 : decode cL_result 220 = .ok (.bipush 7, 2) := by decide +kernel
theorem dL_result_222 : decode cL_result 222 = .ok (.invokevirtual 15, 3) := by decide +kernel
theorem dL_result_225 : decode cL_result 225 = .ok (.ifCond .ne 7, 3) := by decide +kernel
theorem dL_result_228 : decode cL_result 228 = .ok (.fconst 0, 1) := by decide +kernel
theorem dL_result_229 : decode cL_result 229 = .ok (.goto 14, 3) := by decide +kernel
theorem dL_result_232 : decode cL_result 232 = .ok (.iload 5, 2) := by decide +kernel
theorem dL_result_234 : decode cL_result 234 = .ok (.i2f, 1) := by decide +kernel
theorem dL_result_235 : decode cL_result 235 = .ok (.aload_n 0, 1) := by decide +kernel
theorem dL_result_236 : decode cL_result 236 = .ok (.bipush 7, 2) := by decide +kernel
theorem dL_result_238 : decode cL_result 238 = .ok (.invokevirtual 15, 3) := by decide +kernel
theorem dL_result_241 : decode cL_result 241 = .ok (.i2f, 1) := by decide +kernel
theorem dL_result_242 : decode cL_result 242 = .ok (.fdiv, 1) := by decide +kernel
theorem dL_result_243 : decode cL_result 243 = .ok (.fstore 8, 2) := by decide +kernel
theorem dL_result_245 : decode cL_result 245 = .ok (.iload_n 3, 1) := by decide +kernel
theorem dL_result_246 : decode cL_result 246 = .ok (.aload_n 0, 1) := by decide +kernel
theorem dL_result_247 : decode cL_result 247 = .ok (.iconst 1, 1) := by decide +kernel
theorem dL_result_248 : decode cL_result 248 = .ok (.invokevirtual 53, 3) := by decide +kernel
theorem dL_result_251 : decode cL_result 251 = .ok (.if_icmp .ne 71, 3) := by decide +kernel
theorem dL_result_254 : decode cL_result 254 = .ok (.iload 6, 2) := by decide +kernel
theorem dL_result_256 : decode cL_result 256 = .ok (.aload_n 0, 1) := by decide +kernel
theorem dL_result_257 : decode cL_result 257 = .ok (.iconst 0, 1) := by decide +kernel
theorem dL_result_258 : decode cL_result 258 = .ok (.invokevirtual 53, 3) := by decide +kernel
theorem dL_result_261 : decode cL_result 261 = .ok (.if_icmp .ne 61, 3) := by decide +kernel
theorem dL_result_264 : decode cL_result 264 = .ok (.aload_n 0, 1) := by decide +kernel
theorem dL_result_265 : decode cL_result 265 = .ok (.invokevirtual 77, 3) := by decide +kernel
theorem dL_result_268 : decode cL_result 268 = .ok (.fload 7, 2) := by decide +kernel
theorem dL_result_270 : decode cL_result 270 = .ok (.fcmp .l, 1) := by decide +kernel
theorem dL_result_271 : decode cL_result 271 = .ok (.ifCond .ne 51, 3) := by decide +kernel
theorem dL_result_274 : decode cL_result 274 = .ok (.aload_n 0, 1) := by decide +kernel
theorem dL_result_275 : decode cL_result 275 = .ok (.invokevirtual 81, 3) := by decide +kernel
theorem dL_result_278 : decode cL_result 278 = .ok (.fload 8, 2) := by decide +kernel
theorem dL_result_280 : decode cL_result 280 = .ok (.fcmp .l, 1) := by decide +kernel
theorem dL_result_281 : decode cL_result 281 = .ok (.ifCond .ne 41, 3) := by decide +kernel
theorem dL_result_284 : decode cL_result 284 = .ok (.aload_n 0, 1) := by decide +kernel
theorem dL_result_285 : decode cL_result 285 = .ok (.bipush 9, 2) := by decide +kernel
theorem dL_result_287 : decode cL_result 287 = .ok (.invokevirtual 68, 3) := by decide +kernel
theorem dL_result_290 : decode cL_result 290 = .ok (.ifCond .ne 32, 3) := by decide +kernel
theorem dL_result_293 : decode cL_result 293 = .ok (.aload_n 0, 1) := by decide +kernel
theorem dL_result_294 : decode cL_result 294 = .ok (.iconst 0, 1) := by decide +kernel
theorem dL_result_295 : decode cL_result 295 = .ok (.invokevirtual 68, 3) := by decide +kernel
theorem dL_result_298 : decode cL_result 298 = .ok (.iload_n 1, 1) := by decide +kernel
theorem dL_result_299 : decode cL_result 299 = .ok (.ifCond .ne 7, 3) := by decide +kernel
theorem dL_result_302 : decode cL_result 302 = .ok (.iconst 1, 1) := by decide +kernel
theorem dL_result_303 : decode cL_result 303 = .ok (.goto 4, 3) := by decide +kernel
theorem dL_result_306 : decode cL_result 306 = .ok (.iload_n 1, 1) := by decide +kernel
theorem dL_result_307 : decode cL_result 307 = .ok (.if_icmp .ge 15, 3) := by decide +kernel
theorem dL_result_310 : decode cL_result 310 = .ok (.aload_n 0, 1) := by decide +kernel
theorem dL_result_311 : decode cL_result 311 = .ok (.invokevirtual 84, 3) := by decide +kernel
theorem dL_result_314 : decode cL_result 314 = .ok (.iload_n 1, 1) := by decide +kernel
theorem dL_result_315 : decode cL_result 315 = .ok (.if_icmp .gt 7, 3) := by decide +kernel
theorem dL_result_318 : decode cL_result 318 = .ok (.iconst 1, 1) := by decide +kernel
theorem dL_result_319 : decode cL_result 319 = .ok (.goto 4, 3) := by decide +kernel
theorem dL_result_322 : decode cL_result 322 = .ok (.iconst 0, 1) := by decide +kernel
theorem dL_result_323 : decode cL_result 323 = .ok (.ireturn, 1) := by decide +kernel
theorem dL_asks_0 : decode cL_asks 0 = .ok (.aload_n 0, 1) := by decide +kernel
theorem dL_asks_1 : decode cL_asks 1 = .ok (.invokevirtual 9, 3) := by decide +kernel
theorem dL_asks_4 : decode cL_asks 4 = .ok (.lstore_n 2, 1) := by decide +kernel
theorem dL_asks_5 : decode cL_asks 5 = .ok (.aload_n 0, 1) := by decide +kernel
theorem dL_asks_6 : decode cL_asks 6 = .ok (.invokevirtual 87, 3) := by decide +kernel
theorem dL_asks_9 : decode cL_asks 9 = .ok (.istore 4, 2) := by decide +kernel
theorem dL_asks_11 : decode cL_asks 11 = .ok (.aload_n 0, 1) := by decide +kernel
theorem dL_asks_12 : decode cL_asks 12 = .ok (.iload_n 1, 1) := by decide +kernel
theorem dL_asks_13 : decode cL_asks 13 = .ok (.invokevirtual 56, 3) := by decide +kernel
theorem dL_asks_16 : decode cL_asks 16 = .ok (.istore 5, 2) := by decide +kernel
theorem dL_asks_18 : decode cL_asks 18 = .ok (.aload_n 0, 1) := by decide +kernel
theorem dL_asks_19 : decode cL_asks 19 = .ok (.iconst 2, 1) := by decide +kernel
theorem dL_asks_20 : decode cL_asks 20 = .ok (.invokevirtual 53, 3) := by decide +kernel
theorem dL_asks_23 : decode cL_asks 23 = .ok (.istore 6, 2) := by decide +kernel
theorem dL_asks_25 : decode cL_asks 25 = .ok (.aload_n 0, 1) := by decide +kernel
theorem dL_asks_26 : decode cL_asks 26 = .ok (.iconst 2, 1) := by decide +kernel
theorem dL_asks_27 : decode cL_asks 27 = .ok (.invokevirtual 15, 3) := by decide +kernel
theorem dL_asks_30 : decode cL_asks 30 = .ok (.istore 7, 2) := by decide +kernel
theorem dL_asks_32 : decode cL_asks 32 = .ok (.iload 4, 2) := by decide +kernel
theorem dL_asks_34 : decode cL_asks 34 = .ok (.ifCond .lt 74, 3) := by decide +kernel
theorem dL_asks_37 : decode cL_asks 37 = .ok (.iload 4, 2) := by decide +kernel
theorem dL_asks_39 : decode cL_asks 39 = .ok (.bipush 20, 2) := by decide +kernel
theorem dL_asks_41 : decode cL_asks 41 = .ok (.if_icmp .gt 67, 3) := by decide +kernel
theorem dL_asks_44 : decode cL_asks 44 = .ok (.iload 5, 2) := by decide +kernel
theorem dL_asks_46 : decode cL_asks 46 = .ok (.bipush 100, 2) := by decide +kernel
theorem dL_asks_48 : decode cL_asks 48 = .ok (.if_icmp .gt 60, 3) := by decide +kernel
theorem dL_asks_51 : decode cL_asks 51 = .ok (.iload 5, 2) := by decide +kernel
theorem dL_asks_53 : decode cL_asks 53 = .ok (.bipush (-9), 2) := by decide +kernel
theorem dL_asks_55 : decode cL_asks 55 = .ok (.if_icmp .lt 53, 3) := by decide +kernel
theorem dL_asks_58 : decode cL_asks 58 = .ok (.iload 5, 2) := by decide +kernel
theorem dL_asks_60 : decode cL_asks 60 = .ok (.ifCond .ge 10, 3) := by decide +kernel
theorem dL_asks_63 : decode cL_asks 63 = .ok (.iload 5, 2) := by decide +kernel
theorem dL_asks_65 : decode cL_asks 65 = .ok (.bipush (-9), 2) := by decide +kernel
theorem dL_asks_67 : decode cL_asks 67 = .ok (.if_icmp .ne 41, 3) := by decide +kernel
theorem dL_asks_70 : decode cL_asks 70 = .ok (.aload_n 0, 1) := by decide +kernel
theorem dL_asks_71 : decode cL_asks 71 = .ok (.invokevirtual 9, 3) := by decide +kernel
theorem dL_asks_74 : decode cL_asks 74 = .ok (.lload_n 2, 1) := by decide +kernel
theorem dL_asks_75 : decode cL_asks 75 = .ok (.lcmp, 1) := by decide +kernel
theorem dL_asks_76 : decode cL_asks 76 = .ok (.ifCond .ne 32, 3) := by decide +kernel
theorem dL_asks_79 : decode cL_asks 79 = .ok (.aload_n 0, 1) := by decide +kernel
theorem dL_asks_80 : decode cL_asks 80 = .ok (.iconst 2, 1) := by decide +kernel
theorem dL_asks_81 : decode cL_asks 81 = .ok (.iload 4, 2) := by decide +kernel
theorem dL_asks_83 : decode cL_asks 83 = .ok (.invokevirtual 37, 3) := by decide +kernel
theorem dL_asks_86 : decode cL_asks 86 = .ok (.iload 7, 2) := by decide +kernel
theorem dL_asks_88 : decode cL_asks 88 = .ok (.if_icmp .ne 20, 3) := by decide +kernel
theorem dL_asks_91 : decode cL_asks 91 = .ok (.aload_n 0, 1) := by decide +kernel
theorem dL_asks_92 : decode cL_asks 92 = .ok (.iconst 2, 1) := by decide +kernel
theorem dL_asks_93 : decode cL_asks 93 = .ok (.invokevirtual 53, 3) := by decide +kernel
theorem dL_asks_96 : decode cL_asks 96 = .ok (.iload 6, 2) := by decide +kernel
theorem dL_asks_98 : decode cL_asks 98 = .ok (.if_icmp .gt 10, 3) := by decide +kernel
theorem dL_asks_101 : decode cL_asks 101 = .ok (.aload_n 0, 1) := by decide +kernel
theorem dL_asks_102 : decode cL_asks 102 = .ok (.invokevirtual 74, 3) := by decide +kernel
theorem dL_asks_105 : decode cL_asks 105 = .ok (.ifCond .ge 5, 3) := by decide +kernel
theorem dL_asks_108 : decode cL_asks 108 = .ok (.iconst 0, 1) := by decide +kernel
theorem dL_asks_109 : decode cL_asks 109 = .ok (.ireturn, 1) := by decide +kernel
theorem dL_asks_110 : decode cL_asks 110 = .ok (.aload_n 0, 1) := by decide +kernel
theorem dL_asks_111 : decode cL_asks 111 = .ok (.iconst 0, 1) := by decide +kernel
theorem dL_asks_112 : decode cL_asks 112 = .ok (.invokevirtual 15, 3) := by decide +kernel
theorem dL_asks_115 : decode cL_asks 115 = .ok (.istore 8, 2) := by decide +kernel
theorem dL_asks_117 : decode cL_asks 117 = .ok (.iload 5, 2) := by decide +kernel
theorem dL_asks_119 : decode cL_asks 119 = .ok (.ifCond .lt 31, 3) := by decide +kernel
theorem dL_asks_122 : decode cL_asks 122 = .ok (.aload_n 0, 1) := by decide +kernel
theorem dL_asks_123 : decode cL_asks 123 = .ok (.iconst 0, 1) := by decide +kernel
theorem dL_asks_124 : decode cL_asks 124 = .ok (.iload 5, 2) := by decide +kernel
theorem dL_asks_126 : decode cL_asks 126 = .ok (.invokevirtual 37, 3) := by decide +kernel
theorem dL_asks_129 : decode cL_asks 129 = .ok (.iload 8, 2) := by decide +kernel
theorem dL_asks_131 : decode cL_asks 131 = .ok (.if_icmp .ne 32, 3) := by decide +kernel
theorem dL_asks_134 : decode cL_asks 134 = .ok (.aload_n 0, 1) := by decide +kernel
theorem dL_asks_135 : decode cL_asks 135 = .ok (.iconst 0, 1) := by decide +kernel
theorem dL_asks_136 : decode cL_asks 136 = .ok (.invokevirtual 53, 3) := by decide +kernel
theorem dL_asks_139 : decode cL_asks 139 = .ok (.iload_n 1, 1) := by decide +kernel
theorem dL_asks_140 : decode cL_asks 140 = .ok (.if_icmp .gt 23, 3) := by decide +kernel
theorem dL_asks_143 : decode cL_asks 143 = .ok (.aload_n 0, 1) := by decide +kernel
theorem dL_asks_144 : decode cL_asks 144 = .ok (.invokevirtual 74, 3) := by decide +kernel
theorem dL_asks_147 : decode cL_asks 147 = .ok (.ifCond .lt 16, 3) := by decide +kernel
theorem dL_asks_150 : decode cL_asks 150 = .ok (.aload_n 0, 1) := by decide +kernel
theorem dL_asks_151 : decode cL_asks 151 = .ok (.invokevirtual 9, 3) := by decide +kernel
theorem dL_asks_154 : decode cL_asks 154 = .ok (.lload_n 2, 1) := by decide +kernel
theorem dL_asks_155 : decode cL_asks 155 = .ok (.lcmp, 1) := by decide +kernel
theorem dL_asks_156 : decode cL_asks 156 = .ok (.ifCond .ne 7, 3) := by decide +kernel
theorem dL_asks_159 : decode cL_asks 159 = .ok (.iconst 1, 1) := by decide +kernel
theorem dL_asks_160 : decode cL_asks 160 = .ok (.goto 4, 3) := by decide +kernel
theorem dL_asks_163 : decode cL_asks 163 = .ok (.iconst 0, 1) := by decide +kernel
theorem dL_asks_164 : decode cL_asks 164 = .ok (.ireturn, 1) := by decide +kernel
theorem dL_law_0 : decode cL_law 0 = .ok (.new 10, 3) := by decide +kernel
theorem dL_law_3 : decode cL_law 3 = .ok (.dup, 1) := by decide +kernel
theorem dL_law_4 : decode cL_law 4 = .ok (.invokespecial 90, 3) := by decide +kernel
theorem dL_law_7 : decode cL_law 7 = .ok (.astore_n 1, 1) := by decide +kernel
theorem dL_law_8 : decode cL_law 8 = .ok (.aload_n 1, 1) := by decide +kernel
theorem dL_law_9 : decode cL_law 9 = .ok (.invokevirtual 74, 3) := by decide +kernel
theorem dL_law_12 : decode cL_law 12 = .ok (.bipush (-9), 2) := by decide +kernel
theorem dL_law_14 : decode cL_law 14 = .ok (.if_icmp .ne 66, 3) := by decide +kernel
theorem dL_law_17 : decode cL_law 17 = .ok (.aload_n 1, 1) := by decide +kernel
theorem dL_law_18 : decode cL_law 18 = .ok (.invokevirtual 59, 3) := by decide +kernel
theorem dL_law_21 : decode cL_law 21 = .ok (.ifCond .ne 59, 3) := by decide +kernel
theorem dL_law_24 : decode cL_law 24 = .ok (.aload_n 1, 1) := by decide +kernel
theorem dL_law_25 : decode cL_law 25 = .ok (.invokevirtual 46, 3) := by decide +kernel
theorem dL_law_28 : decode cL_law 28 = .ok (.ifCond .ne 52, 3) := by decide +kernel
theorem dL_law_31 : decode cL_law 31 = .ok (.aload_n 1, 1) := by decide +kernel
theorem dL_law_32 : decode cL_law 32 = .ok (.invokevirtual 77, 3) := by decide +kernel
theorem dL_law_35 : decode cL_law 35 = .ok (.fconst 0, 1) := by decide +kernel
theorem dL_law_36 : decode cL_law 36 = .ok (.fcmp .l, 1) := by decide +kernel
theorem dL_law_37 : decode cL_law 37 = .ok (.ifCond .ne 43, 3) := by decide +kernel
theorem dL_law_40 : decode cL_law 40 = .ok (.aload_n 1, 1) := by decide +kernel
theorem dL_law_41 : decode cL_law 41 = .ok (.invokevirtual 81, 3) := by decide +kernel
theorem dL_law_44 : decode cL_law 44 = .ok (.fconst 0, 1) := by decide +kernel
theorem dL_law_45 : decode cL_law 45 = .ok (.fcmp .l, 1) := by decide +kernel
theorem dL_law_46 : decode cL_law 46 = .ok (.ifCond .ne 34, 3) := by decide +kernel
theorem dL_law_49 : decode cL_law 49 = .ok (.aload_n 1, 1) := by decide +kernel
theorem dL_law_50 : decode cL_law 50 = .ok (.invokevirtual 84, 3) := by decide +kernel
theorem dL_law_53 : decode cL_law 53 = .ok (.ifCond .ne 27, 3) := by decide +kernel
theorem dL_law_56 : decode cL_law 56 = .ok (.aload_n 1, 1) := by decide +kernel
theorem dL_law_57 : decode cL_law 57 = .ok (.invokevirtual 87, 3) := by decide +kernel
theorem dL_law_60 : decode cL_law 60 = .ok (.ifCond .ne 20, 3) := by decide +kernel
theorem dL_law_63 : decode cL_law 63 = .ok (.aload_n 1, 1) := by decide +kernel
theorem dL_law_64 : decode cL_law 64 = .ok (.iconst 0, 1) := by decide +kernel
theorem dL_law_65 : decode cL_law 65 = .ok (.invokevirtual 56, 3) := by decide +kernel
theorem dL_law_68 : decode cL_law 68 = .ok (.bipush 100, 2) := by decide +kernel
theorem dL_law_70 : decode cL_law 70 = .ok (.if_icmp .ne 10, 3) := by decide +kernel
theorem dL_law_73 : decode cL_law 73 = .ok (.aload_n 1, 1) := by decide +kernel
theorem dL_law_74 : decode cL_law 74 = .ok (.invokestatic 91, 3) := by decide +kernel
theorem dL_law_77 : decode cL_law 77 = .ok (.ifCond .ne 5, 3) := by decide +kernel
theorem dL_law_80 : decode cL_law 80 = .ok (.iconst 0, 1) := by decide +kernel
theorem dL_law_81 : decode cL_law 81 = .ok (.ireturn, 1) := by decide +kernel
theorem dL_law_82 : decode cL_law 82 = .ok (.iconst 1, 1) := by decide +kernel
theorem dL_law_83 : decode cL_law 83 = .ok (.aload_n 0, 1) := by decide +kernel
theorem dL_law_84 : decode cL_law 84 = .ok (.iconst 0, 1) := by decide +kernel
theorem dL_law_85 : decode cL_law 85 = .ok (.invokestatic 97, 3) := by decide +kernel
theorem dL_law_88 : decode cL_law 88 = .ok (.bipush 80, 2) := by decide +kernel
theorem dL_law_90 : decode cL_law 90 = .ok (.invokestatic 101, 3) := by decide +kernel
theorem dL_law_93 : decode cL_law 93 = .ok (.iadd, 1) := by decide +kernel
theorem dL_law_94 : decode cL_law 94 = .ok (.istore_n 2, 1) := by decide +kernel
theorem dL_law_95 : decode cL_law 95 = .ok (.aload_n 1, 1) := by decide +kernel
theorem dL_law_96 : decode cL_law 96 = .ok (.aload_n 0, 1) := by decide +kernel
theorem dL_law_97 : decode cL_law 97 = .ok (.iconst 1, 1) := by decide +kernel
theorem dL_law_98 : decode cL_law 98 = .ok (.invokestatic 97, 3) := by decide +kernel
theorem dL_law_101 : decode cL_law 101 = .ok (.iload_n 2, 1) := by decide +kernel
theorem dL_law_102 : decode cL_law 102 = .ok (.invokevirtual 23, 3) := by decide +kernel
theorem dL_law_105 : decode cL_law 105 = .ok (.iload_n 2, 1) := by decide +kernel
theorem dL_law_106 : decode cL_law 106 = .ok (.if_icmp .ne 66, 3) := by decide +kernel
theorem dL_law_109 : decode cL_law 109 = .ok (.aload_n 1, 1) := by decide +kernel
theorem dL_law_110 : decode cL_law 110 = .ok (.aload_n 0, 1) := by decide +kernel
theorem dL_law_111 : decode cL_law 111 = .ok (.iconst 0, 1) := by decide +kernel
theorem dL_law_112 : decode cL_law 112 = .ok (.invokestatic 97, 3) := by decide +kernel
theorem dL_law_115 : decode cL_law 115 = .ok (.bipush 7, 2) := by decide +kernel
theorem dL_law_117 : decode cL_law 117 = .ok (.ishr, 1) := by decide +kernel
theorem dL_law_118 : decode cL_law 118 = .ok (.iconst 3, 1) := by decide +kernel
theorem dL_law_119 : decode cL_law 119 = .ok (.invokestatic 101, 3) := by decide +kernel
theorem dL_law_122 : decode cL_law 122 = .ok (.iconst 1, 1) := by decide +kernel
theorem dL_law_123 : decode cL_law 123 = .ok (.aload_n 0, 1) := by decide +kernel
theorem dL_law_124 : decode cL_law 124 = .ok (.iconst 0, 1) := by decide +kernel
theorem dL_law_125 : decode cL_law 125 = .ok (.invokestatic 97, 3) := by decide +kernel
theorem dL_law_128 : decode cL_law 128 = .ok (.bipush 9, 2) := by decide +kernel
theorem dL_law_130 : decode cL_law 130 = .ok (.ishr, 1) := by decide +kernel
theorem dL_law_131 : decode cL_law 131 = .ok (.bipush 20, 2) := by decide +kernel
theorem dL_law_133 : decode cL_law 133 = .ok (.invokestatic 101, 3) := by decide +kernel
theorem dL_law_136 : decode cL_law 136 = .ok (.iadd, 1) := by decide +kernel
theorem dL_law_137 : decode cL_law 137 = .ok (.invokevirtual 19, 3) := by decide +kernel
theorem dL_law_140 : decode cL_law 140 = .ok (.iload_n 2, 1) := by decide +kernel
theorem dL_law_141 : decode cL_law 141 = .ok (.if_icmp .le 31, 3) := by decide +kernel
theorem dL_law_144 : decode cL_law 144 = .ok (.aload_n 1, 1) := by decide +kernel
theorem dL_law_145 : decode cL_law 145 = .ok (.aload_n 0, 1) := by decide +kernel
theorem dL_law_146 : decode cL_law 146 = .ok (.iconst 2, 1) := by decide +kernel
theorem dL_law_147 : decode cL_law 147 = .ok (.invokestatic 97, 3) := by decide +kernel
theorem dL_law_150 : decode cL_law 150 = .ok (.iconst 1, 1) := by decide +kernel
theorem dL_law_151 : decode cL_law 151 = .ok (.aload_n 0, 1) := by decide +kernel
theorem dL_law_152 : decode cL_law 152 = .ok (.iconst 0, 1) := by decide +kernel
theorem dL_law_153 : decode cL_law 153 = .ok (.invokestatic 97, 3) := by decide +kernel
theorem dL_law_156 : decode cL_law 156 = .ok (.bipush 14, 2) := by decide +kernel
theorem dL_law_158 : decode cL_law 158 = .ok (.ishr, 1) := by decide +kernel
theorem dL_law_159 : decode cL_law 159 = .ok (.bipush 40, 2) := by decide +kernel
theorem dL_law_161 : decode cL_law 161 = .ok (.invokestatic 101, 3) := by decide +kernel
theorem dL_law_164 : decode cL_law 164 = .ok (.iadd, 1) := by decide +kernel
theorem dL_law_165 : decode cL_law 165 = .ok (.invokevirtual 23, 3) := by decide +kernel
theorem dL_law_168 : decode cL_law 168 = .ok (.iload_n 2, 1) := by decide +kernel
theorem dL_law_169 : decode cL_law 169 = .ok (.if_icmp .gt 5, 3) := by decide +kernel
theorem dL_law_172 : decode cL_law 172 = .ok (.iconst 0, 1) := by decide +kernel
theorem dL_law_173 : decode cL_law 173 = .ok (.ireturn, 1) := by decide +kernel
theorem dL_law_174 : decode cL_law 174 = .ok (.aload_n 1, 1) := by decide +kernel
theorem dL_law_175 : decode cL_law 175 = .ok (.bipush 7, 2) := by decide +kernel
theorem dL_law_177 : decode cL_law 177 = .ok (.invokevirtual 15, 3) := by decide +kernel
theorem dL_law_180 : decode cL_law 180 = .ok (.istore_n 3, 1) := by decide +kernel
theorem dL_law_181 : decode cL_law 181 = .ok (.aload_n 1, 1) := by decide +kernel
theorem dL_law_182 : decode cL_law 182 = .ok (.iconst 1, 1) := by decide +kernel
theorem dL_law_183 : decode cL_law 183 = .ok (.aload_n 0, 1) := by decide +kernel
theorem dL_law_184 : decode cL_law 184 = .ok (.iconst 3, 1) := by decide +kernel
theorem dL_law_185 : decode cL_law 185 = .ok (.invokestatic 97, 3) := by decide +kernel
theorem dL_law_188 : decode cL_law 188 = .ok (.bipush 10, 2) := by decide +kernel
theorem dL_law_190 : decode cL_law 190 = .ok (.invokestatic 101, 3) := by decide +kernel
theorem dL_law_193 : decode cL_law 193 = .ok (.invokevirtual 37, 3) := by decide +kernel
theorem dL_law_196 : decode cL_law 196 = .ok (.iconst 1, 1) := by decide +kernel
theorem dL_law_197 : decode cL_law 197 = .ok (.if_icmp .ne 115, 3) := by decide +kernel
theorem dL_law_200 : decode cL_law 200 = .ok (.aload_n 1, 1) := by decide +kernel
theorem dL_law_201 : decode cL_law 201 = .ok (.iconst 2, 1) := by decide +kernel
theorem dL_law_202 : decode cL_law 202 = .ok (.aload_n 0, 1) := by decide +kernel
theorem dL_law_203 : decode cL_law 203 = .ok (.iconst 3, 1) := by decide +kernel
theorem dL_law_204 : decode cL_law 204 = .ok (.invokestatic 97, 3) := by decide +kernel
theorem dL_law_207 : decode cL_law 207 = .ok (.iconst 4, 1) := by decide +kernel
theorem dL_law_208 : decode cL_law 208 = .ok (.ishr, 1) := by decide +kernel
theorem dL_law_209 : decode cL_law 209 = .ok (.bipush 21, 2) := by decide +kernel
theorem dL_law_211 : decode cL_law 211 = .ok (.invokestatic 101, 3) := by decide +kernel
theorem dL_law_214 : decode cL_law 214 = .ok (.invokevirtual 37, 3) := by decide +kernel
theorem dL_law_217 : decode cL_law 217 = .ok (.iconst 5, 1) := by decide +kernel
theorem dL_law_218 : decode cL_law 218 = .ok (.if_icmp .ne 94, 3) := by decide +kernel
theorem dL_law_221 : decode cL_law 221 = .ok (.aload_n 1, 1) := by decide +kernel
theorem dL_law_222 : decode cL_law 222 = .ok (.iconst 3, 1) := by decide +kernel
theorem dL_law_223 : decode cL_law 223 = .ok (.aload_n 0, 1) := by decide +kernel
theorem dL_law_224 : decode cL_law 224 = .ok (.iconst 3, 1) := by decide +kernel
theorem dL_law_225 : decode cL_law 225 = .ok (.invokestatic 97, 3) := by decide +kernel
theorem dL_law_228 : decode cL_law 228 = .ok (.bipush 9, 2) := by decide +kernel
theorem dL_law_230 : decode cL_law 230 = .ok (.ishr, 1) := by decide +kernel
theorem dL_law_231 : decode cL_law 231 = .ok (.bipush 12, 2) := by decide +kernel
theorem dL_law_233 : decode cL_law 233 = .ok (.invokestatic 101, 3) := by decide +kernel
theorem dL_law_236 : decode cL_law 236 = .ok (.invokevirtual 37, 3) := by decide +kernel
theorem dL_law_239 : decode cL_law 239 = .ok (.iconst 4, 1) := by decide +kernel
theorem dL_law_240 : decode cL_law 240 = .ok (.if_icmp .ne 72, 3) := by decide +kernel
theorem dL_law_243 : decode cL_law 243 = .ok (.aload_n 1, 1) := by decide +kernel
theorem dL_law_244 : decode cL_law 244 = .ok (.iconst 4, 1) := by decide +kernel
theorem dL_law_245 : decode cL_law 245 = .ok (.aload_n 0, 1) := by decide +kernel
theorem dL_law_246 : decode cL_law 246 = .ok (.iconst 3, 1) := by decide +kernel
theorem dL_law_247 : decode cL_law 247 = .ok (.invokestatic 97, 3) := by decide +kernel
theorem dL_law_250 : decode cL_law 250 = .ok (.bipush 13, 2) := by decide +kernel
theorem dL_law_252 : decode cL_law 252 = .ok (.ishr, 1) := by decide +kernel
theorem dL_law_253 : decode cL_law 253 = .ok (.bipush 101, 2) := by decide +kernel
theorem dL_law_255 : decode cL_law 255 = .ok (.invokestatic 101, 3) := by decide +kernel
theorem dL_law_258 : decode cL_law 258 = .ok (.invokevirtual 37, 3) := by decide +kernel
theorem dL_law_261 : decode cL_law 261 = .ok (.bipush 50, 2) := by decide +kernel
theorem dL_law_263 : decode cL_law 263 = .ok (.if_icmp .ne 49, 3) := by decide +kernel
theorem dL_law_266 : decode cL_law 266 = .ok (.aload_n 1, 1) := by decide +kernel
theorem dL_law_267 : decode cL_law 267 = .ok (.iconst 5, 1) := by decide +kernel
theorem dL_law_268 : decode cL_law 268 = .ok (.aload_n 0, 1) := by decide +kernel
theorem dL_law_269 : decode cL_law 269 = .ok (.iconst 3, 1) := by decide +kernel
theorem dL_law_270 : decode cL_law 270 = .ok (.invokestatic 97, 3) := by decide +kernel
theorem dL_law_273 : decode cL_law 273 = .ok (.bipush 20, 2) := by decide +kernel
theorem dL_law_275 : decode cL_law 275 = .ok (.ishr, 1) := by decide +kernel
theorem dL_law_276 : decode cL_law 276 = .ok (.bipush 9, 2) := by decide +kernel
theorem dL_law_278 : decode cL_law 278 = .ok (.invokestatic 101, 3) := by decide +kernel
theorem dL_law_281 : decode cL_law 281 = .ok (.invokevirtual 37, 3) := by decide +kernel
theorem dL_law_284 : decode cL_law 284 = .ok (.bipush 6, 2) := by decide +kernel
theorem dL_law_286 : decode cL_law 286 = .ok (.if_icmp .ne 26, 3) := by decide +kernel
theorem dL_law_289 : decode cL_law 289 = .ok (.aload_n 1, 1) := by decide +kernel
theorem dL_law_290 : decode cL_law 290 = .ok (.bipush 6, 2) := by decide +kernel
theorem dL_law_292 : decode cL_law 292 = .ok (.aload_n 0, 1) := by decide +kernel
theorem dL_law_293 : decode cL_law 293 = .ok (.iconst 3, 1) := by decide +kernel
theorem dL_law_294 : decode cL_law 294 = .ok (.invokestatic 97, 3) := by decide +kernel
theorem dL_law_297 : decode cL_law 297 = .ok (.bipush 24, 2) := by decide +kernel
theorem dL_law_299 : decode cL_law 299 = .ok (.ishr, 1) := by decide +kernel
theorem dL_law_300 : decode cL_law 300 = .ok (.bipush 6, 2) := by decide +kernel
theorem dL_law_302 : decode cL_law 302 = .ok (.invokestatic 101, 3) := by decide +kernel
theorem dL_law_305 : decode cL_law 305 = .ok (.invokevirtual 37, 3) := by decide +kernel
theorem dL_law_308 : decode cL_law 308 = .ok (.iconst 2, 1) := by decide +kernel
theorem dL_law_309 : decode cL_law 309 = .ok (.if_icmp .eq 5, 3) := by decide +kernel
theorem dL_law_312 : decode cL_law 312 = .ok (.iconst 0, 1) := by decide +kernel
theorem dL_law_313 : decode cL_law 313 = .ok (.ireturn, 1) := by decide +kernel
theorem dL_law_314 : decode cL_law 314 = .ok (.iconst 0, 1) := by decide +kernel
theorem dL_law_315 : decode cL_law 315 = .ok (.istore 4, 2) := by decide +kernel
theorem dL_law_317 : decode cL_law 317 = .ok (.iload 4, 2) := by decide +kernel
theorem dL_law_319 : decode cL_law 319 = .ok (.bipush 16, 2) := by decide +kernel
theorem dL_law_321 : decode cL_law 321 = .ok (.if_icmp .ge 243, 3) := by decide +kernel
theorem dL_law_324 : decode cL_law 324 = .ok (.aload_n 0, 1) := by decide +kernel
theorem dL_law_325 : decode cL_law 325 = .ok (.iconst 4, 1) := by decide +kernel
theorem dL_law_326 : decode cL_law 326 = .ok (.iload 4, 2) := by decide +kernel
theorem dL_law_328 : decode cL_law 328 = .ok (.iadd, 1) := by decide +kernel
theorem dL_law_329 : decode cL_law 329 = .ok (.invokestatic 97, 3) := by decide +kernel
theorem dL_law_332 : decode cL_law 332 = .ok (.istore 5, 2) := by decide +kernel
theorem dL_law_334 : decode cL_law 334 = .ok (.iload 5, 2) := by decide +kernel
theorem dL_law_336 : decode cL_law 336 = .ok (.iconst 2, 1) := by decide +kernel
theorem dL_law_337 : decode cL_law 337 = .ok (.ishr, 1) := by decide +kernel
theorem dL_law_338 : decode cL_law 338 = .ok (.iload_n 3, 1) := by decide +kernel
theorem dL_law_339 : decode cL_law 339 = .ok (.invokestatic 101, 3) := by decide +kernel
theorem dL_law_342 : decode cL_law 342 = .ok (.istore 6, 2) := by decide +kernel
theorem dL_law_344 : decode cL_law 344 = .ok (.iload 6, 2) := by decide +kernel
theorem dL_law_346 : decode cL_law 346 = .ok (.iconst 1, 1) := by decide +kernel
theorem dL_law_347 : decode cL_law 347 = .ok (.iadd, 1) := by decide +kernel
theorem dL_law_348 : decode cL_law 348 = .ok (.iload 5, 2) := by decide +kernel
theorem dL_law_350 : decode cL_law 350 = .ok (.bipush 10, 2) := by decide +kernel
theorem dL_law_352 : decode cL_law 352 = .ok (.ishr, 1) := by decide +kernel
theorem dL_law_353 : decode cL_law 353 = .ok (.bipush 9, 2) := by decide +kernel
theorem dL_law_355 : decode cL_law 355 = .ok (.invokestatic 101, 3) := by decide +kernel
theorem dL_law_358 : decode cL_law 358 = .ok (.iadd, 1) := by decide +kernel
theorem dL_law_359 : decode cL_law 359 = .ok (.istore 7, 2) := by decide +kernel
theorem dL_law_361 : decode cL_law 361 = .ok (.aload_n 1, 1) := by decide +kernel
theorem dL_law_362 : decode cL_law 362 = .ok (.bipush 8, 2) := by decide +kernel
theorem dL_law_364 : decode cL_law 364 = .ok (.invokevirtual 15, 3) := by decide +kernel
theorem dL_law_367 : decode cL_law 367 = .ok (.istore 8, 2) := by decide +kernel
theorem dL_law_369 : decode cL_law 369 = .ok (.iload 7, 2) := by decide +kernel
theorem dL_law_371 : decode cL_law 371 = .ok (.iload_n 3, 1) := by decide +kernel
theorem dL_law_372 : decode cL_law 372 = .ok (.if_icmp .gt 7, 3) := by decide +kernel
theorem dL_law_375 : decode cL_law 375 = .ok (.iconst 1, 1) := by decide +kernel
theorem dL_law_376 : decode cL_law 376 = .ok (.goto 4, 3) := by decide +kernel
theorem dL_law_379 : decode cL_law 379 = .ok (.iconst 0, 1) := by decide +kernel
theorem dL_law_380 : decode cL_law 380 = .ok (.istore 9, 2) := by decide +kernel
theorem dL_law_382 : decode cL_law 382 = .ok (.iconst 1, 1) := by decide +kernel
theorem dL_law_383 : decode cL_law 383 = .ok (.istore 10, 2) := by decide +kernel
theorem dL_law_385 : decode cL_law 385 = .ok (.iconst 0, 1) := by decide +kernel
theorem dL_law_386 : decode cL_law 386 = .ok (.istore 11, 2) := by decide +kernel
theorem dL_law_388 : decode cL_law 388 = .ok (.iconst 0, 1) := by decide +kernel
theorem dL_law_389 : decode cL_law 389 = .ok (.istore 12, 2) := by decide +kernel
theorem dL_law_391 : decode cL_law 391 = .ok (.iload 12, 2) := by decide +kernel
theorem dL_law_393 : decode cL_law 393 = .ok (.iload 8, 2) := by decide +kernel
theorem dL_law_395 : decode cL_law 395 = .ok (.if_icmp .ge 67, 3) := by decide +kernel
theorem dL_law_398 : decode cL_law 398 = .ok (.iload 10, 2) := by decide +kernel
theorem dL_law_400 : decode cL_law 400 = .ok (.ifCond .eq 31, 3) := by decide +kernel
theorem dL_law_403 : decode cL_law 403 = .ok (.aload_n 1, 1) := by decide +kernel
theorem dL_law_404 : decode cL_law 404 = .ok (.iload 12, 2) := by decide +kernel
theorem dL_law_406 : decode cL_law 406 = .ok (.iconst 1, 1) := by decide +kernel
theorem dL_law_407 : decode cL_law 407 = .ok (.invokevirtual 40, 3) := by decide +kernel
theorem dL_law_410 : decode cL_law 410 = .ok (.iload 7, 2) := by decide +kernel
theorem dL_law_412 : decode cL_law 412 = .ok (.if_icmp .ge 15, 3) := by decide +kernel
theorem dL_law_415 : decode cL_law 415 = .ok (.aload_n 1, 1) := by decide +kernel
theorem dL_law_416 : decode cL_law 416 = .ok (.iload 12, 2) := by decide +kernel
theorem dL_law_418 : decode cL_law 418 = .ok (.iconst 2, 1) := by decide +kernel
theorem dL_law_419 : decode cL_law 419 = .ok (.invokevirtual 40, 3) := by decide +kernel
theorem dL_law_422 : decode cL_law 422 = .ok (.iload 6, 2) := by decide +kernel
theorem dL_law_424 : decode cL_law 424 = .ok (.if_icmp .gt 7, 3) := by decide +kernel
theorem dL_law_427 : decode cL_law 427 = .ok (.iconst 1, 1) := by decide +kernel
theorem dL_law_428 : decode cL_law 428 = .ok (.goto 4, 3) := by decide +kernel
theorem dL_law_431 : decode cL_law 431 = .ok (.iconst 0, 1) := by decide +kernel
theorem dL_law_432 : decode cL_law 432 = .ok (.istore 10, 2) := by decide +kernel
theorem dL_law_434 : decode cL_law 434 = .ok (.iload 11, 2) := by decide +kernel
theorem dL_law_436 : decode cL_law 436 = .ok (.aload_n 1, 1) := by decide +kernel
theorem dL_law_437 : decode cL_law 437 = .ok (.iload 12, 2) := by decide +kernel
theorem dL_law_439 : decode cL_law 439 = .ok (.iconst 1, 1) := by decide +kernel
theorem dL_law_440 : decode cL_law 440 = .ok (.invokevirtual 40, 3) := by decide +kernel
theorem dL_law_443 : decode cL_law 443 = .ok (.iload 6, 2) := by decide +kernel
theorem dL_law_445 : decode cL_law 445 = .ok (.if_icmp .ge 7, 3) := by decide +kernel
theorem dL_law_448 : decode cL_law 448 = .ok (.iconst 1, 1) := by decide +kernel
theorem dL_law_449 : decode cL_law 449 = .ok (.goto 4, 3) := by decide +kernel
theorem dL_law_452 : decode cL_law 452 = .ok (.iconst 0, 1) := by decide +kernel
theorem dL_law_453 : decode cL_law 453 = .ok (.iadd, 1) := by decide +kernel
theorem dL_law_454 : decode cL_law 454 = .ok (.istore 11, 2) := by decide +kernel
theorem dL_law_456 : decode cL_law 456 = .ok (.iinc 12 1, 3) := by decide +kernel
theorem dL_law_459 : decode cL_law 459 = .ok (.goto (-68), 3) := by decide +kernel
theorem dL_law_462 : decode cL_law 462 = .ok (.aload_n 1, 1) := by decide +kernel
theorem dL_law_463 : decode cL_law 463 = .ok (.iload 5, 2) := by decide +kernel
theorem dL_law_465 : decode cL_law 465 = .ok (.iconst 4, 1) := by decide +kernel
theorem dL_law_466 : decode cL_law 466 = .ok (.invokestatic 101, 3) := by decide +kernel
theorem dL_law_469 : decode cL_law 469 = .ok (.iload 6, 2) := by decide +kernel
theorem dL_law_471 : decode cL_law 471 = .ok (.iload 7, 2) := by decide +kernel
theorem dL_law_473 : decode cL_law 473 = .ok (.iload 5, 2) := by decide +kernel
theorem dL_law_475 : decode cL_law 475 = .ok (.bipush 14, 2) := by decide +kernel
theorem dL_law_477 : decode cL_law 477 = .ok (.ishr, 1) := by decide +kernel
theorem dL_law_478 : decode cL_law 478 = .ok (.bipush 101, 2) := by decide +kernel
theorem dL_law_480 : decode cL_law 480 = .ok (.invokestatic 101, 3) := by decide +kernel
theorem dL_law_483 : decode cL_law 483 = .ok (.invokevirtual 26, 3) := by decide +kernel
theorem dL_law_486 : decode cL_law 486 = .ok (.istore 12, 2) := by decide +kernel
theorem dL_law_488 : decode cL_law 488 = .ok (.iload 12, 2) := by decide +kernel
theorem dL_law_490 : decode cL_law 490 = .ok (.iload 9, 2) := by decide +kernel
theorem dL_law_492 : decode cL_law 492 = .ok (.ifCond .ne 7, 3) := by decide +kernel
theorem dL_law_495 : decode cL_law 495 = .ok (.iconst (-1), 1) := by decide +kernel
theorem dL_law_496 : decode cL_law 496 = .ok (.goto 15, 3) := by decide +kernel
theorem dL_law_499 : decode cL_law 499 = .ok (.iload 10, 2) := by decide +kernel
theorem dL_law_501 : decode cL_law 501 = .ok (.ifCond .ne 8, 3) := by decide +kernel
theorem dL_law_504 : decode cL_law 504 = .ok (.bipush (-2), 2) := by decide +kernel
theorem dL_law_506 : decode cL_law 506 = .ok (.goto 5, 3) := by decide +kernel
theorem dL_law_509 : decode cL_law 509 = .ok (.iload 11, 2) := by decide +kernel
theorem dL_law_511 : decode cL_law 511 = .ok (.if_icmp .ne 45, 3) := by decide +kernel
theorem dL_law_514 : decode cL_law 514 = .ok (.iload 12, 2) := by decide +kernel
theorem dL_law_516 : decode cL_law 516 = .ok (.ifCond .lt 42, 3) := by decide +kernel
theorem dL_law_519 : decode cL_law 519 = .ok (.aload_n 1, 1) := by decide +kernel
theorem dL_law_520 : decode cL_law 520 = .ok (.iload 12, 2) := by decide +kernel
theorem dL_law_522 : decode cL_law 522 = .ok (.iconst 1, 1) := by decide +kernel
theorem dL_law_523 : decode cL_law 523 = .ok (.invokevirtual 40, 3) := by decide +kernel
theorem dL_law_526 : decode cL_law 526 = .ok (.iload 6, 2) := by decide +kernel
theorem dL_law_528 : decode cL_law 528 = .ok (.if_icmp .ne 28, 3) := by decide +kernel
theorem dL_law_531 : decode cL_law 531 = .ok (.aload_n 1, 1) := by decide +kernel
theorem dL_law_532 : decode cL_law 532 = .ok (.iload 12, 2) := by decide +kernel
theorem dL_law_534 : decode cL_law 534 = .ok (.iconst 2, 1) := by decide +kernel
theorem dL_law_535 : decode cL_law 535 = .ok (.invokevirtual 40, 3) := by decide +kernel
theorem dL_law_538 : decode cL_law 538 = .ok (.iload 7, 2) := by decide +kernel
theorem dL_law_540 : decode cL_law 540 = .ok (.if_icmp .ne 16, 3) := by decide +kernel
theorem dL_law_543 : decode cL_law 543 = .ok (.aload_n 1, 1) := by decide +kernel
theorem dL_law_544 : decode cL_law 544 = .ok (.bipush 8, 2) := by decide +kernel
theorem dL_law_546 : decode cL_law 546 = .ok (.invokevirtual 15, 3) := by decide +kernel
theorem dL_law_549 : decode cL_law 549 = .ok (.iload 8, 2) := by decide +kernel
theorem dL_law_551 : decode cL_law 551 = .ok (.iconst 1, 1) := by decide +kernel
theorem dL_law_552 : decode cL_law 552 = .ok (.iadd, 1) := by decide +kernel
theorem dL_law_553 : decode cL_law 553 = .ok (.if_icmp .eq 5, 3) := by decide +kernel
theorem dL_law_556 : decode cL_law 556 = .ok (.iconst 0, 1) := by decide +kernel
theorem dL_law_557 : decode cL_law 557 = .ok (.ireturn, 1) := by decide +kernel
theorem dL_law_558 : decode cL_law 558 = .ok (.iinc 4 1, 3) := by decide +kernel
theorem dL_law_561 : decode cL_law 561 = .ok (.goto (-244), 3) := by decide +kernel
theorem dL_law_564 : decode cL_law 564 = .ok (.iconst 0, 1) := by decide +kernel
theorem dL_law_565 : decode cL_law 565 = .ok (.istore 4, 2) := by decide +kernel
theorem dL_law_567 : decode cL_law 567 = .ok (.iload 4, 2) := by decide +kernel
theorem dL_law_569 : decode cL_law 569 = .ok (.iconst 4, 1) := by decide +kernel
theorem dL_law_570 : decode cL_law 570 = .ok (.if_icmp .ge 193, 3) := by decide +kernel
theorem dL_law_573 : decode cL_law 573 = .ok (.aload_n 1, 1) := by decide +kernel
theorem dL_law_574 : decode cL_law 574 = .ok (.invokestatic 104, 3) := by decide +kernel
theorem dL_law_577 : decode cL_law 577 = .ok (.ifCond .eq 31, 3) := by decide +kernel
theorem dL_law_580 : decode cL_law 580 = .ok (.aload_n 1, 1) := by decide +kernel
theorem dL_law_581 : decode cL_law 581 = .ok (.invokestatic 106, 3) := by decide +kernel
theorem dL_law_584 : decode cL_law 584 = .ok (.ifCond .eq 24, 3) := by decide +kernel
theorem dL_law_587 : decode cL_law 587 = .ok (.aload_n 1, 1) := by decide +kernel
theorem dL_law_588 : decode cL_law 588 = .ok (.aload_n 0, 1) := by decide +kernel
theorem dL_law_589 : decode cL_law 589 = .ok (.bipush 20, 2) := by decide +kernel
theorem dL_law_591 : decode cL_law 591 = .ok (.iload 4, 2) := by decide +kernel
theorem dL_law_593 : decode cL_law 593 = .ok (.iadd, 1) := by decide +kernel
theorem dL_law_594 : decode cL_law 594 = .ok (.invokestatic 97, 3) := by decide +kernel
theorem dL_law_597 : decode cL_law 597 = .ok (.bipush 60, 2) := by decide +kernel
theorem dL_law_599 : decode cL_law 599 = .ok (.invokestatic 101, 3) := by decide +kernel
theorem dL_law_602 : decode cL_law 602 = .ok (.invokestatic 109, 3) := by decide +kernel
theorem dL_law_605 : decode cL_law 605 = .ok (.ifCond .ne 5, 3) := by decide +kernel
theorem dL_law_608 : decode cL_law 608 = .ok (.iconst 0, 1) := by decide +kernel
theorem dL_law_609 : decode cL_law 609 = .ok (.ireturn, 1) := by decide +kernel
theorem dL_law_610 : decode cL_law 610 = .ok (.aload_n 1, 1) := by decide +kernel
theorem dL_law_611 : decode cL_law 611 = .ok (.bipush 8, 2) := by decide +kernel
theorem dL_law_613 : decode cL_law 613 = .ok (.invokevirtual 15, 3) := by decide +kernel
theorem dL_law_616 : decode cL_law 616 = .ok (.istore 5, 2) := by decide +kernel
theorem dL_law_618 : decode cL_law 618 = .ok (.aload_n 0, 1) := by decide +kernel
theorem dL_law_619 : decode cL_law 619 = .ok (.bipush 24, 2) := by decide +kernel
theorem dL_law_621 : decode cL_law 621 = .ok (.iload 4, 2) := by decide +kernel
theorem dL_law_623 : decode cL_law 623 = .ok (.iadd, 1) := by decide +kernel
theorem dL_law_624 : decode cL_law 624 = .ok (.invokestatic 97, 3) := by decide +kernel
theorem dL_law_627 : decode cL_law 627 = .ok (.istore 6, 2) := by decide +kernel
theorem dL_law_629 : decode cL_law 629 = .ok (.iload 5, 2) := by decide +kernel
theorem dL_law_631 : decode cL_law 631 = .ok (.ifCond .le 126, 3) := by decide +kernel
theorem dL_law_634 : decode cL_law 634 = .ok (.iload 6, 2) := by decide +kernel
theorem dL_law_636 : decode cL_law 636 = .ok (.iload 5, 2) := by decide +kernel
theorem dL_law_638 : decode cL_law 638 = .ok (.invokestatic 101, 3) := by decide +kernel
theorem dL_law_641 : decode cL_law 641 = .ok (.istore 7, 2) := by decide +kernel
theorem dL_law_643 : decode cL_law 643 = .ok (.aload_n 1, 1) := by decide +kernel
theorem dL_law_644 : decode cL_law 644 = .ok (.iload 7, 2) := by decide +kernel
theorem dL_law_646 : decode cL_law 646 = .ok (.iconst 4, 1) := by decide +kernel
theorem dL_law_647 : decode cL_law 647 = .ok (.invokevirtual 40, 3) := by decide +kernel
theorem dL_law_650 : decode cL_law 650 = .ok (.istore 8, 2) := by decide +kernel
theorem dL_law_652 : decode cL_law 652 = .ok (.aload_n 1, 1) := by decide +kernel
theorem dL_law_653 : decode cL_law 653 = .ok (.invokevirtual 9, 3) := by decide +kernel
theorem dL_law_656 : decode cL_law 656 = .ok (.lstore 9, 2) := by decide +kernel
theorem dL_law_658 : decode cL_law 658 = .ok (.aload_n 1, 1) := by decide +kernel
theorem dL_law_659 : decode cL_law 659 = .ok (.iload 7, 2) := by decide +kernel
theorem dL_law_661 : decode cL_law 661 = .ok (.iload 6, 2) := by decide +kernel
theorem dL_law_663 : decode cL_law 663 = .ok (.sipush 256, 3) := by decide +kernel
theorem dL_law_666 : decode cL_law 666 = .ok (.iand, 1) := by decide +kernel
theorem dL_law_667 : decode cL_law 667 = .ok (.ifCond .eq 7, 3) := by decide +kernel
theorem dL_law_670 : decode cL_law 670 = .ok (.iconst 1, 1) := by decide +kernel
theorem dL_law_671 : decode cL_law 671 = .ok (.goto 4, 3) := by decide +kernel
theorem dL_law_674 : decode cL_law 674 = .ok (.iconst 0, 1) := by decide +kernel
theorem dL_law_675 : decode cL_law 675 = .ok (.invokevirtual 33, 3) := by decide +kernel
theorem dL_law_678 : decode cL_law 678 = .ok (.iload 8, 2) := by decide +kernel
theorem dL_law_680 : decode cL_law 680 = .ok (.if_icmp .ne 27, 3) := by decide +kernel
theorem dL_law_683 : decode cL_law 683 = .ok (.aload_n 1, 1) := by decide +kernel
theorem dL_law_684 : decode cL_law 684 = .ok (.invokestatic 104, 3) := by decide +kernel
theorem dL_law_687 : decode cL_law 687 = .ok (.ifCond .eq 20, 3) := by decide +kernel
theorem dL_law_690 : decode cL_law 690 = .ok (.aload_n 1, 1) := by decide +kernel
theorem dL_law_691 : decode cL_law 691 = .ok (.invokevirtual 74, 3) := by decide +kernel
theorem dL_law_694 : decode cL_law 694 = .ok (.ifCond .lt 13, 3) := by decide +kernel
theorem dL_law_697 : decode cL_law 697 = .ok (.aload_n 1, 1) := by decide +kernel
theorem dL_law_698 : decode cL_law 698 = .ok (.invokevirtual 9, 3) := by decide +kernel
theorem dL_law_701 : decode cL_law 701 = .ok (.lload 9, 2) := by decide +kernel
theorem dL_law_703 : decode cL_law 703 = .ok (.lcmp, 1) := by decide +kernel
theorem dL_law_704 : decode cL_law 704 = .ok (.ifCond .eq 5, 3) := by decide +kernel
theorem dL_law_707 : decode cL_law 707 = .ok (.iconst 0, 1) := by decide +kernel
theorem dL_law_708 : decode cL_law 708 = .ok (.ireturn, 1) := by decide +kernel
theorem dL_law_709 : decode cL_law 709 = .ok (.iload 6, 2) := by decide +kernel
theorem dL_law_711 : decode cL_law 711 = .ok (.sipush 512, 3) := by decide +kernel
theorem dL_law_714 : decode cL_law 714 = .ok (.iand, 1) := by decide +kernel
theorem dL_law_715 : decode cL_law 715 = .ok (.ifCond .eq 19, 3) := by decide +kernel
theorem dL_law_718 : decode cL_law 718 = .ok (.aload_n 1, 1) := by decide +kernel
theorem dL_law_719 : decode cL_law 719 = .ok (.iload 7, 2) := by decide +kernel
theorem dL_law_721 : decode cL_law 721 = .ok (.invokevirtual 30, 3) := by decide +kernel
theorem dL_law_724 : decode cL_law 724 = .ok (.iload 5, 2) := by decide +kernel
theorem dL_law_726 : decode cL_law 726 = .ok (.iconst 1, 1) := by decide +kernel
theorem dL_law_727 : decode cL_law 727 = .ok (.isub, 1) := by decide +kernel
theorem dL_law_728 : decode cL_law 728 = .ok (.if_icmp .eq 29, 3) := by decide +kernel
theorem dL_law_731 : decode cL_law 731 = .ok (.goto 24, 3) := by decide +kernel
theorem dL_law_734 : decode cL_law 734 = .ok (.aload_n 1, 1) := by decide +kernel
theorem dL_law_735 : decode cL_law 735 = .ok (.iload 7, 2) := by decide +kernel
theorem dL_law_737 : decode cL_law 737 = .ok (.iload 8, 2) := by decide +kernel
theorem dL_law_739 : decode cL_law 739 = .ok (.ifCond .ne 7, 3) := by decide +kernel
theorem dL_law_742 : decode cL_law 742 = .ok (.iconst 1, 1) := by decide +kernel
theorem dL_law_743 : decode cL_law 743 = .ok (.goto 4, 3) := by decide +kernel
theorem dL_law_746 : decode cL_law 746 = .ok (.iconst 0, 1) := by decide +kernel
theorem dL_law_747 : decode cL_law 747 = .ok (.invokevirtual 33, 3) := by decide +kernel
theorem dL_law_750 : decode cL_law 750 = .ok (.iload 8, 2) := by decide +kernel
theorem dL_law_752 : decode cL_law 752 = .ok (.if_icmp .eq 5, 3) := by decide +kernel
theorem dL_law_755 : decode cL_law 755 = .ok (.iconst 0, 1) := by decide +kernel
theorem dL_law_756 : decode cL_law 756 = .ok (.ireturn, 1) := by decide +kernel
theorem dL_law_757 : decode cL_law 757 = .ok (.iinc 4 1, 3) := by decide +kernel
theorem dL_law_760 : decode cL_law 760 = .ok (.goto (-193), 3) := by decide +kernel
theorem dL_law_763 : decode cL_law 763 = .ok (.aload_n 1, 1) := by decide +kernel
theorem dL_law_764 : decode cL_law 764 = .ok (.invokestatic 91, 3) := by decide +kernel
theorem dL_law_767 : decode cL_law 767 = .ok (.ireturn, 1) := by decide +kernel
